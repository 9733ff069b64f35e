theorem co_f {σ : St} {t u : Int32} {x : Int64} (h : fIn t (s_nt σ) = false ∨ fIn u 256 = false ∨ (isSec x && decide (s_ck σ ≤ x)) = false ∨ s_cn σ (n_of t) = 200) : a_comment σ t u x = false := by
  unfold a_comment
  rw [Bool.and_assoc (fIn t (s_nt σ) && fIn u 256) (isSec x)]
  rcases h with h | h | h | h
  · rw [h]; rfl
  · rw [h, Bool.and_false]; rfl
  · rw [h, Bool.and_false]; rfl
  · rw [show decide (s_cn σ (n_of t) ≠ 200) = false from decide_eq_false (fun q => q h), Bool.and_false]
theorem co_n {σ : St} {t u : Int32} {x : Int64} (h : a_comment σ t u x = false) : n_comment σ t u x = σ := by rw [n_comment, h]; rfl
theorem co_t {σ : St} {t : Nat} {u : Int32} {x : Int64} (h1 : fIn (nI t) (s_nt σ) = true) (h2 : fIn u 256 = true) (h4 : (isSec x && decide (s_ck σ ≤ x)) = true) (ht : t < 2 ^ 31) (h3 : s_cn σ t ≠ 200) : a_comment σ (nI t) u x = true := by
  unfold a_comment
  rw [Bool.and_assoc (fIn (nI t) (s_nt σ) && fIn u 256) (isSec x), h1, h2, h4, n_of_nI ht, show decide (s_cn σ t ≠ 200) = true from decide_eq_true h3]
  rfl
theorem co_m {σ : St} {t u : Nat} {x : Int64} (h : a_comment σ (nI t) (nI u) x = true) (ht : t < 2 ^ 31) (hb : u < 2 ^ 31) : n_comment σ (nI t) (nI u) x = ((s_np σ, s_nr σ, s_nt σ, s_ns σ, s_nw σ, x), σ.2.1, (s_mk σ, s_ln σ, s_by σ, va_up (s_cn σ) t (s_cn σ t + 1), f2 (s_cm σ) t (s_cn σ t) u, σ.2.2.1.2.2.2.2.2), σ.2.2.2) := by
  rw [n_comment, h, n_of_nI ht, n_of_nI hb]
  rfl
theorem Rc_comm {σ : St} {w : FW} {t v : Nat} {bf df cf nf : Nat → Int32} {zf : Bool} {x : Int32} (hR : Rc σ w) (ht : t < s_nt σ) (e12 : w.2 12 t = some (aI 0 1000 bf)) (e13 : w.2 13 t = some (aI 1 8 df)) (e15 : w.2 15 t = some (aI 1 10 nf)) (hbf : ∀ j, j < s_ln σ t → bf j &&& 255 = nI (s_by σ t j)) (hcf : ∀ j, j < s_cn σ t → cf j &&& 255 = nI (s_cm σ t j)) (hnf : ∀ j, j < s_dn σ t → nf j = nI (s_nd σ t j)) (hzf : zf = false → ∀ j, j < 8 → df j = s_dg σ t j) (hx : x &&& 255 = nI v)
    {σ1 : St} (e : σ1 = (σ.1, σ.2.1, (s_mk σ, s_ln σ, s_by σ, va_up (s_cn σ) t (s_cn σ t + 1), f2 (s_cm σ) t (s_cn σ t) v, σ.2.2.1.2.2.2.2.2), σ.2.2.2)) : Rc σ1 (fset (fset w 14 t (aI 0 200 (upd cf (s_cn σ t) x))) 11 t (oO 3 [.int (nI (s_mk σ t)), .ref (w.1 12 t), .int (nI (s_ln σ t)), .ref (w.1 13 t), .int (b2i zf), .ref (w.1 14 t), .int (nI (s_cn σ t + 1)), .ref (w.1 15 t), .int (nI (s_dn σ t))])) := by
  refine Rc_thg hR ht (by rw [e]) (by rw [e]) (by rw [e]) rfl (fun k i h => ?_) ?_ (fun i hi => ?_)
  · rw [fset_off (by omega), fset_off (by omega)]
  · refine ⟨bf, df, upd cf (s_cn σ t) x, nf, zf, ?_, (fset_ne (by decide)).trans ((fset_ne (by decide)).trans e12), (fset_ne (by decide)).trans ((fset_ne (by decide)).trans e13), (fset_ne (by decide)).trans fset_at, (fset_ne (by decide)).trans ((fset_ne (by decide)).trans e15), ?_, ?_, ?_, ?_⟩
    · subst e
      refine fset_at.trans ?_
      show some (oO 3 [_, _, _, _, _, _, .int (nI (s_cn σ t + 1)), _, _]) = some (oO 3 [_, _, _, _, _, _, .int (nI (va_up (s_cn σ) t (s_cn σ t + 1) t)), _, _])
      rw [va_up_self]
      rfl
    · subst e; exact hbf
    · subst e
      intro j hj
      have hj : j < va_up (s_cn σ) t (s_cn σ t + 1) t := hj
      rw [va_up_self] at hj
      show _ = nI (f2 (s_cm σ) t (s_cn σ t) v t j)
      rw [f2_row]
      exact up_and hcf hx j hj
    · subst e; exact hnf
    · subst e; exact hzf
  · subst e
    exact ⟨rfl, rfl, rfl, va_up_ne _ _ hi, f2_oth hi, rfl, rfl⟩
theorem late_t {σ : St} {x : Int64} (h0 : 0 ≤ s_ck σ) (h : (decide (x < s_ck σ) || decide (cLAST < x)) = true) : (isSec x && decide (s_ck σ ≤ x)) = false := by
  rw [late_iff h0] at h
  cases hq : (isSec x && decide (s_ck σ ≤ x))
  · rfl
  · rw [hq] at h; cases h
theorem late_f {σ : St} {x : Int64} (h0 : 0 ≤ s_ck σ) (h : (decide (x < s_ck σ) || decide (cLAST < x)) = false) : (isSec x && decide (s_ck σ ≤ x)) = true := by
  rw [late_iff h0] at h
  cases hq : (isSec x && decide (s_ck σ ≤ x))
  · rw [hq] at h; cases h
  · rfl
set_option maxHeartbeats 4000000 in
set_option maxRecDepth 100000 in
theorem k_X4_comment (l : Launch) (Γ : FG) (w : FW) (σ : St) (tx bx : Int32) (x : Int64) (hI : Inv σ) (hR : Rc σ w) : Met l yX4_comment (ws_ yX4_comment cX4_comment 6 (some .boolean)) (rmD 9 5 1230) (va_Pc [.ref (w.1 0 0), .int tx, .int bx, .long x] (fI Γ w)) (va_Qi (fun r w1 => r = b2i (a_comment σ tx bx x) ∧ Rc (n_comment σ tx bx x) w1 ∧ fr w w1) (fI Γ) (fA Γ)) 5 1230 (fA Γ) := by
  refine fw_met (by decide) (Nat.le_of_ble_eq_true rfl) ?_
  intro p e s m below meth c ls C hP hS hr hlk hin hl
  have C : fC p s m [.ref (w.1 0 0), .int tx, .int bx, .long x].toArray c cX4_comment 6 RX4 Γ := C
  have hx := C.1.1
  have hb := C.1.2.1
  have hl : lv_has ls 6 [(0, .ref (w.1 0 0)), (1, .int tx), (2, .int bx), (3, .long x)] := hl
  obtain ⟨⟨hnp, hnr, hnt, hns, hnw, hck0, hck1⟩, hIr, hIt, hIb, hIn, hIs, hIg, hIw, hIa⟩ := id hI
  refine lv_aload_n hx hb dX4_comment_0 rfl (lv_at hl 0 rfl) ?_
  refine lv_iload_n hx hb dX4_comment_1 rfl (lv_at hl 1 rfl) ?_
  refine fw_cq0 (w := w) hS (fw_rV (rest := []) (As := [.int tx]) C hP hS wV_X4_69 (k_X4_thingAt l Γ w σ tx hnt hR.1 hR.2.2.1.1) hR.1 rfl rfl (fRm_mk rfl rfl (Nat.le_of_ble_eq_true rfl) (Nat.le_of_ble_eq_true rfl) (Nat.le_of_ble_eq_true rfl) (Nat.le_of_ble_eq_true rfl) (Nat.le_of_ble_eq_true rfl)) rfl hl.1 rfl dX4_comment_2) (fun H locs hP hS => ?_)
  cases c_2 : fIn tx (s_nt σ) with
  | false =>
    refine fw_Eq (y := .null) rfl ?_
    refine lv_astoreN (lv' := [(5, .null), (0, .ref (w.1 0 0)), (1, .int tx), (2, .int bx), (3, .long x)]) hx hb dX4_comment_5 hl (by decide) rfl (fun ls hl => ?_)
    refine lv_aloadN hx hb dX4_comment_7 (lv_at hl 0 rfl) ?_
    refine lv_ifnullN (tgt := 38) hx hb dX4_comment_9 (by decide) ?_
    refine lv_iconst (v := nI 0) hx hb dX4_comment_38 (by decide) ?_
    exact fw_reti C hr hlk rfl hP hS (⟨b2i_f (co_f (Or.inl c_2)), by rw [co_n (co_f (Or.inl c_2))]; exact hR, fr_rf w⟩) (Nat.le_of_ble_eq_true rfl) (Nat.le_of_ble_eq_true rfl) dX4_comment_39
  | true =>
    obtain ⟨tt, htt, rfl⟩ := fIn_t c_2 (by omega)
    refine fw_Eq (y := .ref (w.1 11 tt)) (by rw [n_of_nI (by omega)]; rfl) ?_
    obtain ⟨hln, hcn, hdn, hmk, -⟩ := hIt tt
    obtain ⟨bf, df, cf, nf, zf, e11, e12, e13, e14, e15, hbf, hcf, hnf, hzf⟩ := id (hR.2.2.1.2.1 tt htt)
    refine lv_astore (lv' := [(5, .ref (w.1 11 tt)), (0, .ref (w.1 0 0)), (1, .int (nI tt)), (2, .int bx), (3, .long x)]) hx hb dX4_comment_5 hl (by decide) rfl (fun ls hl => ?_)
    refine lv_aload hx hb dX4_comment_7 (lv_at hl 0 rfl) ?_
    refine lv_ifnull hx hb dX4_comment_9 ?_
    refine lv_iload_n hx hb dX4_comment_12 rfl (lv_at hl 3 rfl) ?_
    refine fw_ci0 (w := w) hS (fw_rS (rest := []) (As := [.int bx]) C hP hS wS_X4_73 (k_X4_isByte l Γ w bx) (fRm_mk rfl rfl (Nat.le_of_ble_eq_true rfl) (Nat.le_of_ble_eq_true rfl) (Nat.le_of_ble_eq_true rfl) (Nat.le_of_ble_eq_true rfl) (Nat.le_of_ble_eq_true rfl)) rfl hl.1 rfl dX4_comment_13) (fun H locs hP hS => ?_)
    refine fw_ieqB (tgt := 38) hx hb dX4_comment_16 (by decide) (fun c_16 => ?_) (fun c_16 => ?_)
    · refine lv_iconst (v := nI 0) hx hb dX4_comment_38 (by decide) ?_
      exact fw_reti C hr hlk rfl hP hS (⟨b2i_f (co_f (Or.inr (Or.inl c_16))), by rw [co_n (co_f (Or.inr (Or.inl c_16)))]; exact hR, fr_rf w⟩) (Nat.le_of_ble_eq_true rfl) (Nat.le_of_ble_eq_true rfl) dX4_comment_39
    · obtain ⟨bb, hbb, rfl⟩ := fIn_t c_16 (by omega)
      refine lv_aload_n hx hb dX4_comment_19 rfl (lv_at hl 1 rfl) ?_
      refine lv_lload_n hx hb dX4_comment_20 rfl (lv_at hl 4 rfl) ?_
      refine fw_ci0 (w := w) hS (fw_rV (rest := []) (As := [.long x]) C hP hS wV_X4_87 (k_X4_isLate l Γ w σ x hR.1) hR.1 rfl rfl (fRm_mk rfl rfl (Nat.le_of_ble_eq_true rfl) (Nat.le_of_ble_eq_true rfl) (Nat.le_of_ble_eq_true rfl) (Nat.le_of_ble_eq_true rfl) (Nat.le_of_ble_eq_true rfl)) rfl hl.1 rfl dX4_comment_21) (fun H locs hP hS => ?_)
      refine fw_ineB (tgt := 38) hx hb dX4_comment_24 (by decide) (fun c_24 => ?_) (fun c_24 => ?_)
      · refine lv_iconst (v := nI 0) hx hb dX4_comment_38 (by decide) ?_
        exact fw_reti C hr hlk rfl hP hS (⟨b2i_f (co_f (Or.inr (Or.inr (Or.inl (late_t hck0 c_24))))), by rw [co_n (co_f (Or.inr (Or.inr (Or.inl (late_t hck0 c_24)))))]; exact hR, fr_rf w⟩) (Nat.le_of_ble_eq_true rfl) (Nat.le_of_ble_eq_true rfl) dX4_comment_39
      · refine lv_aload hx hb dX4_comment_27 (lv_at hl 0 rfl) ?_
        refine gf_X4_158 C hP e11 rfl rfl dX4_comment_29 ?_
        refine lv_sipush (v := nI 200) hx hb dX4_comment_32 (by decide) ?_
        refine fw_ltN (tgt := 40) hx hb (by omega) (by omega) dX4_comment_35 (by decide) (fun c_35 => ?_) (fun c_35 => ?_)
        · refine lv_aload hx hb dX4_comment_40 (lv_at hl 0 rfl) ?_
          refine gf_X4_161 C hP e11 rfl rfl dX4_comment_42 ?_
          refine lv_aload hx hb dX4_comment_45 (lv_at hl 0 rfl) ?_
          refine gf_X4_158 C hP e11 rfl rfl dX4_comment_47 ?_
          refine lv_iload_n hx hb dX4_comment_50 rfl (lv_at hl 3 rfl) ?_
          refine lv_i2b (v := (nI bb).toInt8.toInt32) hx hb dX4_comment_51 rfl ?_
          refine fw_bast C hP hS e14 rfl (s_cn σ tt) rfl (by omega) (by decide) dX4_comment_52 (fun H locs hP hS => ?_)
          have hP : fP Γ (fset w 14 tt (aI 0 200 (upd cf (s_cn σ tt) (vp_nar .byte ((nI bb).toInt8.toInt32))))) H := hP
          refine lv_aload hx hb dX4_comment_53 (lv_at hl 0 rfl) ?_
          refine lv_dup hx hb dX4_comment_55 rfl ?_
          refine gf_X4_158 C hP ((fset_ne (by decide)).trans e11) rfl rfl dX4_comment_56 ?_
          refine lv_iconst (v := nI 1) hx hb dX4_comment_59 (by decide) ?_
          refine fw_addN hx hb dX4_comment_60 ?_
          refine pf_X4_158 C hP hS rfl rfl ((fset_ne (by decide)).trans e11) rfl (Nat.le_of_ble_eq_true rfl) dX4_comment_61 (fun H locs hP hS => ?_)
          have hP : fP Γ (fset (fset w 14 tt (aI 0 200 (upd cf (s_cn σ tt) (vp_nar .byte ((nI bb).toInt8.toInt32))))) 11 tt (oO 3 [.int (nI (s_mk σ tt)), .ref (w.1 12 tt), .int (nI (s_ln σ tt)), .ref (w.1 13 tt), .int (b2i zf), .ref (w.1 14 tt), .int (nI (s_cn σ tt + 1)), .ref (w.1 15 tt), .int (nI (s_dn σ tt))])) H := hP
          refine lv_aload_n hx hb dX4_comment_64 rfl (lv_at hl 1 rfl) ?_
          refine lv_lload_n hx hb dX4_comment_65 rfl (lv_at hl 4 rfl) ?_
          refine pf_X4_130 C hP hS rfl rfl ((fset_ne (by decide)).trans ((fset_ne (by decide)).trans hR.1)) rfl (Nat.le_of_ble_eq_true rfl) dX4_comment_66 (fun H locs hP hS => ?_)
          have hP : fP Γ (fset (fset (fset w 14 tt (aI 0 200 (upd cf (s_cn σ tt) (vp_nar .byte ((nI bb).toInt8.toInt32))))) 11 tt (oO 3 [.int (nI (s_mk σ tt)), .ref (w.1 12 tt), .int (nI (s_ln σ tt)), .ref (w.1 13 tt), .int (b2i zf), .ref (w.1 14 tt), .int (nI (s_cn σ tt + 1)), .ref (w.1 15 tt), .int (nI (s_dn σ tt))])) 0 0 (oO 4 [.int (nI (s_np σ)), .ref (w.1 1 0), .int (nI (s_nr σ)), .ref (w.1 2 0), .int (nI (s_nt σ)), .ref (w.1 3 0), .int (nI (s_ns σ)), .ref (w.1 4 0), .int (nI (s_nw σ)), .ref (w.1 5 0), .ref (w.1 6 0), .long x, .ref (w.1 7 0)])) H := hP
          refine lv_iconst (v := nI 1) hx hb dX4_comment_69 (by decide) ?_
          have htt1 := co_t c_2 c_16 (late_f hck0 c_24) (by omega) (by omega : s_cn σ tt ≠ 200)
          exact fw_reti C hr hlk rfl hP hS (⟨b2i_t htt1, by rw [co_m htt1 (by omega) (by omega)]; exact Rc_sr (Rc_comm hR htt e12 e13 e15 hbf hcf hnf hzf (by_m bb hbb) rfl) (s_np σ) x, fr_tr (fr_set (by decide)) (fr_tr (fr_set (by decide)) (fr_set (by decide)))⟩) (Nat.le_of_ble_eq_true rfl) (Nat.le_of_ble_eq_true rfl) dX4_comment_70
        · refine lv_iconst (v := nI 0) hx hb dX4_comment_38 (by decide) ?_
          exact fw_reti C hr hlk rfl hP hS (⟨b2i_f (co_f (Or.inr (Or.inr (Or.inr (by rw [n_of_nI (by omega)]; omega))))), by rw [co_n (co_f (Or.inr (Or.inr (Or.inr (by rw [n_of_nI (by omega)]; omega)))))]; exact hR, fr_rf w⟩) (Nat.le_of_ble_eq_true rfl) (Nat.le_of_ble_eq_true rfl) dX4_comment_39
theorem ne_f {σ : St} {t m : Int32} (h : fIn t (s_nt σ) = false ∨ fIn m 10 = false) : a_needs σ t m = -1 ∧ n_needs σ t m = σ := by
  unfold a_needs n_needs
  rcases h with h | h
  · rw [h]; exact ⟨rfl, rfl⟩
  · rw [h, Bool.and_false]; exact ⟨rfl, rfl⟩
theorem nf_le {σ : St} {t m : Nat} : ∀ (n k : Nat), s_nf σ t m n k ≤ k + n
  | 0, k => Nat.le_refl _
  | n + 1, k => by
    unfold s_nf
    split
    · omega
    · have := nf_le (σ := σ) (t := t) (m := m) n (k + 1)
      omega
theorem nf_is {σ : St} {t m i : Nat} (hi : s_nd σ t i = m) (hb : ∀ j, j < i → s_nd σ t j ≠ m) : ∀ (n k : Nat), k ≤ i → i < k + n → s_nf σ t m n k = i
  | 0, k, h1, h2 => by omega
  | n + 1, k, h1, h2 => by
    unfold s_nf
    by_cases e : k = i
    · subst e; rw [if_pos hi]
    · rw [if_neg (hb k (by omega))]
      exact nf_is hi hb n (k + 1) (by omega) (by omega)
theorem nf_no {σ : St} {t m : Nat} : ∀ (n k : Nat), (∀ j, k ≤ j → j < k + n → s_nd σ t j ≠ m) → s_nf σ t m n k = k + n
  | 0, k, _ => rfl
  | n + 1, k, h => by
    unfold s_nf
    rw [if_neg (h k (by omega) (by omega)), nf_no n (k + 1) (fun j h1 h2 => h j (by omega) (by omega))]
    omega
theorem ne_in {σ : St} {t m i : Nat} (h1 : fIn (nI t) (s_nt σ) = true) (h2 : fIn (nI m) 10 = true) (ht : t < 2 ^ 31) (hm : m < 2 ^ 31) (hi : s_nd σ t i = m) (hb : ∀ j, j < i → s_nd σ t j ≠ m) (hd : i < s_dn σ t) : a_needs σ (nI t) (nI m) = nI i ∧ n_needs σ (nI t) (nI m) = σ := by
  unfold a_needs n_needs
  rw [h1, h2, n_of_nI ht, n_of_nI hm, nf_is hi hb _ 0 (by omega) (by omega)]
  rw [show decide (i = s_dn σ t) = false from decide_eq_false (by omega)]
  exact ⟨rfl, rfl⟩
theorem ne_new {σ : St} {t m : Nat} (h1 : fIn (nI t) (s_nt σ) = true) (h2 : fIn (nI m) 10 = true) (ht : t < 2 ^ 31) (hm : m < 2 ^ 31) (hb : ∀ j, j < s_dn σ t → s_nd σ t j ≠ m) : a_needs σ (nI t) (nI m) = nI (s_dn σ t) ∧ n_needs σ (nI t) (nI m) = (σ.1, σ.2.1, (s_mk σ, s_ln σ, s_by σ, s_cn σ, s_cm σ, va_up (s_dn σ) t (s_dn σ t + 1), f2 (s_nd σ) t (s_dn σ t) m), σ.2.2.2) := by
  unfold a_needs n_needs
  rw [h1, h2, n_of_nI ht, n_of_nI hm, nf_no (s_dn σ t) 0 (fun j _ h => hb j (by omega)), Nat.zero_add]
  rw [show decide (s_dn σ t = s_dn σ t) = true from decide_eq_true rfl]
  exact ⟨rfl, rfl⟩
/-- each meaning is needed but once: with ten of them, every meaning is among them -/
theorem ne_ten {σ : St} (hI : Inv σ) {t m : Nat} (hm : m < 10) (hd : s_dn σ t = 10) : ∃ j, j < s_dn σ t ∧ s_nd σ t j = m := by
  refine Classical.byContradiction fun hx => ?_
  have h := fb_holes 10 11 (fun i => if i = 10 then m else s_nd σ t i) (fun i _ => by
    show (if i = 10 then m else s_nd σ t i) < 10
    split
    · exact hm
    · exact (hI.2.2.2.1 t i).2.2) (fun i j hij hj => by
    show (if i = 10 then m else s_nd σ t i) ≠ (if j = 10 then m else s_nd σ t j)
    rw [if_neg (by omega : i ≠ 10)]
    by_cases e : j = 10
    · rw [if_pos e]; exact fun q => hx ⟨i, by omega, q⟩
    · rw [if_neg e]; exact hI.2.2.2.2.1 t i j hij (by omega))
  omega
theorem Rc_need {σ : St} {w : FW} {t m : Nat} {bf df cf nf : Nat → Int32} {zf : Bool} (hR : Rc σ w) (ht : t < s_nt σ) (e12 : w.2 12 t = some (aI 0 1000 bf)) (e13 : w.2 13 t = some (aI 1 8 df)) (e14 : w.2 14 t = some (aI 0 200 cf)) (hbf : ∀ j, j < s_ln σ t → bf j &&& 255 = nI (s_by σ t j)) (hcf : ∀ j, j < s_cn σ t → cf j &&& 255 = nI (s_cm σ t j)) (hnf : ∀ j, j < s_dn σ t → nf j = nI (s_nd σ t j)) (hzf : zf = false → ∀ j, j < 8 → df j = s_dg σ t j)
    {σ1 : St} (e : σ1 = (σ.1, σ.2.1, (s_mk σ, s_ln σ, s_by σ, s_cn σ, s_cm σ, va_up (s_dn σ) t (s_dn σ t + 1), f2 (s_nd σ) t (s_dn σ t) m), σ.2.2.2)) : Rc σ1 (fset (fset w 15 t (aI 1 10 (upd nf (s_dn σ t) (nI m)))) 11 t (oO 3 [.int (nI (s_mk σ t)), .ref (w.1 12 t), .int (nI (s_ln σ t)), .ref (w.1 13 t), .int (b2i zf), .ref (w.1 14 t), .int (nI (s_cn σ t)), .ref (w.1 15 t), .int (nI (s_dn σ t + 1))])) := by
  refine Rc_thg hR ht (by rw [e]) (by rw [e]) (by rw [e]) rfl (fun k i h => ?_) ?_ (fun i hi => ?_)
  · rw [fset_off (by omega), fset_off (by omega)]
  · refine ⟨bf, df, cf, upd nf (s_dn σ t) (nI m), zf, ?_, (fset_ne (by decide)).trans ((fset_ne (by decide)).trans e12), (fset_ne (by decide)).trans ((fset_ne (by decide)).trans e13), (fset_ne (by decide)).trans ((fset_ne (by decide)).trans e14), (fset_ne (by decide)).trans fset_at, ?_, ?_, ?_, ?_⟩
    · subst e
      refine fset_at.trans ?_
      show some (oO 3 [_, _, _, _, _, _, _, _, .int (nI (s_dn σ t + 1))]) = some (oO 3 [_, _, _, _, _, _, _, _, .int (nI (va_up (s_dn σ) t (s_dn σ t + 1) t))])
      rw [va_up_self]
      rfl
    · subst e; exact hbf
    · subst e; exact hcf
    · subst e
      intro j hj
      have hj : j < va_up (s_dn σ) t (s_dn σ t + 1) t := hj
      rw [va_up_self] at hj
      show _ = nI (f2 (s_nd σ) t (s_dn σ t) m t j)
      rw [f2_row]
      unfold upd va_up
      by_cases e : j = s_dn σ t
      · rw [if_pos e, if_pos e]
      · rw [if_neg e, if_neg e]; exact hnf j (by omega)
    · subst e; exact hzf
  · subst e
    exact ⟨rfl, rfl, rfl, rfl, rfl, va_up_ne _ _ hi, f2_oth hi⟩
set_option maxHeartbeats 4000000 in
set_option maxRecDepth 100000 in
theorem k_X4_needs (l : Launch) (Γ : FG) (w : FW) (σ : St) (tx mx : Int32) (hI : Inv σ) (hR : Rc σ w) : Met l yX4_needs (ws_ yX4_needs cX4_needs 5 (some .int)) (rmD 9 5 1230) (va_Pc [.ref (w.1 0 0), .int tx, .int mx] (fI Γ w)) (va_Qi (fun r w1 => r = a_needs σ tx mx ∧ Rc (n_needs σ tx mx) w1 ∧ fr w w1) (fI Γ) (fA Γ)) 5 1230 (fA Γ) := by
  refine fw_met (by decide) (Nat.le_of_ble_eq_true rfl) ?_
  intro p e s m below meth c ls C hP hS hr hlk hin hl
  have C : fC p s m [.ref (w.1 0 0), .int tx, .int mx].toArray c cX4_needs 5 RX4 Γ := C
  have hx := C.1.1
  have hb := C.1.2.1
  have hl : lv_has ls 5 [(0, .ref (w.1 0 0)), (1, .int tx), (2, .int mx)] := hl
  obtain ⟨⟨hnp, hnr, hnt, hns, hnw, hck0, hck1⟩, hIr, hIt, hIb, hIn, hIs, hIg, hIw, hIa⟩ := id hI
  refine lv_aload_n hx hb dX4_needs_0 rfl (lv_at hl 0 rfl) ?_
  refine lv_iload_n hx hb dX4_needs_1 rfl (lv_at hl 1 rfl) ?_
  refine fw_cq0 (w := w) hS (fw_rV (rest := []) (As := [.int tx]) C hP hS wV_X4_69 (k_X4_thingAt l Γ w σ tx hnt hR.1 hR.2.2.1.1) hR.1 rfl rfl (fRm_mk rfl rfl (Nat.le_of_ble_eq_true rfl) (Nat.le_of_ble_eq_true rfl) (Nat.le_of_ble_eq_true rfl) (Nat.le_of_ble_eq_true rfl) (Nat.le_of_ble_eq_true rfl)) rfl hl.1 rfl dX4_needs_2) (fun H locs hP hS => ?_)
  cases c_2 : fIn tx (s_nt σ) with
  | false =>
    refine fw_Eq (y := .null) rfl ?_
    refine lv_astore_nN (lv' := [(3, .null), (0, .ref (w.1 0 0)), (1, .int tx), (2, .int mx)]) hx hb dX4_needs_5 rfl hl (by decide) rfl (fun ls hl => ?_)
    refine lv_aload_nN hx hb dX4_needs_6 rfl (lv_at hl 0 rfl) ?_
    refine lv_ifnullN (tgt := 17) hx hb dX4_needs_7 (by decide) ?_
    refine lv_iconst (v := (-1)) hx hb dX4_needs_17 (by decide) ?_
    exact fw_reti C hr hlk rfl hP hS (⟨(ne_f (Or.inl c_2)).1.symm, by rw [(ne_f (Or.inl c_2)).2]; exact hR, fr_rf w⟩) (Nat.le_of_ble_eq_true rfl) (Nat.le_of_ble_eq_true rfl) dX4_needs_18
  | true =>
    obtain ⟨tt, htt, rfl⟩ := fIn_t c_2 (by omega)
    refine fw_Eq (y := .ref (w.1 11 tt)) (by rw [n_of_nI (by omega)]; rfl) ?_
    obtain ⟨hln, hcn, hdn, hmk, -⟩ := hIt tt
    obtain ⟨bf, df, cf, nf, zf, e11, e12, e13, e14, e15, hbf, hcf, hnf, hzf⟩ := id (hR.2.2.1.2.1 tt htt)
    refine lv_astore_n (lv' := [(3, .ref (w.1 11 tt)), (0, .ref (w.1 0 0)), (1, .int (nI tt)), (2, .int mx)]) hx hb dX4_needs_5 rfl hl (by decide) rfl (fun ls hl => ?_)
    refine lv_aload_n hx hb dX4_needs_6 rfl (lv_at hl 0 rfl) ?_
    refine lv_ifnull hx hb dX4_needs_7 ?_
    refine lv_iload_n hx hb dX4_needs_10 rfl (lv_at hl 3 rfl) ?_
    refine fw_ci0 (w := w) hS (fw_rS (rest := []) (As := [.int mx]) C hP hS wS_X4_52 (k_X4_isMeaning l Γ w mx) (fRm_mk rfl rfl (Nat.le_of_ble_eq_true rfl) (Nat.le_of_ble_eq_true rfl) (Nat.le_of_ble_eq_true rfl) (Nat.le_of_ble_eq_true rfl) (Nat.le_of_ble_eq_true rfl)) rfl hl.1 rfl dX4_needs_11) (fun H locs hP hS => ?_)
    refine fw_ineB (tgt := 19) hx hb dX4_needs_14 (by decide) (fun c_14 => ?_) (fun c_14 => ?_)
    · obtain ⟨mm, hmm, rfl⟩ := fIn_t c_14 (by omega)
      refine lv_iconst (v := nI 0) hx hb dX4_needs_19 (by decide) ?_
      refine lv_istore (lv' := [(4, .int (nI 0)), (3, .ref (w.1 11 tt)), (0, .ref (w.1 0 0)), (1, .int (nI tt)), (2, .int (nI mm))]) hx hb dX4_needs_20 hl (by decide) rfl (fun ls hl => ?_)
      refine W.widen (k := 0) (n := 0) (Nat.le_of_ble_eq_true rfl) (Nat.le_of_ble_eq_true rfl) ?_
      have loop : ∀ (fu : Nat) (i : Nat) (H : Heap) (locs : List Loc) (ls : Array Slot), 11 - i < fu → (i ≤ s_dn σ tt) → (∀ j, j < i → s_nd σ tt j ≠ mm) → fP Γ w H → va_S (fA Γ) s.heap H locs → lv_has ls 5 [(4, .int (nI i)), (3, .ref (w.1 11 tt)), (0, .ref (w.1 0 0)), (1, .int (nI tt)), (2, .int (nI mm))] → W p l e (rmD 9 5 1230) s m [.ref (w.1 0 0), .int (nI tt), .int (nI mm)].toArray below meth c H locs 0 0 (MQ below (va_Qi (fun r w1 => r = a_needs σ (nI tt) (nI mm) ∧ Rc (n_needs σ (nI tt) (nI mm)) w1 ∧ fr w w1) (fI Γ) (fA Γ)) [.ref (w.1 0 0), .int (nI tt), .int (nI mm)].toArray s 5 1230 (fA Γ)) (F0 m 22 ls []) := by
        intro fu
        induction fu with
        | zero =>
          intro i H locs ls hf
          exact absurd hf (Nat.not_lt_zero _)
        | succ fu ih =>
          intro i H locs ls hf hi hz hP hS hl
          have hnd9 := (hIb tt i).2.2
          refine lv_iload hx hb dX4_needs_22 (lv_at hl 0 rfl) ?_
          refine lv_bipush (v := nI 10) hx hb dX4_needs_24 (by decide) ?_
          refine fw_geN (tgt := 58) hx hb (by omega) (by omega) dX4_needs_26 (by decide) (fun c_26 => ?_) (fun c_26 => ?_)
          · refine lv_aload_n hx hb dX4_needs_58 rfl (lv_at hl 1 rfl) ?_
            refine gf_X4_152 C hP e11 rfl rfl dX4_needs_59 ?_
            refine lv_bipush (v := nI 10) hx hb dX4_needs_62 (by decide) ?_
            refine fw_ltN (tgt := 69) hx hb (by omega) (by omega) dX4_needs_64 (by decide) (fun c_64 => ?_) (fun c_64 => ?_)
            · refine lv_aload_n hx hb dX4_needs_69 rfl (lv_at hl 1 rfl) ?_
              refine gf_X4_155 C hP e11 rfl rfl dX4_needs_70 ?_
              refine lv_aload_n hx hb dX4_needs_73 rfl (lv_at hl 1 rfl) ?_
              refine gf_X4_152 C hP e11 rfl rfl dX4_needs_74 ?_
              refine lv_iload_n hx hb dX4_needs_77 rfl (lv_at hl 4 rfl) ?_
              refine fw_iast C hP hS e15 rfl (s_dn σ tt) rfl (by omega) (by decide) dX4_needs_78 (fun H locs hP hS => ?_)
              have hP : fP Γ (fset w 15 tt (aI 1 10 (upd nf (s_dn σ tt) (nI mm)))) H := hP
              refine lv_aload_n hx hb dX4_needs_79 rfl (lv_at hl 1 rfl) ?_
              refine lv_dup hx hb dX4_needs_80 rfl ?_
              refine gf_X4_152 C hP ((fset_ne (by decide)).trans e11) rfl rfl dX4_needs_81 ?_
              refine lv_dup_x1 hx hb dX4_needs_84 rfl rfl ?_
              refine lv_iconst (v := nI 1) hx hb dX4_needs_85 (by decide) ?_
              refine fw_addN hx hb dX4_needs_86 ?_
              refine pf_X4_152 C hP hS rfl rfl ((fset_ne (by decide)).trans e11) rfl (Nat.le_of_ble_eq_true rfl) dX4_needs_87 (fun H locs hP hS => ?_)
              have hP : fP Γ (fset (fset w 15 tt (aI 1 10 (upd nf (s_dn σ tt) (nI mm)))) 11 tt (oO 3 [.int (nI (s_mk σ tt)), .ref (w.1 12 tt), .int (nI (s_ln σ tt)), .ref (w.1 13 tt), .int (b2i zf), .ref (w.1 14 tt), .int (nI (s_cn σ tt)), .ref (w.1 15 tt), .int (nI (s_dn σ tt + 1))])) H := hP
              have hok := ne_new c_2 c_14 (by omega) (by omega) (fun j hj => hz j (by omega))
              exact fw_reti C hr hlk rfl hP hS (⟨hok.1.symm, by rw [hok.2]; exact Rc_need hR htt e12 e13 e14 hbf hcf hnf hzf rfl, fr_tr (fr_set (by decide)) (fr_set (by decide))⟩) (Nat.le_of_ble_eq_true rfl) (Nat.le_of_ble_eq_true rfl) dX4_needs_90
            · refine lv_iconst (v := (-1)) hx hb dX4_needs_67 (by decide) ?_
              obtain ⟨j9, hj9, hq9⟩ := ne_ten hI hmm (by omega : s_dn σ tt = 10)
              exact absurd hq9 (hz j9 (by omega))
          · refine lv_iload hx hb dX4_needs_29 (lv_at hl 0 rfl) ?_
            refine lv_aload_n hx hb dX4_needs_31 rfl (lv_at hl 1 rfl) ?_
            refine gf_X4_152 C hP e11 rfl rfl dX4_needs_32 ?_
            refine fw_geN (tgt := 58) hx hb (by omega) (by omega) dX4_needs_35 (by decide) (fun c_35 => ?_) (fun c_35 => ?_)
            · refine lv_aload_n hx hb dX4_needs_58 rfl (lv_at hl 1 rfl) ?_
              refine gf_X4_152 C hP e11 rfl rfl dX4_needs_59 ?_
              refine lv_bipush (v := nI 10) hx hb dX4_needs_62 (by decide) ?_
              refine fw_ltN (tgt := 69) hx hb (by omega) (by omega) dX4_needs_64 (by decide) (fun c_64 => ?_) (fun c_64 => ?_)
              · refine lv_aload_n hx hb dX4_needs_69 rfl (lv_at hl 1 rfl) ?_
                refine gf_X4_155 C hP e11 rfl rfl dX4_needs_70 ?_
                refine lv_aload_n hx hb dX4_needs_73 rfl (lv_at hl 1 rfl) ?_
                refine gf_X4_152 C hP e11 rfl rfl dX4_needs_74 ?_
                refine lv_iload_n hx hb dX4_needs_77 rfl (lv_at hl 4 rfl) ?_
                refine fw_iast C hP hS e15 rfl (s_dn σ tt) rfl (by omega) (by decide) dX4_needs_78 (fun H locs hP hS => ?_)
                have hP : fP Γ (fset w 15 tt (aI 1 10 (upd nf (s_dn σ tt) (nI mm)))) H := hP
                refine lv_aload_n hx hb dX4_needs_79 rfl (lv_at hl 1 rfl) ?_
                refine lv_dup hx hb dX4_needs_80 rfl ?_
                refine gf_X4_152 C hP ((fset_ne (by decide)).trans e11) rfl rfl dX4_needs_81 ?_
                refine lv_dup_x1 hx hb dX4_needs_84 rfl rfl ?_
                refine lv_iconst (v := nI 1) hx hb dX4_needs_85 (by decide) ?_
                refine fw_addN hx hb dX4_needs_86 ?_
                refine pf_X4_152 C hP hS rfl rfl ((fset_ne (by decide)).trans e11) rfl (Nat.le_of_ble_eq_true rfl) dX4_needs_87 (fun H locs hP hS => ?_)
                have hP : fP Γ (fset (fset w 15 tt (aI 1 10 (upd nf (s_dn σ tt) (nI mm)))) 11 tt (oO 3 [.int (nI (s_mk σ tt)), .ref (w.1 12 tt), .int (nI (s_ln σ tt)), .ref (w.1 13 tt), .int (b2i zf), .ref (w.1 14 tt), .int (nI (s_cn σ tt)), .ref (w.1 15 tt), .int (nI (s_dn σ tt + 1))])) H := hP
                have hok := ne_new c_2 c_14 (by omega) (by omega) (fun j hj => hz j (by omega))
                exact fw_reti C hr hlk rfl hP hS (⟨hok.1.symm, by rw [hok.2]; exact Rc_need hR htt e12 e13 e14 hbf hcf hnf hzf rfl, fr_tr (fr_set (by decide)) (fr_set (by decide))⟩) (Nat.le_of_ble_eq_true rfl) (Nat.le_of_ble_eq_true rfl) dX4_needs_90
              · refine lv_iconst (v := (-1)) hx hb dX4_needs_67 (by decide) ?_
                obtain ⟨j9, hj9, hq9⟩ := ne_ten hI hmm (by omega : s_dn σ tt = 10)
                exact absurd hq9 (hz j9 (by omega))
            · refine lv_aload_n hx hb dX4_needs_38 rfl (lv_at hl 1 rfl) ?_
              refine gf_X4_155 C hP e11 rfl rfl dX4_needs_39 ?_
              refine lv_iload hx hb dX4_needs_42 (lv_at hl 0 rfl) ?_
              refine fw_iald C hP e15 rfl i rfl (by omega) (by decide) dX4_needs_44 ?_
              refine fw_E (show nf i = nI (s_nd σ tt i) from hnf i (by omega)) ?_
              refine lv_iload_n hx hb dX4_needs_45 rfl (lv_at hl 4 rfl) ?_
              refine fw_neN (tgt := 52) hx hb (by omega) (by omega) dX4_needs_46 (by decide) (fun c_46 => ?_) (fun c_46 => ?_)
              · refine lv_iinc (v := nI (i + 1)) (lv' := [(4, .int (nI (i + 1))), (3, .ref (w.1 11 tt)), (0, .ref (w.1 0 0)), (1, .int (nI tt)), (2, .int (nI mm))]) hx hb dX4_needs_52 hl (k := 0) rfl (by rw [show Int32.ofInt 1 = nI 1 from rfl, nI_add]) (by decide) rfl (fun ls hl => ?_)
                refine lv_goto (tgt := 22) hx hb dX4_needs_55 (by decide) ?_
                refine W.widen (k := 0) (n := 0) (Nat.le_of_ble_eq_true rfl) (Nat.le_of_ble_eq_true rfl) ?_
                exact ih (i + 1) H locs ls (by omega) (by omega) (lt_s hz c_46) hP hS (lv_sub hl [0, 1, 2, 3, 4] rfl)
              · refine lv_iload hx hb dX4_needs_49 (lv_at hl 0 rfl) ?_
                exact fw_reti C hr hlk rfl hP hS (⟨(ne_in c_2 c_14 (by omega) (by omega) c_46 hz (by omega)).1.symm, by rw [(ne_in c_2 c_14 (by omega) (by omega) c_46 hz (by omega)).2]; exact hR, fr_rf w⟩) (Nat.le_of_ble_eq_true rfl) (Nat.le_of_ble_eq_true rfl) dX4_needs_51
      exact loop 12 0 _ _ _ (by omega) (by omega) (fun j hj => absurd hj (Nat.not_lt_zero j)) hP hS (lv_sub hl [0, 1, 2, 3, 4] rfl)
    · refine lv_iconst (v := (-1)) hx hb dX4_needs_17 (by decide) ?_
      exact fw_reti C hr hlk rfl hP hS (⟨(ne_f (Or.inr c_14)).1.symm, by rw [(ne_f (Or.inr c_14)).2]; exact hR, fr_rf w⟩) (Nat.le_of_ble_eq_true rfl) (Nat.le_of_ble_eq_true rfl) dX4_needs_18
theorem li_f {σ : St} {k : Int32} (h : fIn k (s_nw σ) = false) : a_listed σ k = -1 := by rw [a_listed, h]; rfl
theorem li_t {σ : St} {k : Nat} (h : k < s_nw σ) (hn : s_nw σ ≤ 400) : a_listed σ (nI k) = nI (s_wl σ k) := by
  rw [a_listed, fIn_N (by omega), decide_eq_true h, n_of_nI (by omega)]
  rfl
set_option maxHeartbeats 4000000 in
set_option maxRecDepth 100000 in
theorem k_X4_listed (l : Launch) (Γ : FG) (w : FW) (σ : St) (kx : Int32) (hI : Inv σ) (hR : Rc σ w) : Met l yX4_listed (ws_ yX4_listed cX4_listed 2 (some .int)) (rmD 9 5 1230) (va_Pc [.ref (w.1 0 0), .int kx] (fI Γ w)) (va_Qi (fun r w1 => r = a_listed σ kx ∧ Rc σ w1 ∧ fr w w1) (fI Γ) (fA Γ)) 5 1230 (fA Γ) := by
  refine fw_met (by decide) (Nat.le_of_ble_eq_true rfl) ?_
  intro p e s m below meth c ls C hP hS hr hlk hin hl
  have C : fC p s m [.ref (w.1 0 0), .int kx].toArray c cX4_listed 2 RX4 Γ := C
  have hx := C.1.1
  have hb := C.1.2.1
  have hl : lv_has ls 2 [(0, .ref (w.1 0 0)), (1, .int kx)] := hl
  obtain ⟨⟨hnp, hnr, hnt, hns, hnw, hck0, hck1⟩, hIr, hIt, hIb, hIn, hIs, hIg, hIw, hIa⟩ := id hI
  have hnw4 : s_nw σ ≤ 400 := by rw [hnw]; exact Nat.le_trans (fb_ct_le _ _) hns
  obtain ⟨fW, hW1, hW2⟩ := id hR.2.2.2.2.1
  refine lv_iload_n hx hb dX4_listed_0 rfl (lv_at hl 1 rfl) ?_
  refine lv_if_lt (tgt := 19) hx hb dX4_listed_1 (by decide) (fun c_1 => ?_) (fun c_1 => ?_)
  · refine lv_iconst (v := (-1)) hx hb dX4_listed_19 (by decide) ?_
    exact fw_reti C hr hlk rfl hP hS (⟨(li_f (fIn_lt c_1)).symm, hR, fr_rf w⟩) (Nat.le_of_ble_eq_true rfl) (Nat.le_of_ble_eq_true rfl) dX4_listed_20
  · refine lv_iload_n hx hb dX4_listed_4 rfl (lv_at hl 1 rfl) ?_
    refine lv_aload_n hx hb dX4_listed_5 rfl (lv_at hl 0 rfl) ?_
    refine gf_X4_145 C hP hR.1 rfl rfl dX4_listed_6 ?_
    refine lv_icmp_ge (tgt := 19) hx hb dX4_listed_9 (by decide) (fun c_9 => ?_) (fun c_9 => ?_)
    · refine lv_iconst (v := (-1)) hx hb dX4_listed_19 (by decide) ?_
      exact fw_reti C hr hlk rfl hP hS (⟨(li_f (fIn_ge (by omega) c_9)).symm, hR, fr_rf w⟩) (Nat.le_of_ble_eq_true rfl) (Nat.le_of_ble_eq_true rfl) dX4_listed_20
    · refine lv_iload_n hx hb dX4_listed_12 rfl (lv_at hl 1 rfl) ?_
      refine lv_sipush (v := nI 400) hx hb dX4_listed_13 (by decide) ?_
      refine lv_icmp_lt (tgt := 21) hx hb dX4_listed_16 (by decide) (fun c_16 => ?_) (fun c_16 => ?_)
      · obtain ⟨kk, hkk, rfl⟩ := fIn_t (fIn_in (n := s_nw σ) (by omega) c_1 c_9) (by omega)
        refine lv_aload_n hx hb dX4_listed_21 rfl (lv_at hl 0 rfl) ?_
        refine gf_X4_27 C hP hR.1 rfl rfl dX4_listed_22 ?_
        refine lv_iload_n hx hb dX4_listed_25 rfl (lv_at hl 1 rfl) ?_
        refine fw_iald C hP hW1 rfl kk rfl (by omega) (by decide) dX4_listed_26 ?_
        refine fw_E (show fW kk = nI (s_wl σ kk) from hW2 kk (by omega)) ?_
        exact fw_reti C hr hlk rfl hP hS (⟨(li_t hkk hnw4).symm, hR, fr_rf w⟩) (Nat.le_of_ble_eq_true rfl) (Nat.le_of_ble_eq_true rfl) dX4_listed_27
      · refine lv_iconst (v := (-1)) hx hb dX4_listed_19 (by decide) ?_
        exact absurd (fIn_in (n := s_nw σ) (by omega) c_1 c_9) (by rw [fIn_ge (by omega) (Int32.le_trans (nI_le hnw4 (by omega)) (Int32.not_lt.mp c_16))]; decide)
