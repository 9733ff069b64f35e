/-- a byte of the padded bytes, as the reference reckons it -/
def mp (b : Nat → Nat) (n all i : Nat) : Int32 := if i < n then nI (b i) else if i = n then 128 else if 8 * (all - 1 - i) < 32 then ush (nI (8 * n)) (nI (8 * (all - 1 - i))) &&& 255 else 0
theorem b_ush {m : Nat} (hm : m < 32) (x : Int32) (i : Nat) : bt (ush x (nI m)) i = bt x (m + i) := b_ushr m hm x i
theorem mp_4 (x : Int32) : ((((ush x (nI 24) &&& 255) <<< ((24 : Int32) &&& 31)) ||| ((ush x (nI 16) &&& 255) <<< ((16 : Int32) &&& 31))) ||| ((ush x (nI 8) &&& 255) <<< ((8 : Int32) &&& 31))) ||| (ush x (nI 0) &&& 255) = x := by
  apply b_ext
  intro i hi
  rw [b_or, b_or, b_or, b_shl24 _ hi, b_shl16 _ hi, b_shl8 _ hi, b_and, b_and, b_and, b_and, b_255, b_255, b_255, b_255, b_ush (by omega), b_ush (by omega), b_ush (by omega), b_ush (by omega), Nat.zero_add]
  rcases Nat.lt_or_ge i 8 with h | h
  · rw [decide_eq_false (by omega : ¬ 24 ≤ i), decide_eq_false (by omega : ¬ 16 ≤ i), decide_eq_false (by omega : ¬ 8 ≤ i), decide_eq_true h]
    simp
  · rcases Nat.lt_or_ge i 16 with h2 | h2
    · rw [decide_eq_false (by omega : ¬ 24 ≤ i), decide_eq_false (by omega : ¬ 16 ≤ i), decide_eq_true h, decide_eq_false (by omega : ¬ i < 8), decide_eq_true (by omega : i - 8 < 8), Nat.add_sub_cancel' h]
      simp
    · rcases Nat.lt_or_ge i 24 with h3 | h3
      · rw [decide_eq_false (by omega : ¬ 24 ≤ i), decide_eq_true h2, decide_eq_false (by omega : ¬ i - 8 < 8), decide_eq_false (by omega : ¬ i < 8), decide_eq_true (by omega : i - 16 < 8), Nat.add_sub_cancel' h2]
        simp
      · rw [decide_eq_true h3, decide_eq_false (by omega : ¬ i - 16 < 8), decide_eq_false (by omega : ¬ i - 8 < 8), decide_eq_false (by omega : ¬ i < 8), decide_eq_true (by omega : i - 24 < 8), Nat.add_sub_cancel' h3]
        simp
theorem mp_p {b : Nat → Nat} {n all i : Nat} (h : i < n ∨ i = n ∨ 32 ≤ 8 * (all - 1 - i)) : mp b n all i = pdb b n i := by
  unfold mp pdb
  by_cases h1 : i < n
  · rw [if_pos h1, if_pos h1]
  · rw [if_neg h1, if_neg h1]
    by_cases h2 : i = n
    · rw [if_pos h2, if_pos h2]
    · rw [if_neg h2, if_neg h2, if_neg (by omega)]
theorem mp_l {b : Nat → Nat} {n all i m : Nat} (h1 : n < i) (h2 : 8 * (all - 1 - i) = m) (hm : m < 32) : mp b n all i = ush (nI (8 * n)) (nI m) &&& 255 := by
  unfold mp
  rw [if_neg (by omega), if_neg (by omega), if_pos (by omega), h2]
theorem mp_w {b : Nat → Nat} {n fo bk k : Nat} (hbk : bk < (n + 8) / 64 + 1) (hfo : fo = 64 * bk) (hk : k < 16) : wd4 (mp b n ((n + 9 + 63) / 64 * 64)) (fo + 4 * k) = shW b n bk k := by
  subst hfo
  unfold shW
  by_cases h : bk = (n + 8) / 64 ∧ k = 15
  · rw [if_pos h]
    obtain ⟨h1, h2⟩ := h
    unfold wd4
    rw [mp_l (m := 24) (by omega) (by omega) (by decide), mp_l (m := 16) (by omega) (by omega) (by decide), mp_l (m := 8) (by omega) (by omega) (by decide), mp_l (m := 0) (by omega) (by omega) (by decide), mp_4, Nat.mul_comm]
  · rw [if_neg h]
    unfold wd4
    rw [show 64 * bk + 4 * k = bk * 64 + 4 * k by omega]
    have h9 : bk * 64 + 4 * k + 3 < n ∨ 4 ≤ (n + 9 + 63) / 64 * 64 - 1 - (bk * 64 + 4 * k + 3) := by omega
    rw [mp_p (i := bk * 64 + 4 * k) (by omega), mp_p (i := bk * 64 + 4 * k + 1) (by omega), mp_p (i := bk * 64 + 4 * k + 2) (by omega), mp_p (i := bk * 64 + 4 * k + 3) (by omega)]
theorem add4 (a b c d : Int32) : a + b + c + d = d + b + c + a := by
  rw [Int32.add_comm a b, Int32.add_assoc b a c, Int32.add_comm a c, ← Int32.add_assoc b c a, Int32.add_assoc (b + c) a d, Int32.add_comm a d, ← Int32.add_assoc (b + c) d a, Int32.add_comm (b + c) d, ← Int32.add_assoc d b c]
theorem ix_neg : ∀ k, k < 64 → (-(nI k)) &&& nI 7 = nI ((0 + 7 * k) % 8) := by decide +kernel
theorem ix_sub : ∀ c, c < 8 → ∀ k, k < 64 → (nI c - nI k) &&& nI 7 = nI ((c + 7 * k) % 8) := by decide +kernel
theorem at8_rnd (S : S8) (K W : Int32) : at8 (rnd S K W) 0 = rd1 (at8 S 4) (at8 S 5) (at8 S 6) (at8 S 7) K W + bs0 (at8 S 0) + mjx (at8 S 0) (at8 S 1) (at8 S 2) ∧ at8 (rnd S K W) 1 = at8 S 0 ∧ at8 (rnd S K W) 2 = at8 S 1 ∧ at8 (rnd S K W) 3 = at8 S 2 ∧ at8 (rnd S K W) 4 = at8 S 3 + rd1 (at8 S 4) (at8 S 5) (at8 S 6) (at8 S 7) K W ∧ at8 (rnd S K W) 5 = at8 S 4 ∧ at8 (rnd S K W) 6 = at8 S 5 ∧ at8 (rnd S K W) 7 = at8 S 6 := by
  obtain ⟨a, b, c, d, e, f, g, h⟩ := S
  exact ⟨rfl, rfl, rfl, rfl, rfl, rfl, rfl, rfl⟩
theorem ix_8 {j i : Nat} (k : Nat) (h : j = i + 1) : (j + 7 * (k + 1)) % 8 = (i + 7 * k) % 8 := by omega
theorem bl_step {v : Nat → Int32} {S : S8} {k : Nat} {K W one two : Int32} (hv : ∀ j, j < 8 → v ((j + 7 * k) % 8) = at8 S j) (h1 : one = rd1 (at8 S 4) (at8 S 5) (at8 S 6) (at8 S 7) K W) (h2 : two = bs0 (at8 S 0) + mjx (at8 S 0) (at8 S 1) (at8 S 2)) : ∀ j, j < 8 → upd (upd v ((3 + 7 * k) % 8) (at8 S 3 + one)) ((7 + 7 * k) % 8) (one + two) ((j + 7 * (k + 1)) % 8) = at8 (rnd S K W) j := by
  obtain ⟨r0, r1, r2, r3, r4, r5, r6, r7⟩ := at8_rnd S K W
  have n0 : (0 + 7 * (k + 1)) % 8 = (7 + 7 * k) % 8 := by omega
  have hn : ∀ i, i < 7 → i ≠ 3 → upd (upd v ((3 + 7 * k) % 8) (at8 S 3 + one)) ((7 + 7 * k) % 8) (one + two) ((i + 7 * k) % 8) = at8 S i := by
    intro i hi h3
    unfold upd
    rw [if_neg (by omega : ¬ (i + 7 * k) % 8 = (7 + 7 * k) % 8), if_neg (by omega : ¬ (i + 7 * k) % 8 = (3 + 7 * k) % 8)]
    exact hv i (by omega)
  have hy : upd (upd v ((3 + 7 * k) % 8) (at8 S 3 + one)) ((7 + 7 * k) % 8) (one + two) ((3 + 7 * k) % 8) = at8 S 3 + one := by
    unfold upd
    rw [if_neg (by omega : ¬ (3 + 7 * k) % 8 = (7 + 7 * k) % 8), if_pos rfl]
  have h7 : upd (upd v ((3 + 7 * k) % 8) (at8 S 3 + one)) ((7 + 7 * k) % 8) (one + two) ((7 + 7 * k) % 8) = one + two := by
    unfold upd
    rw [if_pos rfl]
  intro j hj
  generalize upd (upd v ((3 + 7 * k) % 8) (at8 S 3 + one)) ((7 + 7 * k) % 8) (one + two) = v9 at hn hy h7
  rcases (show j = 0 ∨ j = 1 ∨ j = 2 ∨ j = 3 ∨ j = 4 ∨ j = 5 ∨ j = 6 ∨ j = 7 by omega) with rfl | rfl | rfl | rfl | rfl | rfl | rfl | rfl
  · rw [n0, h7, r0, h1, h2, Int32.add_assoc]
  · rw [ix_8 k (show 1 = 0 + 1 from rfl), hn 0 (by decide) (by decide), r1]
  · rw [ix_8 k (show 2 = 1 + 1 from rfl), hn 1 (by decide) (by decide), r2]
  · rw [ix_8 k (show 3 = 2 + 1 from rfl), hn 2 (by decide) (by decide), r3]
  · rw [ix_8 k (show 4 = 3 + 1 from rfl), hy, r4, h1]
  · rw [ix_8 k (show 5 = 4 + 1 from rfl), hn 4 (by decide) (by decide), r5]
  · rw [ix_8 k (show 6 = 5 + 1 from rfl), hn 5 (by decide) (by decide), r6]
  · rw [ix_8 k (show 7 = 6 + 1 from rfl), hn 6 (by decide) (by decide), r7]
theorem at8_s8 {f : Nat → Int32} : ∀ j, j < 8 → at8 (s8 f) j = f j := by
  intro j hj
  match j, hj with
  | 0, _ => rfl
  | 1, _ => rfl
  | 2, _ => rfl
  | 3, _ => rfl
  | 4, _ => rfl
  | 5, _ => rfl
  | 6, _ => rfl
  | 7, _ => rfl
  | k + 8, hj => exact absurd hj (by omega)
theorem cpy_in {f g : Nat → Int32} {sp dp n j : Nat} (hj : j < n) : va_cpy f g sp dp n (dp + j) = f (sp + j) := by
  unfold va_cpy
  rw [if_pos ⟨by omega, by omega⟩, Nat.add_sub_cancel_left]
theorem cpy_out {f g : Nat → Int32} {sp dp n j : Nat} (hj : ¬ (dp ≤ j ∧ j < dp + n)) : va_cpy f g sp dp n j = g j := by
  unfold va_cpy
  rw [if_neg hj]
theorem cpy_0 {f g : Nat → Int32} {n j : Nat} (hj : j < n) : va_cpy f g 0 0 n j = f j := by
  have h := cpy_in (f := f) (g := g) (sp := 0) (dp := 0) hj
  rw [Nat.zero_add] at h
  exact h
set_option maxHeartbeats 4000000 in
set_option maxRecDepth 100000 in
theorem k_X5_padded (l : Launch) (Γ : FG) (w : FW) (σ : St) (th : Int32) (z : Bool) (tt nb : Nat) (bf : Nat → Nat) (f38 f40 : Nat → Int32) (ht : tt < 16) (hnb : nb ≤ 1000) (g38 : w.2 38 0 = some (aI 1 16 f38)) (v38 : f38 tt = nI nb) (g40 : w.2 40 0 = some (aI 1 16000 f40)) (v40 : ∀ j, j < nb → f40 (1000 * tt + j) = nI (bf j)) (i all : Nat) (hi : i < all) (hall : all ≤ 1100) (h20 : w.2 20 0 = some (oMo σ w th z)) : Met l yX5_padded (ws_ yX5_padded cX5_padded 6 (some .int)) (rmD 0 0 0) (va_Pc [.ref (w.1 20 0), .int (nI tt), .int (nI i), .int (nI all)] (fI Γ w)) (va_Qi (fun r w1 => r = mp bf nb all i ∧ w1 = w) (fI Γ) (fA Γ)) 0 0 (fA Γ) := by
  refine fw_met (by decide) (Nat.le_of_ble_eq_true rfl) ?_
  intro p e s m below meth c ls C hP hS hr hlk hin hl
  have C : fC p s m [.ref (w.1 20 0), .int (nI tt), .int (nI i), .int (nI all)].toArray c cX5_padded 6 RX5 Γ := C
  have hx := C.1.1
  have hb := C.1.2.1
  have hl : lv_has ls 6 [(0, .ref (w.1 20 0)), (1, .int (nI tt)), (2, .int (nI i)), (3, .int (nI all))] := hl
  refine lv_aload_n hx hb dX5_padded_0 rfl (lv_at hl 0 rfl) ?_
  refine gf_X5_26 C hP h20 rfl rfl dX5_padded_1 ?_
  refine lv_iload_n hx hb dX5_padded_4 rfl (lv_at hl 1 rfl) ?_
  refine fw_iald C hP g38 rfl tt rfl (by omega) (by decide) dX5_padded_5 ?_
  refine fw_E (show f38 tt = nI nb from v38) ?_
  refine lv_istore (lv' := [(4, .int (nI nb)), (0, .ref (w.1 20 0)), (1, .int (nI tt)), (2, .int (nI i)), (3, .int (nI all))]) hx hb dX5_padded_6 hl (by decide) rfl (fun ls hl => ?_)
  refine lv_iload_n hx hb dX5_padded_8 rfl (lv_at hl 3 rfl) ?_
  refine lv_iload hx hb dX5_padded_9 (lv_at hl 0 rfl) ?_
  refine fw_geN (tgt := 27) hx hb (by omega) (by omega) dX5_padded_11 (by decide) (fun c_11 => ?_) (fun c_11 => ?_)
  · refine lv_bipush (v := nI 8) hx hb dX5_padded_27 (by decide) ?_
    refine lv_iload_n hx hb dX5_padded_29 rfl (lv_at hl 4 rfl) ?_
    refine lv_iconst (v := nI 1) hx hb dX5_padded_30 (by decide) ?_
    refine fw_subN hx hb (by omega) dX5_padded_31 ?_
    refine lv_iload_n hx hb dX5_padded_32 rfl (lv_at hl 3 rfl) ?_
    refine fw_subN hx hb (by omega) dX5_padded_33 ?_
    refine fw_mulN hx hb dX5_padded_34 ?_
    refine lv_istore (lv' := [(5, .int (nI (8 * ((all - 1) - i)))), (4, .int (nI nb)), (0, .ref (w.1 20 0)), (1, .int (nI tt)), (2, .int (nI i)), (3, .int (nI all))]) hx hb dX5_padded_35 hl (by decide) rfl (fun ls hl => ?_)
    refine lv_iload_n hx hb dX5_padded_37 rfl (lv_at hl 4 rfl) ?_
    refine lv_iload hx hb dX5_padded_38 (lv_at hl 1 rfl) ?_
    refine fw_neN (tgt := 49) hx hb (by omega) (by omega) dX5_padded_40 (by decide) (fun c_40 => ?_) (fun c_40 => ?_)
    · refine lv_iload hx hb dX5_padded_49 (lv_at hl 0 rfl) ?_
      refine lv_bipush (v := nI 32) hx hb dX5_padded_51 (by decide) ?_
      refine fw_geN (tgt := 71) hx hb (by omega) (by omega) dX5_padded_53 (by decide) (fun c_53 => ?_) (fun c_53 => ?_)
      · refine lv_iconst (v := 0) hx hb dX5_padded_71 (by decide) ?_
        exact fw_reti C hr hlk rfl hP hS (⟨by rw [mp, if_neg (by omega), if_neg c_40, if_neg (by omega)], rfl⟩) (Nat.le_of_ble_eq_true rfl) (Nat.le_of_ble_eq_true rfl) dX5_padded_72
      · refine lv_bipush (v := nI 8) hx hb dX5_padded_56 (by decide) ?_
        refine lv_iload hx hb dX5_padded_58 (lv_at hl 1 rfl) ?_
        refine fw_mulN hx hb dX5_padded_60 ?_
        refine lv_iload hx hb dX5_padded_61 (lv_at hl 0 rfl) ?_
        refine lv_iushr (v := ush (nI (8 * nb)) (nI (8 * ((all - 1) - i)))) hx hb dX5_padded_63 rfl ?_
        refine lv_sipush (v := 255) hx hb dX5_padded_64 (by decide) ?_
        refine lv_iand hx hb dX5_padded_67 ?_
        refine lv_goto (tgt := 72) hx hb dX5_padded_68 (by decide) ?_
        exact fw_reti C hr hlk rfl hP hS (⟨by rw [mp, if_neg (by omega), if_neg c_40, if_pos c_53], rfl⟩) (Nat.le_of_ble_eq_true rfl) (Nat.le_of_ble_eq_true rfl) dX5_padded_72
    · refine lv_sipush (v := 128) hx hb dX5_padded_43 (by decide) ?_
      refine lv_goto (tgt := 72) hx hb dX5_padded_46 (by decide) ?_
      exact fw_reti C hr hlk rfl hP hS (⟨by rw [mp, if_neg (by omega), if_pos c_40], rfl⟩) (Nat.le_of_ble_eq_true rfl) (Nat.le_of_ble_eq_true rfl) dX5_padded_72
  · refine lv_aload_n hx hb dX5_padded_14 rfl (lv_at hl 1 rfl) ?_
    refine gf_X5_32 C hP h20 rfl rfl dX5_padded_15 ?_
    refine lv_sipush (v := nI 1000) hx hb dX5_padded_18 (by decide) ?_
    refine lv_iload_n hx hb dX5_padded_21 rfl (lv_at hl 2 rfl) ?_
    refine fw_mulN hx hb dX5_padded_22 ?_
    refine lv_iload_n hx hb dX5_padded_23 rfl (lv_at hl 3 rfl) ?_
    refine fw_addN hx hb dX5_padded_24 ?_
    refine fw_iald C hP g40 rfl (1000 * tt + i) rfl (by omega) (by decide) dX5_padded_25 ?_
    refine fw_E (show f40 (1000 * tt + i) = nI (bf i) from v40 i (by omega)) ?_
    exact fw_reti C hr hlk rfl hP hS (⟨by rw [mp, if_pos c_11], rfl⟩) (Nat.le_of_ble_eq_true rfl) (Nat.le_of_ble_eq_true rfl) dX5_padded_26
theorem or_s1b {P Q2 z : Nat → Int32} {i : Nat} {v : Int32} (h1 : ∀ j, j < i → z j = P j) (h2 : ∀ j, i ≤ j → j < 8 → z j = Q2 j) (hv : v = P i) : (∀ j, j < i + 1 → upd z i v j = P j) ∧ ∀ j, i + 1 ≤ j → j < 8 → upd z i v j = Q2 j := by
  refine ⟨up_s h1 hv, fun j a b => ?_⟩
  unfold upd
  rw [if_neg (by omega)]
  exact h2 j (by omega) b
set_option maxHeartbeats 16000000 in
set_option maxRecDepth 100000 in
theorem k_X5_block (l : Launch) (Γ : FG) (w : FW) (σ : St) (th : Int32) (z : Bool) (kf wf hsf nf : Nat → Int32) (h20 : w.2 20 0 = some (oMo σ w th z)) (h57 : w.2 57 0 = some (aI 1 64 kf)) (hkf : ∀ j, j < 64 → kf j = shK j) (h59 : w.2 59 0 = some (aI 1 64 wf)) (h60 : w.2 60 0 = some (aI 1 8 hsf)) (h61 : w.2 61 0 = some (aI 1 8 nf)) : Met l yX5_block (ws_ yX5_block cX5_block 11 none) (rmD 1 0 0) (va_Pc [.ref (w.1 20 0)] (fI Γ w)) (va_Qv (fun w1 => ∃ z1 z2, w1 = fset (fset w 61 0 (aI 1 8 z2)) 60 0 (aI 1 8 z1) ∧ ∀ j, j < 8 → z1 j = hsf j + at8 (rds (s8 hsf) wf 64) j) (fI Γ) (fA Γ)) 0 0 (fA Γ) := by
  refine fw_met (by decide) (Nat.le_of_ble_eq_true rfl) ?_
  intro p e s m below meth c ls C hP hS hr hlk hin hl
  have C : fC p s m [.ref (w.1 20 0)].toArray c cX5_block 11 RX5 Γ := C
  have hx := C.1.1
  have hb := C.1.2.1
  have hl : lv_has ls 11 [(0, .ref (w.1 20 0))] := hl
  refine lv_aload_n hx hb dX5_block_0 rfl (lv_at hl 0 rfl) ?_
  refine gf_X5_78 C hP h20 rfl rfl dX5_block_1 ?_
  refine lv_iconst (v := nI 0) hx hb dX5_block_4 (by decide) ?_
  refine lv_aload_n hx hb dX5_block_5 rfl (lv_at hl 0 rfl) ?_
  refine gf_X5_81 C hP h20 rfl rfl dX5_block_6 ?_
  refine lv_iconst (v := nI 0) hx hb dX5_block_9 (by decide) ?_
  refine lv_bipush (v := nI 8) hx hb dX5_block_10 (by decide) ?_
  refine fw_copy C hP hS qm_X5_131 hl.1 h60 rfl h61 rfl 0 0 8 rfl rfl rfl (by omega) (by omega) (by decide) (by decide) ⟨(Nat.le_of_ble_eq_true rfl), (Nat.le_of_ble_eq_true rfl)⟩ dX5_block_12 (fun H locs hP hS => ?_)
  have hP : fP Γ (fset w 61 0 (aI 1 8 (va_cpy hsf nf 0 0 8))) H := hP
  refine lv_iconst (v := nI 0) hx hb dX5_block_15 (by decide) ?_
  refine lv_istore_n (lv' := [(1, .int (nI 0)), (0, .ref (w.1 20 0))]) hx hb dX5_block_16 rfl hl (by decide) rfl (fun ls hl => ?_)
  refine W.widen (k := 0) (n := 0) (Nat.le_of_ble_eq_true rfl) (Nat.le_of_ble_eq_true rfl) ?_
  have loopA : ∀ (fuA : Nat) (k : Nat) (v : Nat → Int32) (H : Heap) (locs : List Loc) (ls : Array Slot), 64 - k < fuA → (k ≤ 64) → (∀ j, j < 8 → v ((j + 7 * k) % 8) = at8 (rds (s8 hsf) wf k) j) → fP Γ (fset w 61 0 (aI 1 8 v)) H → va_S (fA Γ) s.heap H locs → lv_has ls 11 [(1, .int (nI k)), (0, .ref (w.1 20 0))] → W p l e (rmD 1 0 0) s m [.ref (w.1 20 0)].toArray below meth c H locs 0 0 (MQ below (va_Qv (fun w1 => ∃ z1 z2, w1 = fset (fset w 61 0 (aI 1 8 z2)) 60 0 (aI 1 8 z1) ∧ ∀ j, j < 8 → z1 j = hsf j + at8 (rds (s8 hsf) wf 64) j) (fI Γ) (fA Γ)) [.ref (w.1 20 0)].toArray s 0 0 (fA Γ)) (F0 m 17 ls []) := by
    intro fuA
    induction fuA with
    | zero =>
      intro k v H locs ls hf
      exact absurd hf (Nat.not_lt_zero _)
    | succ fuA ihA =>
      intro k v H locs ls hf hk hv hP hS hl
      refine lv_iload_n hx hb dX5_block_17 rfl (lv_at hl 0 rfl) ?_
      refine lv_bipush (v := nI 64) hx hb dX5_block_18 (by decide) ?_
      refine fw_geN (tgt := 243) hx hb (by omega) (by omega) dX5_block_20 (by decide) (fun c_20 => ?_) (fun c_20 => ?_)
      · refine lv_iconst (v := nI 0) hx hb dX5_block_243 (by decide) ?_
        refine lv_istore_n (lv' := [(1, .int (nI 0)), (0, .ref (w.1 20 0))]) hx hb dX5_block_244 rfl hl (by decide) rfl (fun ls hl => ?_)
        have hk9 : k = 64 := by omega
        have hv2 : ∀ j, j < 8 → v j = at8 (rds (s8 hsf) wf 64) j := fun j hj => by have h := hv j hj; rw [hk9, show (j + 7 * 64) % 8 = j by omega] at h; exact h
        have hP : fP Γ (fset (fset w 61 0 (aI 1 8 v)) 60 0 (aI 1 8 hsf)) H := by rw [fset_id ((fset_ne (by decide)).trans h60)]; exact hP
        refine W.widen (k := 0) (n := 0) (Nat.le_of_ble_eq_true rfl) (Nat.le_of_ble_eq_true rfl) ?_
        have loopB : ∀ (fuB : Nat) (i : Nat) (zz : Nat → Int32) (H : Heap) (locs : List Loc) (ls : Array Slot), 8 - i < fuB → (i ≤ 8) → (∀ j, j < i → zz j = hsf j + at8 (rds (s8 hsf) wf 64) j) → (∀ j, i ≤ j → j < 8 → zz j = hsf j) → fP Γ (fset (fset w 61 0 (aI 1 8 v)) 60 0 (aI 1 8 zz)) H → va_S (fA Γ) s.heap H locs → lv_has ls 11 [(1, .int (nI i)), (0, .ref (w.1 20 0))] → W p l e (rmD 1 0 0) s m [.ref (w.1 20 0)].toArray below meth c H locs 0 0 (MQ below (va_Qv (fun w1 => ∃ z1 z2, w1 = fset (fset w 61 0 (aI 1 8 z2)) 60 0 (aI 1 8 z1) ∧ ∀ j, j < 8 → z1 j = hsf j + at8 (rds (s8 hsf) wf 64) j) (fI Γ) (fA Γ)) [.ref (w.1 20 0)].toArray s 0 0 (fA Γ)) (F0 m 245 ls []) := by
          intro fuB
          induction fuB with
          | zero =>
            intro i zz H locs ls hf
            exact absurd hf (Nat.not_lt_zero _)
          | succ fuB ihB =>
            intro i zz H locs ls hf hi hz1 hz2 hP hS hl
            refine lv_iload_n hx hb dX5_block_245 rfl (lv_at hl 0 rfl) ?_
            refine lv_bipush (v := nI 8) hx hb dX5_block_246 (by decide) ?_
            refine fw_geN (tgt := 272) hx hb (by omega) (by omega) dX5_block_248 (by decide) (fun c_248 => ?_) (fun c_248 => ?_)
            · have hi9 : i = 8 := by omega
              exact fw_retv C hr hlk hP hS (⟨zz, v, rfl, fun j hj => hz1 j (by omega)⟩) (Nat.le_of_ble_eq_true rfl) (Nat.le_of_ble_eq_true rfl) dX5_block_272
            · refine lv_aload_n hx hb dX5_block_251 rfl (lv_at hl 1 rfl) ?_
              refine gf_X5_78 C hP ((fset_ne (by decide)).trans ((fset_ne (by decide)).trans h20)) rfl rfl dX5_block_252 ?_
              refine lv_iload_n hx hb dX5_block_255 rfl (lv_at hl 0 rfl) ?_
              refine lv_dup2_11 hx hb dX5_block_256 rfl rfl ?_
              refine fw_iald C hP fset_at rfl i rfl (by omega) (by decide) dX5_block_257 ?_
              refine fw_E (show zz i = hsf i from hz2 i (by omega) (by omega)) ?_
              refine lv_aload_n hx hb dX5_block_258 rfl (lv_at hl 1 rfl) ?_
              refine gf_X5_81 C hP ((fset_ne (by decide)).trans ((fset_ne (by decide)).trans h20)) rfl rfl dX5_block_259 ?_
              refine lv_iload_n hx hb dX5_block_262 rfl (lv_at hl 0 rfl) ?_
              refine fw_iald C hP ((fset_ne (by decide)).trans fset_at) rfl i rfl (by omega) (by decide) dX5_block_263 ?_
              refine fw_E (show v i = at8 (rds (s8 hsf) wf 64) i from hv2 i (by omega)) ?_
              refine lv_iadd hx hb dX5_block_264 ?_
              refine fw_iast C hP hS fset_at rfl i rfl (by omega) (by decide) dX5_block_265 (fun H locs hP hS => ?_)
              have hP : fP Γ (fset (fset (fset w 61 0 (aI 1 8 v)) 60 0 (aI 1 8 zz)) 60 0 (aI 1 8 (upd zz i ((hsf i) + (at8 (rds (s8 hsf) wf 64) i))))) H := hP
              rw [fset_s] at hP
              refine lv_iinc (v := nI (i + 1)) (lv' := [(1, .int (nI (i + 1))), (0, .ref (w.1 20 0))]) hx hb dX5_block_266 hl (k := 0) rfl (by rw [show Int32.ofInt 1 = nI 1 from rfl, nI_add]) (by decide) rfl (fun ls hl => ?_)
              refine lv_goto (tgt := 245) hx hb dX5_block_269 (by decide) ?_
              refine W.widen (k := 0) (n := 0) (Nat.le_of_ble_eq_true rfl) (Nat.le_of_ble_eq_true rfl) ?_
              obtain ⟨y1, y2⟩ := or_s1b (P := fun j => hsf j + at8 (rds (s8 hsf) wf 64) j) (Q2 := hsf) (v := hsf i + at8 (rds (s8 hsf) wf 64) i) hz1 hz2 rfl
              exact ihB (i + 1) (upd zz i ((hsf i) + (at8 (rds (s8 hsf) wf 64) i))) H locs ls (by omega) (by omega) y1 y2 hP hS (lv_sub hl [0, 1] rfl)
        exact loopB 9 0 hsf _ _ _ (by omega) (by omega) (fun j hj => absurd hj (Nat.not_lt_zero j)) (fun j _ _ => rfl) hP hS (lv_sub hl [0, 1] rfl)
      · refine lv_aload_n hx hb dX5_block_23 rfl (lv_at hl 1 rfl) ?_
        refine gf_X5_81 C hP ((fset_ne (by decide)).trans h20) rfl rfl dX5_block_24 ?_
        refine lv_iload_n hx hb dX5_block_27 rfl (lv_at hl 0 rfl) ?_
        refine lv_ineg hx hb dX5_block_28 ?_
        refine lv_bipush (v := nI 7) hx hb dX5_block_29 (by decide) ?_
        refine lv_iand hx hb dX5_block_31 ?_
        refine fw_iald C hP fset_at rfl ((0 + 7 * k) % 8) (ix_neg k (by omega)) (by omega) (by decide) dX5_block_32 ?_
        refine fw_E (show v ((0 + 7 * k) % 8) = at8 (rds (s8 hsf) wf k) 0 from hv 0 (by decide)) ?_
        refine lv_topi (fun x2_33 e_x2_33 => ?_)
        refine lv_istore_n (lv' := [(2, .int x2_33), (1, .int (nI k)), (0, .ref (w.1 20 0))]) hx hb dX5_block_33 rfl hl (by decide) rfl (fun ls hl => ?_)
        refine lv_aload_n hx hb dX5_block_34 rfl (lv_at hl 2 rfl) ?_
        refine gf_X5_81 C hP ((fset_ne (by decide)).trans h20) rfl rfl dX5_block_35 ?_
        refine lv_iconst (v := nI 1) hx hb dX5_block_38 (by decide) ?_
        refine lv_iload_n hx hb dX5_block_39 rfl (lv_at hl 1 rfl) ?_
        refine lv_isub hx hb dX5_block_40 ?_
        refine lv_bipush (v := nI 7) hx hb dX5_block_41 (by decide) ?_
        refine lv_iand hx hb dX5_block_43 ?_
        refine fw_iald C hP fset_at rfl ((1 + 7 * k) % 8) (ix_sub 1 (by decide) k (by omega)) (by omega) (by decide) dX5_block_44 ?_
        refine fw_E (show v ((1 + 7 * k) % 8) = at8 (rds (s8 hsf) wf k) 1 from hv 1 (by decide)) ?_
        refine lv_topi (fun x3_45 e_x3_45 => ?_)
        refine lv_istore_n (lv' := [(3, .int x3_45), (2, .int x2_33), (1, .int (nI k)), (0, .ref (w.1 20 0))]) hx hb dX5_block_45 rfl hl (by decide) rfl (fun ls hl => ?_)
        refine lv_aload_n hx hb dX5_block_46 rfl (lv_at hl 3 rfl) ?_
        refine gf_X5_81 C hP ((fset_ne (by decide)).trans h20) rfl rfl dX5_block_47 ?_
        refine lv_iconst (v := nI 2) hx hb dX5_block_50 (by decide) ?_
        refine lv_iload_n hx hb dX5_block_51 rfl (lv_at hl 2 rfl) ?_
        refine lv_isub hx hb dX5_block_52 ?_
        refine lv_bipush (v := nI 7) hx hb dX5_block_53 (by decide) ?_
        refine lv_iand hx hb dX5_block_55 ?_
        refine fw_iald C hP fset_at rfl ((2 + 7 * k) % 8) (ix_sub 2 (by decide) k (by omega)) (by omega) (by decide) dX5_block_56 ?_
        refine fw_E (show v ((2 + 7 * k) % 8) = at8 (rds (s8 hsf) wf k) 2 from hv 2 (by decide)) ?_
        refine lv_topi (fun x4_57 e_x4_57 => ?_)
        refine lv_istore (lv' := [(4, .int x4_57), (3, .int x3_45), (2, .int x2_33), (1, .int (nI k)), (0, .ref (w.1 20 0))]) hx hb dX5_block_57 hl (by decide) rfl (fun ls hl => ?_)
        refine lv_aload_n hx hb dX5_block_59 rfl (lv_at hl 4 rfl) ?_
        refine gf_X5_81 C hP ((fset_ne (by decide)).trans h20) rfl rfl dX5_block_60 ?_
        refine lv_iconst (v := nI 4) hx hb dX5_block_63 (by decide) ?_
        refine lv_iload_n hx hb dX5_block_64 rfl (lv_at hl 3 rfl) ?_
        refine lv_isub hx hb dX5_block_65 ?_
        refine lv_bipush (v := nI 7) hx hb dX5_block_66 (by decide) ?_
        refine lv_iand hx hb dX5_block_68 ?_
        refine fw_iald C hP fset_at rfl ((4 + 7 * k) % 8) (ix_sub 4 (by decide) k (by omega)) (by omega) (by decide) dX5_block_69 ?_
        refine fw_E (show v ((4 + 7 * k) % 8) = at8 (rds (s8 hsf) wf k) 4 from hv 4 (by decide)) ?_
        refine lv_topi (fun x5_70 e_x5_70 => ?_)
        refine lv_istore (lv' := [(5, .int x5_70), (4, .int x4_57), (3, .int x3_45), (2, .int x2_33), (1, .int (nI k)), (0, .ref (w.1 20 0))]) hx hb dX5_block_70 hl (by decide) rfl (fun ls hl => ?_)
        refine lv_aload_n hx hb dX5_block_72 rfl (lv_at hl 5 rfl) ?_
        refine gf_X5_81 C hP ((fset_ne (by decide)).trans h20) rfl rfl dX5_block_73 ?_
        refine lv_iconst (v := nI 5) hx hb dX5_block_76 (by decide) ?_
        refine lv_iload_n hx hb dX5_block_77 rfl (lv_at hl 4 rfl) ?_
        refine lv_isub hx hb dX5_block_78 ?_
        refine lv_bipush (v := nI 7) hx hb dX5_block_79 (by decide) ?_
        refine lv_iand hx hb dX5_block_81 ?_
        refine fw_iald C hP fset_at rfl ((5 + 7 * k) % 8) (ix_sub 5 (by decide) k (by omega)) (by omega) (by decide) dX5_block_82 ?_
        refine fw_E (show v ((5 + 7 * k) % 8) = at8 (rds (s8 hsf) wf k) 5 from hv 5 (by decide)) ?_
        refine lv_topi (fun x6_83 e_x6_83 => ?_)
        refine lv_istore (lv' := [(6, .int x6_83), (5, .int x5_70), (4, .int x4_57), (3, .int x3_45), (2, .int x2_33), (1, .int (nI k)), (0, .ref (w.1 20 0))]) hx hb dX5_block_83 hl (by decide) rfl (fun ls hl => ?_)
        refine lv_aload_n hx hb dX5_block_85 rfl (lv_at hl 6 rfl) ?_
        refine gf_X5_81 C hP ((fset_ne (by decide)).trans h20) rfl rfl dX5_block_86 ?_
        refine lv_bipush (v := nI 6) hx hb dX5_block_89 (by decide) ?_
        refine lv_iload_n hx hb dX5_block_91 rfl (lv_at hl 5 rfl) ?_
        refine lv_isub hx hb dX5_block_92 ?_
        refine lv_bipush (v := nI 7) hx hb dX5_block_93 (by decide) ?_
        refine lv_iand hx hb dX5_block_95 ?_
        refine fw_iald C hP fset_at rfl ((6 + 7 * k) % 8) (ix_sub 6 (by decide) k (by omega)) (by omega) (by decide) dX5_block_96 ?_
        refine fw_E (show v ((6 + 7 * k) % 8) = at8 (rds (s8 hsf) wf k) 6 from hv 6 (by decide)) ?_
        refine lv_topi (fun x7_97 e_x7_97 => ?_)
        refine lv_istore (lv' := [(7, .int x7_97), (6, .int x6_83), (5, .int x5_70), (4, .int x4_57), (3, .int x3_45), (2, .int x2_33), (1, .int (nI k)), (0, .ref (w.1 20 0))]) hx hb dX5_block_97 hl (by decide) rfl (fun ls hl => ?_)
        refine lv_aload_n hx hb dX5_block_99 rfl (lv_at hl 7 rfl) ?_
        refine gf_X5_81 C hP ((fset_ne (by decide)).trans h20) rfl rfl dX5_block_100 ?_
        refine lv_bipush (v := nI 7) hx hb dX5_block_103 (by decide) ?_
        refine lv_iload_n hx hb dX5_block_105 rfl (lv_at hl 6 rfl) ?_
        refine lv_isub hx hb dX5_block_106 ?_
        refine lv_bipush (v := nI 7) hx hb dX5_block_107 (by decide) ?_
        refine lv_iand hx hb dX5_block_109 ?_
        refine fw_iald C hP fset_at rfl ((7 + 7 * k) % 8) (ix_sub 7 (by decide) k (by omega)) (by omega) (by decide) dX5_block_110 ?_
        refine fw_E (show v ((7 + 7 * k) % 8) = at8 (rds (s8 hsf) wf k) 7 from hv 7 (by decide)) ?_
        refine lv_topi (fun x8_111 e_x8_111 => ?_)
        refine lv_istore (lv' := [(8, .int x8_111), (7, .int x7_97), (6, .int x6_83), (5, .int x5_70), (4, .int x4_57), (3, .int x3_45), (2, .int x2_33), (1, .int (nI k)), (0, .ref (w.1 20 0))]) hx hb dX5_block_111 hl (by decide) rfl (fun ls hl => ?_)
        refine lv_iload hx hb dX5_block_113 (lv_at hl 0 rfl) ?_
        refine lv_iload hx hb dX5_block_115 (lv_at hl 3 rfl) ?_
        refine lv_bipush (v := 6) hx hb dX5_block_117 (by decide) ?_
        refine fw_ci0 (w := (fset w 61 0 (aI 1 8 v))) hS (fw_rS (rest := [.int x8_111]) (As := [.int x5_70, .int 6]) C hP hS wS_X5_164 (k_X5_turn l Γ (fset w 61 0 (aI 1 8 v)) x5_70 6) (fRm_mk rfl rfl (Nat.le_of_ble_eq_true rfl) (Nat.le_of_ble_eq_true rfl) (Nat.le_of_ble_eq_true rfl) (Nat.le_of_ble_eq_true rfl) (Nat.le_of_ble_eq_true rfl)) rfl hl.1 rfl dX5_block_119) (fun H locs hP hS => ?_)
        refine lv_iload hx hb dX5_block_122 (lv_at hl 3 rfl) ?_
        refine lv_bipush (v := 11) hx hb dX5_block_124 (by decide) ?_
        refine fw_ci0 (w := (fset w 61 0 (aI 1 8 v))) hS (fw_rS (rest := [.int (trn x5_70 6), .int x8_111]) (As := [.int x5_70, .int 11]) C hP hS wS_X5_164 (k_X5_turn l Γ (fset w 61 0 (aI 1 8 v)) x5_70 11) (fRm_mk rfl rfl (Nat.le_of_ble_eq_true rfl) (Nat.le_of_ble_eq_true rfl) (Nat.le_of_ble_eq_true rfl) (Nat.le_of_ble_eq_true rfl) (Nat.le_of_ble_eq_true rfl)) rfl hl.1 rfl dX5_block_126) (fun H locs hP hS => ?_)
        refine lv_ixor hx hb dX5_block_129 ?_
        refine lv_iload hx hb dX5_block_130 (lv_at hl 3 rfl) ?_
        refine lv_bipush (v := 25) hx hb dX5_block_132 (by decide) ?_
        refine fw_ci0 (w := (fset w 61 0 (aI 1 8 v))) hS (fw_rS (rest := [.int ((trn x5_70 6) ^^^ (trn x5_70 11)), .int x8_111]) (As := [.int x5_70, .int 25]) C hP hS wS_X5_164 (k_X5_turn l Γ (fset w 61 0 (aI 1 8 v)) x5_70 25) (fRm_mk rfl rfl (Nat.le_of_ble_eq_true rfl) (Nat.le_of_ble_eq_true rfl) (Nat.le_of_ble_eq_true rfl) (Nat.le_of_ble_eq_true rfl) (Nat.le_of_ble_eq_true rfl)) rfl hl.1 rfl dX5_block_134) (fun H locs hP hS => ?_)
        refine lv_ixor hx hb dX5_block_137 ?_
        refine lv_iadd hx hb dX5_block_138 ?_
        refine lv_iload hx hb dX5_block_139 (lv_at hl 3 rfl) ?_
        refine lv_iload hx hb dX5_block_141 (lv_at hl 2 rfl) ?_
        refine lv_iand hx hb dX5_block_143 ?_
        refine lv_iload hx hb dX5_block_144 (lv_at hl 3 rfl) ?_
        refine lv_iconst (v := (-1)) hx hb dX5_block_146 (by decide) ?_
        refine lv_ixor hx hb dX5_block_147 ?_
        refine lv_iload hx hb dX5_block_148 (lv_at hl 1 rfl) ?_
        refine lv_iand hx hb dX5_block_150 ?_
        refine lv_ixor hx hb dX5_block_151 ?_
        refine lv_iadd hx hb dX5_block_152 ?_
        refine lv_aload_n hx hb dX5_block_153 rfl (lv_at hl 8 rfl) ?_
        refine gf_X5_69 C hP ((fset_ne (by decide)).trans h20) rfl rfl dX5_block_154 ?_
        refine lv_iload_n hx hb dX5_block_157 rfl (lv_at hl 7 rfl) ?_
        refine fw_iald C hP ((fset_ne (by decide)).trans h57) rfl k rfl (by omega) (by decide) dX5_block_158 ?_
        refine fw_E (show kf k = shK k from hkf k (by omega)) ?_
        refine lv_iadd hx hb dX5_block_159 ?_
        refine lv_aload_n hx hb dX5_block_160 rfl (lv_at hl 8 rfl) ?_
        refine gf_X5_75 C hP ((fset_ne (by decide)).trans h20) rfl rfl dX5_block_161 ?_
        refine lv_iload_n hx hb dX5_block_164 rfl (lv_at hl 7 rfl) ?_
        refine fw_iald C hP ((fset_ne (by decide)).trans h59) rfl k rfl (by omega) (by decide) dX5_block_165 ?_
        refine lv_iadd hx hb dX5_block_166 ?_
        refine lv_topi (fun x9_167 e_x9_167 => ?_)
        refine lv_istore (lv' := [(9, .int x9_167), (8, .int x8_111), (7, .int x7_97), (6, .int x6_83), (5, .int x5_70), (4, .int x4_57), (3, .int x3_45), (2, .int x2_33), (1, .int (nI k)), (0, .ref (w.1 20 0))]) hx hb dX5_block_167 hl (by decide) rfl (fun ls hl => ?_)
        refine lv_iload_n hx hb dX5_block_169 rfl (lv_at hl 7 rfl) ?_
        refine lv_iconst (v := 2) hx hb dX5_block_170 (by decide) ?_
        refine fw_ci0 (w := (fset w 61 0 (aI 1 8 v))) hS (fw_rS (rest := []) (As := [.int x2_33, .int 2]) C hP hS wS_X5_164 (k_X5_turn l Γ (fset w 61 0 (aI 1 8 v)) x2_33 2) (fRm_mk rfl rfl (Nat.le_of_ble_eq_true rfl) (Nat.le_of_ble_eq_true rfl) (Nat.le_of_ble_eq_true rfl) (Nat.le_of_ble_eq_true rfl) (Nat.le_of_ble_eq_true rfl)) rfl hl.1 rfl dX5_block_171) (fun H locs hP hS => ?_)
        refine lv_iload_n hx hb dX5_block_174 rfl (lv_at hl 7 rfl) ?_
        refine lv_bipush (v := 13) hx hb dX5_block_175 (by decide) ?_
        refine fw_ci0 (w := (fset w 61 0 (aI 1 8 v))) hS (fw_rS (rest := [.int (trn x2_33 2)]) (As := [.int x2_33, .int 13]) C hP hS wS_X5_164 (k_X5_turn l Γ (fset w 61 0 (aI 1 8 v)) x2_33 13) (fRm_mk rfl rfl (Nat.le_of_ble_eq_true rfl) (Nat.le_of_ble_eq_true rfl) (Nat.le_of_ble_eq_true rfl) (Nat.le_of_ble_eq_true rfl) (Nat.le_of_ble_eq_true rfl)) rfl hl.1 rfl dX5_block_177) (fun H locs hP hS => ?_)
        refine lv_ixor hx hb dX5_block_180 ?_
        refine lv_iload_n hx hb dX5_block_181 rfl (lv_at hl 7 rfl) ?_
        refine lv_bipush (v := 22) hx hb dX5_block_182 (by decide) ?_
        refine fw_ci0 (w := (fset w 61 0 (aI 1 8 v))) hS (fw_rS (rest := [.int ((trn x2_33 2) ^^^ (trn x2_33 13))]) (As := [.int x2_33, .int 22]) C hP hS wS_X5_164 (k_X5_turn l Γ (fset w 61 0 (aI 1 8 v)) x2_33 22) (fRm_mk rfl rfl (Nat.le_of_ble_eq_true rfl) (Nat.le_of_ble_eq_true rfl) (Nat.le_of_ble_eq_true rfl) (Nat.le_of_ble_eq_true rfl) (Nat.le_of_ble_eq_true rfl)) rfl hl.1 rfl dX5_block_184) (fun H locs hP hS => ?_)
        refine lv_ixor hx hb dX5_block_187 ?_
        refine lv_iload_n hx hb dX5_block_188 rfl (lv_at hl 7 rfl) ?_
        refine lv_iload_n hx hb dX5_block_189 rfl (lv_at hl 6 rfl) ?_
        refine lv_iand hx hb dX5_block_190 ?_
        refine lv_iload_n hx hb dX5_block_191 rfl (lv_at hl 7 rfl) ?_
        refine lv_iload hx hb dX5_block_192 (lv_at hl 5 rfl) ?_
        refine lv_iand hx hb dX5_block_194 ?_
        refine lv_ixor hx hb dX5_block_195 ?_
        refine lv_iload_n hx hb dX5_block_196 rfl (lv_at hl 6 rfl) ?_
        refine lv_iload hx hb dX5_block_197 (lv_at hl 5 rfl) ?_
        refine lv_iand hx hb dX5_block_199 ?_
        refine lv_ixor hx hb dX5_block_200 ?_
        refine lv_iadd hx hb dX5_block_201 ?_
        refine lv_topi (fun x10_202 e_x10_202 => ?_)
        refine lv_istore (lv' := [(10, .int x10_202), (9, .int x9_167), (8, .int x8_111), (7, .int x7_97), (6, .int x6_83), (5, .int x5_70), (4, .int x4_57), (3, .int x3_45), (2, .int x2_33), (1, .int (nI k)), (0, .ref (w.1 20 0))]) hx hb dX5_block_202 hl (by decide) rfl (fun ls hl => ?_)
        refine lv_aload_n hx hb dX5_block_204 rfl (lv_at hl 10 rfl) ?_
        refine gf_X5_81 C hP ((fset_ne (by decide)).trans h20) rfl rfl dX5_block_205 ?_
        refine lv_iconst (v := nI 3) hx hb dX5_block_208 (by decide) ?_
        refine lv_iload_n hx hb dX5_block_209 rfl (lv_at hl 9 rfl) ?_
        refine lv_isub hx hb dX5_block_210 ?_
        refine lv_bipush (v := nI 7) hx hb dX5_block_211 (by decide) ?_
        refine lv_iand hx hb dX5_block_213 ?_
        refine lv_dup2_11 hx hb dX5_block_214 rfl rfl ?_
        refine fw_iald C hP fset_at rfl ((3 + 7 * k) % 8) (ix_sub 3 (by decide) k (by omega)) (by omega) (by decide) dX5_block_215 ?_
        refine fw_E (show v ((3 + 7 * k) % 8) = at8 (rds (s8 hsf) wf k) 3 from hv 3 (by decide)) ?_
        refine lv_iload hx hb dX5_block_216 (lv_at hl 1 rfl) ?_
        refine lv_iadd hx hb dX5_block_218 ?_
        refine fw_iast C hP hS fset_at rfl ((3 + 7 * k) % 8) (ix_sub 3 (by decide) k (by omega)) (by omega) (by decide) dX5_block_219 (fun H locs hP hS => ?_)
        have hP : fP Γ (fset (fset w 61 0 (aI 1 8 v)) 61 0 (aI 1 8 (upd v ((3 + 7 * k) % 8) ((at8 (rds (s8 hsf) wf k) 3) + x9_167)))) H := hP
        rw [fset_s] at hP
        refine lv_aload_n hx hb dX5_block_220 rfl (lv_at hl 10 rfl) ?_
        refine gf_X5_81 C hP ((fset_ne (by decide)).trans h20) rfl rfl dX5_block_221 ?_
        refine lv_bipush (v := nI 7) hx hb dX5_block_224 (by decide) ?_
        refine lv_iload_n hx hb dX5_block_226 rfl (lv_at hl 9 rfl) ?_
        refine lv_isub hx hb dX5_block_227 ?_
        refine lv_bipush (v := nI 7) hx hb dX5_block_228 (by decide) ?_
        refine lv_iand hx hb dX5_block_230 ?_
        refine lv_iload hx hb dX5_block_231 (lv_at hl 1 rfl) ?_
        refine lv_iload hx hb dX5_block_233 (lv_at hl 0 rfl) ?_
        refine lv_iadd hx hb dX5_block_235 ?_
        refine fw_iast C hP hS fset_at rfl ((7 + 7 * k) % 8) (ix_sub 7 (by decide) k (by omega)) (by omega) (by decide) dX5_block_236 (fun H locs hP hS => ?_)
        have hP : fP Γ (fset (fset w 61 0 (aI 1 8 (upd v ((3 + 7 * k) % 8) ((at8 (rds (s8 hsf) wf k) 3) + x9_167)))) 61 0 (aI 1 8 (upd (upd v ((3 + 7 * k) % 8) ((at8 (rds (s8 hsf) wf k) 3) + x9_167)) ((7 + 7 * k) % 8) (x9_167 + x10_202)))) H := hP
        rw [fset_s] at hP
        refine lv_iinc (v := nI (k + 1)) (lv' := [(1, .int (nI (k + 1))), (10, .int x10_202), (9, .int x9_167), (8, .int x8_111), (7, .int x7_97), (6, .int x6_83), (5, .int x5_70), (4, .int x4_57), (3, .int x3_45), (2, .int x2_33), (0, .ref (w.1 20 0))]) hx hb dX5_block_237 hl (k := 9) rfl (by rw [show Int32.ofInt 1 = nI 1 from rfl, nI_add]) (by decide) rfl (fun ls hl => ?_)
        refine lv_goto (tgt := 17) hx hb dX5_block_240 (by decide) ?_
        refine W.widen (k := 0) (n := 0) (Nat.le_of_ble_eq_true rfl) (Nat.le_of_ble_eq_true rfl) ?_
        exact ihA (k + 1) (upd (upd v ((3 + 7 * k) % 8) ((at8 (rds (s8 hsf) wf k) 3) + x9_167)) ((7 + 7 * k) % 8) (x9_167 + x10_202)) H locs ls (by omega) (by omega) (by rw [rds_s]; exact bl_step hv (by rw [e_x9_167, e_x5_70, e_x6_83, e_x7_97, e_x8_111]; rfl) (by rw [e_x10_202, e_x2_33, e_x3_45, e_x4_57]; rfl)) hP hS (lv_sub hl [0, 10] rfl)
  exact loopA 65 0 (va_cpy hsf nf 0 0 8) _ _ _ (by omega) (by omega) (fun j hj => by rw [show (j + 7 * 0) % 8 = j by omega, cpy_0 hj]; exact (at8_s8 j hj).symm) hP hS (lv_sub hl [0, 1] rfl)
