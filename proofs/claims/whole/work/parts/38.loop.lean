/-! the law's loop -/
theorem k15 (x : Int32) : ∃ j, j < 16 ∧ x &&& 15 = nI j := by
  refine ⟨(x &&& 15).toBitVec.toNat, ?_, ?_⟩
  · rw [Int32.toBitVec_and, BitVec.toNat_and]
    exact Nat.lt_of_le_of_lt Nat.and_le_right (by decide)
  · apply Int32.toBitVec_inj.mp
    show (x &&& 15).toBitVec = BitVec.ofNat 32 (x &&& 15).toBitVec.toNat
    simp
theorem l7 : ∀ L, L < 7 → nI L - nI 7 < 0 := by decide +kernel
section LAWL
variable {p : Program} {l : Launch} {e : Env} {s : State} {m : MethodId} {below : List Frame} {meth : Method} {c : Code} {H : Heap} {locs : List Loc} {cells slots : Nat} {ls : Array Slot} {Γ : FG} {b L q0 q1 q2 : Nat} {xs : Nat → Int32}
theorem law_end (C : fC p s m #[Value.ref b] c cL_law 7 RL Γ) (hbase : s.heap.size ≤ Γ.2.2.1) (hr : meth.sig.returnType = ret) (hlk : meth.locks = false) (hS : va_S (fA Γ) s.heap H locs) (hcells : cells ≤ 601024) (hslots : slots ≤ 7293034) : W p l e room_1 s m #[Value.ref b] below meth c H locs cells slots (lw_Z below #[Value.ref b] s) (F0 m 732 ls []) := by
  refine lv_iconst (v := 1) C.1.1 C.1.2.1 dL_law_732 (by decide) ?_
  refine va_forget (fun q hq => Nat.le_trans hbase (hS.2.2 q hq)) ?_
  refine W.widen (k := 601024) (n := 7293034) hcells hslots ?_
  refine W.base ?_
  exact lw_ret (Drawn.sameBut.refl s.drawn lw_cs) C.1.1 C.1.2.1 hr hlk dL_law_733
set_option maxHeartbeats 4000000 in
set_option maxRecDepth 100000 in
theorem law_loop (C : fC p s m #[Value.ref b] c cL_law 7 RL Γ) (hX : va_X b L xs s s.heap) (hbl : b < s.heap.size) (hbA : ¬ fA Γ b) (hL : L ≤ 3584) (hs9 : l.stackTraces = false) (hbase : s.heap.size ≤ Γ.2.2.1) (hr : meth.sig.returnType = ret) (hlk : meth.locks = false) : ∀ (n k i : Nat) (σ : St) (w : FW) (H : Heap) (locs : List Loc) (ls : Array Slot), k + n = 514 → i = 7 * k → i ≤ L → Lw q0 q1 q2 σ w → fP Γ w H → va_S (fA Γ) s.heap H locs → lv_has ls 7 [(4, .int (nI i)), (3, .ref q2), (2, .ref q1), (1, .ref q0), (0, .ref b)] →
    W p l e room_1 s m #[Value.ref b] below meth c H locs (36 + 5 * k) (26460 + 1230 * k) (lw_Z below #[Value.ref b] s) (F0 m 23 ls []) := by
  have hx := C.1.1
  have hb := C.1.2.1
  intro n
  induction n with
  | zero =>
    intro k i σ w H locs ls hk hik hiL
    exact absurd hiL (by omega)
  | succ n ih =>
    intro k i σ w H locs ls hk hik hiL hW hP hS hl
    refine lv_iload hx hb dL_law_23 (lv_at hl 0 rfl) ?_
    refine lv_aload_n hx hb dL_law_25 rfl (lv_at hl 4 rfl) ?_
    refine fw_slen C hX hbl hbA hS dL_law_26 ?_
    refine lv_bipush (v := nI 7) hx hb dL_law_27 (by decide) ?_
    by_cases h7 : L < 7
    · refine lv_isub hx hb dL_law_29 ?_
      refine lv_icmp_gt (tgt := 732) hx hb dL_law_30 (by decide) (fun c_30 => ?_) (fun c_30 => ?_)
      · exact law_end C hbase hr hlk hS (by omega) (by omega)
      · refine absurd ?_ c_30
        apply Int32.lt_iff_toInt_lt.mpr
        have a1 := Int32.lt_iff_toInt_lt.mp (l7 L h7)
        have a2 := nI_toInt (show i < 2 ^ 31 by omega)
        have a3 : (0 : Int32).toInt = 0 := rfl
        omega
    · refine fw_subN hx hb (by omega) dL_law_29 ?_
      refine fw_gtN (tgt := 732) hx hb (by omega) (by omega) dL_law_30 (by decide) (fun c_30 => ?_) (fun c_30 => ?_)
      · exact law_end C hbase hr hlk hS (by omega) (by omega)
      · have hi7 : i + 7 ≤ L := by omega
        have hcc : 36 + 5 * k + 5 ≤ room_1.cells := by show 36 + 5 * k + 5 ≤ 601024; omega
        have hss : 26460 + 1230 * k + 1230 ≤ room_1.slots := by show 26460 + 1230 * k + 1230 ≤ 7293034; omega
        have kont : ∀ (σ1 : St) (w1 : FW) (H1 : Heap) (locs1 : List Loc) (ls1 : Array Slot), Lw q0 q1 q2 σ1 w1 → fP Γ w1 H1 → va_S (fA Γ) s.heap H1 locs1 → lv_has ls1 7 [(4, .int (nI i)), (3, .ref q2), (2, .ref q1), (1, .ref q0), (0, .ref b)] → W p l e room_1 s m #[Value.ref b] below meth c H1 locs1 (36 + 5 * k + 5) (26460 + 1230 * k + 1230) (lw_Z below #[Value.ref b] s) (F0 m 726 ls1 []) := by
          intro σ1 w1 H1 locs1 ls1 hW1 hP1 hS1 hl1
          refine lv_iinc (v := nI (i + 7)) (lv' := [(4, .int (nI (i + 7))), (3, .ref q2), (2, .ref q1), (1, .ref q0), (0, .ref b)]) hx hb dL_law_726 hl1 (k := 0) rfl (by rw [show Int32.ofInt 7 = nI 7 from rfl, nI_add]) (by decide) rfl (fun ls hl => ?_)
          refine lv_goto (tgt := 23) hx hb dL_law_729 (by decide) ?_
          refine W.widen (k := 36 + 5 * (k + 1)) (n := 26460 + 1230 * (k + 1)) (by omega) (by omega) ?_
          exact ih (k + 1) (i + 7) σ1 w1 H1 locs1 ls (by omega) (by omega) hi7 hW1 hP1 hS1 hl
        refine lv_aload_n hx hb dL_law_33 rfl (lv_at hl 4 rfl) ?_
        refine lv_iload hx hb dL_law_34 (lv_at hl 0 rfl) ?_
        refine fw_sld C hX hbl hbA hS (by omega) i (by omega) dL_law_36 ?_
        refine lv_bipush (v := 15) hx hb dL_law_37 (by decide) ?_
        refine lv_iand hx hb dL_law_39 ?_
        obtain ⟨j, hj, ej⟩ := k15 (xs i)
        refine fw_E ej ?_
        have hno : ∀ x : Int32, 12 < x.toInt → W p l e room_1 s m #[Value.ref b] below meth c H locs (36 + 5 * k) (26460 + 1230 * k) (lw_Z below #[Value.ref b] s) (F0 m 40 ls [.int x]) := fun x hx12 => by
          refine lv_tableOut (tgt := 726) hx hb dL_law_40 (Or.inr hx12) (by decide) ?_
          refine W.widen (k := 36 + 5 * k + 5) (n := 26460 + 1230 * k + 1230) (by omega) (by omega) ?_
          exact kont σ w H locs ls hW hP hS hl
        match j, hj with
        | 0, _ =>
          refine lv_tableIn (off := 68) (tgt := 108) hx hb dL_law_40 (by decide) (by decide) rfl (by decide) ?_
          exact lc_person C hX hbl hbA hL hs9 hi7 hW hP hS hl hcc hss kont
        | 1, _ =>
          refine lv_tableIn (off := 81) (tgt := 121) hx hb dL_law_40 (by decide) (by decide) rfl (by decide) ?_
          exact lc_role C hX hbl hbA hL hs9 hi7 hW hP hS hl hcc hss kont
        | 2, _ =>
          refine lv_tableIn (off := 208) (tgt := 248) hx hb dL_law_40 (by decide) (by decide) rfl (by decide) ?_
          exact lc_thing C hX hbl hbA hL hs9 hi7 hW hP hS hl hcc hss kont
        | 3, _ =>
          refine lv_tableIn (off := 233) (tgt := 273) hx hb dL_law_40 (by decide) (by decide) rfl (by decide) ?_
          exact lc_byteOf C hX hbl hbA hL hs9 hi7 hW hP hS hl hcc hss kont
        | 4, _ =>
          refine lv_tableIn (off := 270) (tgt := 310) hx hb dL_law_40 (by decide) (by decide) rfl (by decide) ?_
          exact lc_sign C hX hbl hbA hL hs9 hi7 hW hP hS hl hcc hss kont
        | 5, _ =>
          refine lv_tableIn (off := 394) (tgt := 434) hx hb dL_law_40 (by decide) (by decide) rfl (by decide) ?_
          exact lc_holds C hX hbl hbA hL hs9 hi7 hW hP hS hl hcc hss kont
        | 6, _ =>
          refine lv_tableIn (off := 419) (tgt := 459) hx hb dL_law_40 (by decide) (by decide) rfl (by decide) ?_
          exact lc_withdraw C hX hbl hbA hL hs9 hi7 hW hP hS hl hcc hss kont
        | 7, _ =>
          refine lv_tableIn (off := 444) (tgt := 484) hx hb dL_law_40 (by decide) (by decide) rfl (by decide) ?_
          exact lc_order C hX hbl hbA hL hs9 hi7 hW hP hS hl hcc hss kont
        | 8, _ =>
          refine lv_tableIn (off := 481) (tgt := 521) hx hb dL_law_40 (by decide) (by decide) rfl (by decide) ?_
          exact lc_complete C hX hbl hbA hL hs9 hi7 hW hP hS hl hcc hss kont
        | 9, _ =>
          refine lv_tableIn (off := 506) (tgt := 546) hx hb dL_law_40 (by decide) (by decide) rfl (by decide) ?_
          exact lc_comment C hX hbl hbA hL hs9 hi7 hW hP hS hl hcc hss kont
        | 10, _ =>
          refine lv_tableIn (off := 587) (tgt := 627) hx hb dL_law_40 (by decide) (by decide) rfl (by decide) ?_
          exact lc_digest C hX hbl hbA hL hs9 hi7 hW hP hS hl hcc hss kont
        | 11, _ =>
          refine lv_tableIn (off := 624) (tgt := 664) hx hb dL_law_40 (by decide) (by decide) rfl (by decide) ?_
          exact lc_listed C hX hbl hbA hL hs9 hi7 hW hP hS hl hcc hss kont
        | 12, _ =>
          refine lv_tableIn (off := 649) (tgt := 689) hx hb dL_law_40 (by decide) (by decide) rfl (by decide) ?_
          exact lc_needs C hX hbl hbA hL hs9 hi7 hW hP hS hl hcc hss kont
        | 13, _ => exact hno _ (by decide)
        | 14, _ => exact hno _ (by decide)
        | 15, _ => exact hno _ (by decide)
        | j9 + 16, h9 => exact absurd h9 (by omega)
end LAWL
