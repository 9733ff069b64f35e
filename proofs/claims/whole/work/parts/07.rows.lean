section FWA
variable {p : Program} {l : Launch} {e : Env} {R : Room} {s : State} {m : MethodId} {args : Array Value} {below : List Frame} {meth : Method} {c : Code} {H : Heap} {locs : List Loc} {cells slots : Nat} {Q : State → Prop}
variable {cc : ByteArray} {nL pc : Nat} {ls : Array Slot} {rest : List Value} {own : String} {Γ : FG} {w : FW} {k i a : Nat}
/-- reads of arrays: the index is the natural j -/
theorem fw_iald (C : fC p s m args c cc nL own Γ) (hP : fP Γ w H) {n : Nat} {f : Nat → Int32} (he : w.2 k i = some (aI 1 n f)) (ha : w.1 k i = a) (j : Nat) {x : Int32} (hx : x = nI j) (hj : j < n) (hn : n < 2 ^ 31) (hdg : decode cc pc = .ok (.iaload, 1))
    (kk : W p l e R s m args below meth c H locs cells slots Q (F0 m (pc + 1) ls (.int (f j) :: rest))) : W p l e R s m args below meth c H locs cells slots Q (F0 m pc ls (.int x :: .ref a :: rest)) := by
  obtain ⟨L, hL, hPw, -⟩ := hP
  obtain ⟨q0, -, h1⟩ := fL_at (Γ := Γ) hL he
  subst ha; subst hx
  exact va_iald C.1.1 C.1.2.1 C.2.1.1 hPw q0 1 h1 (fTys_at (by omega)) (fw_nI hj hn) hdg (by rw [fw_cl hj hn]; exact kk)
theorem fw_bald (C : fC p s m args c cc nL own Γ) (hP : fP Γ w H) {n : Nat} {f : Nat → Int32} (he : w.2 k i = some (aI 0 n f)) (ha : w.1 k i = a) (j : Nat) {x : Int32} (hx : x = nI j) (hj : j < n) (hn : n < 2 ^ 31) (hdg : decode cc pc = .ok (.baload, 1))
    (kk : W p l e R s m args below meth c H locs cells slots Q (F0 m (pc + 1) ls (.int (f j) :: rest))) : W p l e R s m args below meth c H locs cells slots Q (F0 m pc ls (.int x :: .ref a :: rest)) := by
  obtain ⟨L, hL, hPw, -⟩ := hP
  obtain ⟨q0, -, h1⟩ := fL_at (Γ := Γ) hL he
  subst ha; subst hx
  exact va_bald C.1.1 C.1.2.1 C.2.1.1 hPw q0 0 h1 (fTys_at (by omega)) (fw_nI hj hn) hdg (by rw [fw_cl hj hn]; exact kk)
theorem fw_zald (C : fC p s m args c cc nL own Γ) (hP : fP Γ w H) {n : Nat} {f : Nat → Int32} (he : w.2 k i = some (aI 3 n f)) (ha : w.1 k i = a) (j : Nat) {x : Int32} (hx : x = nI j) (hj : j < n) (hn : n < 2 ^ 31) (hdg : decode cc pc = .ok (.baload, 1))
    (kk : W p l e R s m args below meth c H locs cells slots Q (F0 m (pc + 1) ls (.int (f j) :: rest))) : W p l e R s m args below meth c H locs cells slots Q (F0 m pc ls (.int x :: .ref a :: rest)) := by
  obtain ⟨L, hL, hPw, -⟩ := hP
  obtain ⟨q0, -, h1⟩ := fL_at (Γ := Γ) hL he
  subst ha; subst hx
  exact va_zald C.1.1 C.1.2.1 C.2.1.1 hPw q0 3 h1 (fTys_at (by omega)) (fw_nI hj hn) hdg (by rw [fw_cl hj hn]; exact kk)
theorem fw_lald (C : fC p s m args c cc nL own Γ) (hP : fP Γ w H) {n : Nat} {f : Nat → Int64} (he : w.2 k i = some (aL n f)) (ha : w.1 k i = a) (j : Nat) {x : Int32} (hx : x = nI j) (hj : j < n) (hn : n < 2 ^ 31) (hdg : decode cc pc = .ok (.laload, 1))
    (kk : W p l e R s m args below meth c H locs cells slots Q (F0 m (pc + 1) ls (.long (f j) :: rest))) : W p l e R s m args below meth c H locs cells slots Q (F0 m pc ls (.int x :: .ref a :: rest)) := by
  obtain ⟨L, hL, hPw, -⟩ := hP
  obtain ⟨q0, -, h1⟩ := fL_at (Γ := Γ) hL he
  subst ha; subst hx
  exact va_lald C.1.1 C.1.2.1 C.2.1.1 hPw q0 2 h1 (fTys_at (by omega)) (fw_nI hj hn) hdg (by rw [fw_cl hj hn]; exact kk)
theorem fw_aald (C : fC p s m args c cc nL own Γ) (hP : fP Γ w H) {n t : Nat} {Cn : String} {f : Nat → Option Nat} (ht : t < 7) (hty : fTy t = .object Cn) (he : w.2 k i = some (aR t n f)) (ha : w.1 k i = a) (j : Nat) {x : Int32} (hx : x = nI j) (hj : j < n) (hn : n < 2 ^ 31) {v : Value} (hv : va_rf (f j) = v) (hdg : decode cc pc = .ok (.aaload, 1))
    (kk : W p l e R s m args below meth c H locs cells slots Q (F0 m (pc + 1) ls (v :: rest))) : W p l e R s m args below meth c H locs cells slots Q (F0 m pc ls (.int x :: .ref a :: rest)) := by
  obtain ⟨L, hL, hPw, -⟩ := hP
  obtain ⟨q0, -, h1⟩ := fL_at (Γ := Γ) hL he
  subst ha; subst hx; subst hv
  exact va_aldq C.1.1 C.1.2.1 C.2.1.1 hPw q0 t (C := Cn) h1 (by rw [fTys_at ht, hty]) (fw_nI hj hn) hdg (by rw [fw_cl hj hn]; exact kk)
/-- writes of arrays -/
theorem fw_iast (C : fC p s m args c cc nL own Γ) (hP : fP Γ w H) (hS : va_S (fA Γ) s.heap H locs) {n : Nat} {f : Nat → Int32} (he : w.2 k i = some (aI 1 n f)) (ha : w.1 k i = a) (j : Nat) {x v : Int32} (hx : x = nI j) (hj : j < n) (hn : n < 2 ^ 31) (hdg : decode cc pc = .ok (.iastore, 1))
    (kk : ∀ (H1 : Heap) (locs1 : List Loc), fP Γ (fset w k i (aI 1 n (upd f j v))) H1 → va_S (fA Γ) s.heap H1 locs1 → W p l e R s m args below meth c H1 locs1 cells slots Q (F0 m (pc + 1) ls rest)) : W p l e R s m args below meth c H locs cells slots Q (F0 m pc ls (.int v :: .int x :: .ref a :: rest)) := by
  obtain ⟨L, hL, hPw, hD⟩ := hP
  obtain ⟨q0, h0, h1⟩ := fL_at (Γ := Γ) hL he
  subst ha; subst hx
  refine va_iast C.1.1 C.1.2.1 C.2.1.1 hPw hD hS q0 1 h1 (fTys_at (by omega)) (fw_nI hj hn) hdg (fun H1 locs1 g1 g2 g3 => kk H1 locs1 ⟨L, fset_mem hL he, ?_, ?_⟩ g3)
  · have := fL_set (e' := aI 1 n (upd f j v)) hD he h0
    rw [← this]; rw [fw_cl hj hn] at g1; exact g1
  · have := fL_set (e' := aI 1 n (upd f j v)) hD he h0
    rw [← this]; rw [fw_cl hj hn] at g2; exact g2
theorem fw_bast (C : fC p s m args c cc nL own Γ) (hP : fP Γ w H) (hS : va_S (fA Γ) s.heap H locs) {n : Nat} {f : Nat → Int32} (he : w.2 k i = some (aI 0 n f)) (ha : w.1 k i = a) (j : Nat) {x v : Int32} (hx : x = nI j) (hj : j < n) (hn : n < 2 ^ 31) (hdg : decode cc pc = .ok (.bastore, 1))
    (kk : ∀ (H1 : Heap) (locs1 : List Loc), fP Γ (fset w k i (aI 0 n (upd f j (vp_nar .byte v)))) H1 → va_S (fA Γ) s.heap H1 locs1 → W p l e R s m args below meth c H1 locs1 cells slots Q (F0 m (pc + 1) ls rest)) : W p l e R s m args below meth c H locs cells slots Q (F0 m pc ls (.int v :: .int x :: .ref a :: rest)) := by
  obtain ⟨L, hL, hPw, hD⟩ := hP
  obtain ⟨q0, h0, h1⟩ := fL_at (Γ := Γ) hL he
  subst ha; subst hx
  refine va_bast C.1.1 C.1.2.1 C.2.1.1 hPw hD hS q0 0 h1 (fTys_at (by omega)) (fw_nI hj hn) hdg (fun H1 locs1 g1 g2 g3 => kk H1 locs1 ⟨L, fset_mem hL he, ?_, ?_⟩ g3)
  · have := fL_set (e' := aI 0 n (upd f j (vp_nar .byte v))) hD he h0
    rw [← this]; rw [fw_cl hj hn] at g1; exact g1
  · have := fL_set (e' := aI 0 n (upd f j (vp_nar .byte v))) hD he h0
    rw [← this]; rw [fw_cl hj hn] at g2; exact g2
theorem fw_zast (C : fC p s m args c cc nL own Γ) (hP : fP Γ w H) (hS : va_S (fA Γ) s.heap H locs) {n : Nat} {f : Nat → Int32} (he : w.2 k i = some (aI 3 n f)) (ha : w.1 k i = a) (j : Nat) {x v : Int32} (hx : x = nI j) (hj : j < n) (hn : n < 2 ^ 31) (hdg : decode cc pc = .ok (.bastore, 1))
    (kk : ∀ (H1 : Heap) (locs1 : List Loc), fP Γ (fset w k i (aI 3 n (upd f j (vp_nar .boolean v)))) H1 → va_S (fA Γ) s.heap H1 locs1 → W p l e R s m args below meth c H1 locs1 cells slots Q (F0 m (pc + 1) ls rest)) : W p l e R s m args below meth c H locs cells slots Q (F0 m pc ls (.int v :: .int x :: .ref a :: rest)) := by
  obtain ⟨L, hL, hPw, hD⟩ := hP
  obtain ⟨q0, h0, h1⟩ := fL_at (Γ := Γ) hL he
  subst ha; subst hx
  refine va_zast C.1.1 C.1.2.1 C.2.1.1 hPw hD hS q0 3 h1 (fTys_at (by omega)) (fw_nI hj hn) hdg (fun H1 locs1 g1 g2 g3 => kk H1 locs1 ⟨L, fset_mem hL he, ?_, ?_⟩ g3)
  · have := fL_set (e' := aI 3 n (upd f j (vp_nar .boolean v))) hD he h0
    rw [← this]; rw [fw_cl hj hn] at g1; exact g1
  · have := fL_set (e' := aI 3 n (upd f j (vp_nar .boolean v))) hD he h0
    rw [← this]; rw [fw_cl hj hn] at g2; exact g2
theorem fw_last (C : fC p s m args c cc nL own Γ) (hP : fP Γ w H) (hS : va_S (fA Γ) s.heap H locs) {n : Nat} {f : Nat → Int64} (he : w.2 k i = some (aL n f)) (ha : w.1 k i = a) (j : Nat) {x : Int32} {v : Int64} (hx : x = nI j) (hj : j < n) (hn : n < 2 ^ 31) (hdg : decode cc pc = .ok (.lastore, 1))
    (kk : ∀ (H1 : Heap) (locs1 : List Loc), fP Γ (fset w k i (aL n (vp_updL f j v))) H1 → va_S (fA Γ) s.heap H1 locs1 → W p l e R s m args below meth c H1 locs1 cells slots Q (F0 m (pc + 1) ls rest)) : W p l e R s m args below meth c H locs cells slots Q (F0 m pc ls (.long v :: .int x :: .ref a :: rest)) := by
  obtain ⟨L, hL, hPw, hD⟩ := hP
  obtain ⟨q0, h0, h1⟩ := fL_at (Γ := Γ) hL he
  subst ha; subst hx
  refine va_last C.1.1 C.1.2.1 C.2.1.1 hPw hD hS q0 2 h1 (fTys_at (by omega)) (fw_nI hj hn) hdg (fun H1 locs1 g1 g2 g3 => kk H1 locs1 ⟨L, fset_mem hL he, ?_, ?_⟩ g3)
  · have := fL_set (e' := aL n (vp_updL f j v)) hD he h0
    rw [← this]; rw [fw_cl hj hn] at g1; exact g1
  · have := fL_set (e' := aL n (vp_updL f j v)) hD he h0
    rw [← this]; rw [fw_cl hj hn] at g2; exact g2
theorem fw_aast (C : fC p s m args c cc nL own Γ) (hP : fP Γ w H) (hS : va_S (fA Γ) s.heap H locs) {n t ci k2 i2 b : Nat} {r : vw_C} {f : Nat → Option Nat} {vs : List Value} (ht : t < 7) (hc : vwCl[ci]? = some r) (hty : fTy t = .object r.1) (he : w.2 k i = some (aR t n f)) (ha : w.1 k i = a) (he2 : w.2 k2 i2 = some (oO ci vs)) (ha2 : w.1 k2 i2 = b) (j : Nat) {x : Int32} (hx : x = nI j) (hj : j < n) (hn : n < 2 ^ 31) (hdg : decode cc pc = .ok (.aastore, 1))
    (kk : ∀ (H1 : Heap) (locs1 : List Loc), fP Γ (fset w k i (aR t n (va_up f j (some b)))) H1 → va_S (fA Γ) s.heap H1 locs1 → W p l e R s m args below meth c H1 locs1 cells slots Q (F0 m (pc + 1) ls rest)) : W p l e R s m args below meth c H locs cells slots Q (F0 m pc ls (.ref b :: .int x :: .ref a :: rest)) := by
  obtain ⟨L, hL, hPw, hD⟩ := hP
  obtain ⟨q0, h0, h1⟩ := fL_at (Γ := Γ) hL he
  obtain ⟨q2, -, h2⟩ := fL_at (Γ := Γ) hL he2
  subst ha; subst hx; subst ha2
  refine va_astq C.1.1 C.1.2.1 C.2.1.1 hPw hD hS q0 t q2 ci h1 (by rw [fTys_at ht, hty]) h2 hc (fw_nI hj hn) hdg (fun H1 locs1 g1 g2 g3 => kk H1 locs1 ⟨L, fset_mem hL he, ?_, ?_⟩ g3)
  · have := fL_set (e' := aR t n (va_up f j (some (w.1 k2 i2)))) hD he h0
    rw [← this]; rw [fw_cl hj hn] at g1; exact g1
  · have := fL_set (e' := aR t n (va_up f j (some (w.1 k2 i2)))) hD he h0
    rw [← this]; rw [fw_cl hj hn] at g2; exact g2
/-- makings: label (k, i) is free -/
theorem fw_new (C : fC p s m args c cc nL own Γ) (hP : fP Γ w H) (hS : va_S (fA Γ) s.heap H locs) (k i : Nat) {Cn : String} {T : u_T} {N ci index : Nat} (hin : ∀ w ∈ u_ws Cn T N, w ∈ lw_all) (ty0 : Nat → FieldType) (hty : ∀ k, k < N → parseFieldDescriptor (T k).2.2.1 = some (ty0 k)) (hc : vwCl[ci]? = some (Cn, T, N)) (hw : Cond.classLink own index Cn ∈ lw_all ∧ Cond.instantiable Cn N ∈ lw_all ∧ Cond.initialized Cn ∈ lw_all) {fs : List Value} (hfs : ∀ j, j < N → defaultValue (ty0 j) = vp_V fs j) (hn : w.2 k i = none) (hcells : cells + 1 ≤ R.cells) (hslots : slots + N ≤ R.slots) (hdg : decode cc pc = .ok (.new index, 3))
    (kk : ∀ (q : Nat) (H1 : Heap), fP Γ (fnew w k i (oO ci fs) q) H1 → va_S (fA Γ) s.heap H1 locs → W p l e R s m args below meth c H1 locs (cells + 1) (slots + N) Q (F0 m (pc + 3) ls (.ref q :: rest))) : W p l e R s m args below meth c H locs cells slots Q (F0 m pc ls rest) := by
  obtain ⟨L, hL, hPw, hD⟩ := hP
  exact va_new C.1.1 C.1.2.1 C.1.2.2.2.2 hin ty0 hty C.1.2.2.2.1 (C.1.2.2.2.2 _ hw.1) (C.1.2.2.2.2 _ hw.2.1) (C.1.2.2.2.2 _ hw.2.2) C.2.1.1 hPw hD hS (fun q h => Nat.le_trans C.2.2.2 h) hc hfs hcells hslots hdg (fun q H1 g1 g2 g3 => kk q H1 (fP_new hL hn g1 g2) g3)
theorem fw_arrId {U : State} {c1 c2 : ClassId} {ty : FieldType} (h1 : va_RA U c1 ty) (h2 : va_RA U c2 ty) : c1 = c2 := by
  cases ty with
  | object C =>
    obtain ⟨_, _, -, -, -, a⟩ := h1
    obtain ⟨_, _, -, -, -, b⟩ := h2
    exact Option.some.inj (a.symm.trans b)
  | _ => exact Option.some.inj (h1.symm.trans h2)
theorem fw_newI (C : fC p s m args c cc nL own Γ) (hP : fP Γ w H) (hS : va_S (fA Γ) s.heap H locs) (k i : Nat) {atype : ArrayType} {t : Nat} (ht : t < 7) (hty : newarray.typeOf atype = fTy t) (hd : defaultValue (fTy t) = .int 0) (hw : Cond.arrayClass (newarray.typeOf atype) ∈ lw_all) {n : Int32} {N : Nat} (hn0 : ¬ n < 0) (hN : n.toNatClampNeg = N) (hbytes : N * componentBytes (fTy t) ≤ 536870912) (hn : w.2 k i = none) (hcells : cells + 1 ≤ R.cells) (hslots : slots + N ≤ R.slots) (hdg : decode cc pc = .ok (.newarray atype, 2))
    (kk : ∀ (q : Nat) (H1 : Heap), fP Γ (fnew w k i (aI t N (fun _ => 0)) q) H1 → va_S (fA Γ) s.heap H1 locs → W p l e R s m args below meth c H1 locs (cells + 1) (slots + N) Q (F0 m (pc + 2) ls (.ref q :: rest))) : W p l e R s m args below meth c H locs cells slots Q (F0 m pc ls (.int n :: rest)) := by
  obtain ⟨L, hL, hPw, hD⟩ := hP
  refine va_newa (atype := atype) (ty := fTy t) (a0 := (N, .inl (fun _ => 0))) C.1.1 C.1.2.1 (C.1.2.2.2.2 _ hw) hty C.2.1.1 hPw hD hS (fun q h => Nat.le_trans C.2.2.2 h) (fun cA => by rw [hd]; rfl) hn0 hN hbytes hcells hslots hdg (fun q cA H1 g0 g1 g2 g3 => kk q H1 ?_ g3)
  have e1 := (g0.2 7 (cA, fTy t) (by rw [List.getElem?_append_right (by simp [fTys])]; simp [fTys])).2
  have e2 := (C.2.1.1.2 t (Γ.2.1 t, fTy t) (fTys_at ht)).2
  have e3 := fw_arrId e1 e2
  subst e3
  exact fP_new hL hn g1 g2
theorem fw_newL (C : fC p s m args c cc nL own Γ) (hP : fP Γ w H) (hS : va_S (fA Γ) s.heap H locs) (k i : Nat) {n : Int32} {N : Nat} (hn0 : ¬ n < 0) (hN : n.toNatClampNeg = N) (hbytes : N * componentBytes .long ≤ 536870912) (hn : w.2 k i = none) (hcells : cells + 1 ≤ R.cells) (hslots : slots + N ≤ R.slots) (hdg : decode cc pc = .ok (.newarray .long, 2))
    (kk : ∀ (q : Nat) (H1 : Heap), fP Γ (fnew w k i (aL N (fun _ => 0)) q) H1 → va_S (fA Γ) s.heap H1 locs → W p l e R s m args below meth c H1 locs (cells + 1) (slots + N) Q (F0 m (pc + 2) ls (.ref q :: rest))) : W p l e R s m args below meth c H locs cells slots Q (F0 m pc ls (.int n :: rest)) := by
  obtain ⟨L, hL, hPw, hD⟩ := hP
  refine va_newa (atype := .long) (ty := .long) (a0 := (N, .inr (.inl (fun _ => 0)))) C.1.1 C.1.2.1 (C.1.2.2.2.2 _ qa_long) rfl C.2.1.1 hPw hD hS (fun q h => Nat.le_trans C.2.2.2 h) (fun cA => rfl) hn0 hN hbytes hcells hslots hdg (fun q cA H1 g0 g1 g2 g3 => kk q H1 ?_ g3)
  have e1 := (g0.2 7 (cA, .long) (by rw [List.getElem?_append_right (by simp [fTys])]; simp [fTys])).2
  have e2 := (C.2.1.1.2 2 (Γ.2.1 2, .long) (fTys_at (by omega))).2
  have e3 := fw_arrId e1 e2
  subst e3
  exact fP_new hL hn g1 g2
theorem fw_newR (C : fC p s m args c cc nL own Γ) (hP : fP Γ w H) (hS : va_S (fA Γ) s.heap H locs) (k i : Nat) {index t : Nat} {Cn : String} (ht : t < 7) (hty : fTy t = .object Cn) (hw : Cond.classLink own index Cn ∈ lw_all) (ho : va_AO Cn s) {n : Int32} {N : Nat} (hn0 : ¬ n < 0) (hN : n.toNatClampNeg = N) (hbytes : N * 4 ≤ 536870912) (hn : w.2 k i = none) (hcells : cells + 1 ≤ R.cells) (hslots : slots + N ≤ R.slots) (hdg : decode cc pc = .ok (.anewarray index, 3))
    (kk : ∀ (q : Nat) (H1 : Heap), fP Γ (fnew w k i (aR t N (fun _ => none)) q) H1 → va_S (fA Γ) s.heap H1 locs → W p l e R s m args below meth c H1 locs (cells + 1) (slots + N) Q (F0 m (pc + 3) ls (.ref q :: rest))) : W p l e R s m args below meth c H locs cells slots Q (F0 m pc ls (.int n :: rest)) := by
  obtain ⟨L, hL, hPw, hD⟩ := hP
  refine va_newq C.1.1 C.1.2.1 C.1.2.2.2.1 (C.1.2.2.2.2 _ hw) ho C.2.1.1 hPw hD hS (fun q h => Nat.le_trans C.2.2.2 h) hn0 hN hbytes hcells hslots hdg (fun q cA H1 g0 g1 g2 g3 => kk q H1 ?_ g3)
  have e1 := (g0.2 7 (cA, .object Cn) (by rw [List.getElem?_append_right (by simp [fTys])]; simp [fTys])).2
  have e2 := (C.2.1.1.2 t (Γ.2.1 t, fTy t) (fTys_at ht)).2
  rw [hty] at e2
  have e3 := fw_arrId e1 e2
  subst e3
  exact fP_new hL hn g1 g2
/-- System.arraycopy of ints -/
theorem fw_copy (C : fC p s m args c cc nL own Γ) (hP : fP Γ w H) (hS : va_S (fA Γ) s.heap H locs) {index : Nat} (hlink : Cond.methodLink own index arraycopyName ∈ lw_all) (hsz : ls.size = nL) {k1 i1 b n0 n1 : Nat} {f g : Nat → Int32} (he0 : w.2 k i = some (aI 1 n0 f)) (ha0 : w.1 k i = a) (he1 : w.2 k1 i1 = some (aI 1 n1 g)) (ha1 : w.1 k1 i1 = b) (sp dp n : Nat) {xs xd xn : Int32} (hxs : xs = nI sp) (hxd : xd = nI dp) (hxn : xn = nI n) (h4 : sp + n ≤ n0) (h5 : dp + n ≤ n1) (hb0 : n0 < 2 ^ 31) (hb1 : n1 < 2 ^ 31) (hR : 1 ≤ R.frames ∧ (rest.map fun v => v.category).sum + (nativeFrameWords "java/lang/System" "arraycopy" 5 + 11) ≤ R.locals) (hdg : decode cc pc = .ok (.invokestatic index, 3))
    (kk : ∀ (H1 : Heap) (locs1 : List Loc), fP Γ (fset w k1 i1 (aI 1 n1 (va_cpy f g sp dp n))) H1 → va_S (fA Γ) s.heap H1 locs1 → W p l e R s m args below meth c H1 locs1 cells slots Q (F0 m (pc + 3) ls rest)) : W p l e R s m args below meth c H locs cells slots Q (F0 m pc ls (.int xn :: .int xd :: .ref b :: .int xs :: .ref a :: rest)) := by
  obtain ⟨L, hL, hPw, hD⟩ := hP
  obtain ⟨q0, -, h0⟩ := fL_at (Γ := Γ) hL he0
  obtain ⟨q1, h10, h1⟩ := fL_at (Γ := Γ) hL he1
  subst ha0; subst ha1; subst hxs; subst hxd; subst hxn
  have c1 : (nI sp).toNatClampNeg = sp := nI_clamp (by omega)
  have c2 : (nI dp).toNatClampNeg = dp := nI_clamp (by omega)
  have c3 : (nI n).toNatClampNeg = n := nI_clamp (by omega)
  refine va_copyi (ty := .int) C.1.1 C.1.2.1 (by rw [C.1.2.2.1, hsz]) C.1.2.2.2.1 (C.1.2.2.2.2 _ hlink) (C.1.2.2.2.2 _ qN_copy) (C.1.2.2.2.2 _ qs_copy) (C.1.2.2.2.2 _ qn_sys) C.2.1.1 hPw hD hS q0 q1 1 1 h0 h1 (fTys_at (by omega)) (fTys_at (by omega)) rfl (nI_pos (by omega)) (nI_pos (by omega)) (nI_pos (by omega)) (by rw [c1, c3]; exact h4) (by rw [c2, c3]; exact h5) (fun _ _ => rfl) hR.1 hR.2 hdg (fun H1 locs1 g1 g2 g3 => kk H1 locs1 ⟨L, fset_mem hL he1, ?_, ?_⟩ g3)
  · have := fL_set (e' := aI 1 n1 (va_cpy f g sp dp n)) hD he1 h10
    rw [← this]; rw [c1, c2, c3] at g1; exact g1
  · have := fL_set (e' := aI 1 n1 (va_cpy f g sp dp n)) hD he1 h10
    rw [← this]; rw [c1, c2, c3] at g2; exact g2
/-- static tables -/
theorem fw_gets (C : fC p s m args c cc nL own Γ) (hS : va_S (fA Γ) s.heap H locs) {Cn n d : String} {v : Value} {index : Nat} (hZ : va_Z Cn n d v (fA Γ) s s.heap) (hlink : Cond.fieldLink own index Cn n d ∈ lw_all) (hdg : decode cc pc = .ok (.getstatic index, 3))
    (kk : W p l e R s m args below meth c H locs cells slots Q (F0 m (pc + 3) ls (v :: rest))) : W p l e R s m args below meth c H locs cells slots Q (F0 m pc ls rest) :=
  va_gets C.1.1 C.1.2.1 hZ hS C.1.2.2.2.1 (C.1.2.2.2.2 _ hlink) (fun _ h => h) hdg kk
theorem fw_tald (C : fC p s m args c cc nL own Γ) (hS : va_S (fA Γ) s.heap H locs) {t N : Nat} {f : Nat → Int32} (hT : va_T .int t N (fun j => .int (f j)) (fA Γ) s s.heap) (j : Nat) {x : Int32} (hx : x = nI j) (hj : j < N) (hn : N < 2 ^ 31) (hdg : decode cc pc = .ok (.iaload, 1))
    (kk : W p l e R s m args below meth c H locs cells slots Q (F0 m (pc + 1) ls (.int (f j) :: rest))) : W p l e R s m args below meth c H locs cells slots Q (F0 m pc ls (.int x :: .ref t :: rest)) := by
  subst hx
  exact va_ti C.1.1 C.1.2.1 hT hS (fw_nI hj hn) rfl hdg (by rw [fw_cl hj hn]; exact kk)
theorem fw_alen (C : fC p s m args c cc nL own Γ) (hP : fP Γ w H) {n t : Nat} {f : Nat → Int32} (ht : t < 7) (he : w.2 k i = some (aI t n f)) (ha : w.1 k i = a) (hdg : decode cc pc = .ok (.arraylength, 1))
    (kk : W p l e R s m args below meth c H locs cells slots Q (F0 m (pc + 1) ls (.int (nI n) :: rest))) : W p l e R s m args below meth c H locs cells slots Q (F0 m pc ls (.ref a :: rest)) := by
  obtain ⟨L, hL, hPw, -⟩ := hP
  obtain ⟨q0, -, h1⟩ := fL_at (Γ := Γ) hL he
  subst ha
  exact va_alen C.1.1 C.1.2.1 C.2.1.1 hPw q0 t h1 (fTys_at ht) rfl hdg kk
/-- calls -/
def fVw (own : String) (ix : Nat) (y : MethodName) (Cn : String) (bytes : ByteArray) (maxL : Nat) (ret : Option FieldType) (n : Nat) : Prop := Cond.methodLink own ix y ∈ lw_all ∧ Cond.instanceMethod y ∈ lw_all ∧ Cond.selects Cn y y ∈ lw_all ∧ Cond.initialized y.cls ∈ lw_all ∧ Cond.code y bytes maxL ret ∈ lw_all ∧ (y.cls ≠ "java/lang/invoke/MethodHandle" ∧ y.cls ≠ "java/lang/invoke/VarHandle") ∧ (parseMethodDescriptor y.desc).map (fun d => d.parameters.length) = some n
def fSw (own : String) (ix : Nat) (y : MethodName) (bytes : ByteArray) (maxL : Nat) (ret : Option FieldType) (n : Nat) : Prop := Cond.methodLink own ix y ∈ lw_all ∧ Cond.static y ∈ lw_all ∧ Cond.initialized y.cls ∈ lw_all ∧ Cond.code y bytes maxL ret ∈ lw_all ∧ (y.cls ≠ "java/lang/invoke/MethodHandle" ∧ y.cls ≠ "java/lang/invoke/VarHandle") ∧ (parseMethodDescriptor y.desc).map (fun d => d.parameters.length) = some n
def fIw (own : String) (ix : Nat) (y : MethodName) (bytes : ByteArray) (maxL : Nat) (n : Nat) : Prop := Cond.methodLink own ix y ∈ lw_all ∧ Cond.instanceMethod y ∈ lw_all ∧ Cond.initialized y.cls ∈ lw_all ∧ Cond.code y bytes maxL none ∈ lw_all ∧ (y.cls ≠ "java/lang/invoke/MethodHandle" ∧ y.cls ≠ "java/lang/invoke/VarHandle") ∧ (parseMethodDescriptor y.desc).map (fun d => d.parameters.length) = some n ∧ y.name = "<init>"
def fRm (R rm : Room) (maxL cells slots mc ms : Nat) (rest : List Value) : Prop := rm.cells = mc ∧ rm.slots = ms ∧ rm.frames + 1 ≤ R.frames ∧ 8 + (maxL + 11) + rm.locals ≤ R.locals ∧ cells + mc ≤ R.cells ∧ slots + ms ≤ R.slots ∧ (rest.map fun v => v.category).sum ≤ 8
theorem fw_Pc {U : State} {locs : List Loc} (C : fC p s m args c cc nL own Γ) (hP : fP Γ w H) (hS : va_S (fA Γ) s.heap H locs) {av : List Value} (hU : U.heap = H) (hW : s.WarmedH U.vm) : va_Pc av (fI Γ w) av.toArray U := ⟨rfl, fI_at C.2.1 C.2.2.1 C.2.2.2 hS hP hU hW⟩
theorem fw_cb {y : MethodName} {bytes : ByteArray} {maxL mc ms n ix : Nat} {ret : Option FieldType} {rm : Room} (C : fC p s m args c cc nL own Γ) (h1 : Cond.methodLink own ix y ∈ lw_all) (h2 : Cond.initialized y.cls ∈ lw_all) (h3 : Cond.code y bytes maxL ret ∈ lw_all) (h4 : y.cls ≠ "java/lang/invoke/MethodHandle" ∧ y.cls ≠ "java/lang/invoke/VarHandle") (h5 : (parseMethodDescriptor y.desc).map (fun d => d.parameters.length) = some n) (hr1 : rm.cells = mc) (hr2 : rm.slots = ms) (hr3 : rm.frames + 1 ≤ R.frames) (hr4 : 8 + (maxL + 11) + rm.locals ≤ R.locals) : CallB R s args own ix y bytes maxL ret (ws_ y bytes maxL ret) rm mc ms n :=
  callB_of (Ts := lw_all) n C.1.2.2.2.2 (lw_good_ws h3) rfl hr1 hr2 (C.1.2.2.2.2 _ h2) (C.1.2.2.2.2 _ h1) ⟨h4.1, h4.2, h5⟩ ⟨hr3, hr4⟩
theorem fw_rV (C : fC p s m args c cc nL own Γ) (hP : fP Γ w H) (hS : va_S (fA Γ) s.heap H locs) {y : MethodName} {Cn : String} {bytes : ByteArray} {maxL mc ms n ix ci : Nat} {ret : Option FieldType} {rm : Room} {As : List Value} {T : u_T} {N : Nat} {fs : List Value} {Qc : Array Value → State → Outcome → State → Prop} {st0 : List Value} (hw : fVw own ix y Cn bytes maxL ret n) (hM : Met l y (ws_ y bytes maxL ret) rm (va_Pc (.ref a :: As) (fI Γ w)) Qc mc ms (fA Γ)) (he : w.2 k i = some (oO ci fs)) (ha : w.1 k i = a) (hc : vwCl[ci]? = some (Cn, T, N)) (hr : fRm R rm maxL cells slots mc ms rest) (hn : As.length = n) (hsz : ls.size = nL) (hst : st0 = As.reverse ++ .ref a :: rest) (hdg : decode cc pc = .ok (.invokevirtual ix, 3)) :
    va_Run p l e R s m args below meth c H locs cells slots mc ms (F0 m pc ls st0) rest (Qc (Value.ref a :: As).toArray) (fA Γ) := by
  obtain ⟨h1, h2, h3, h4, h5, h6, h7⟩ := hw
  obtain ⟨r1, r2, r3, r4, r5, r6, r7⟩ := hr
  refine va_runV C.1 hM ⟨fw_cb C h1 h4 h5 h6 h7 r1 r2 r3 r4, C.1.2.2.2.2 _ h2, C.1.2.2.2.2 _ h3⟩ ⟨fI_blind, ?_, fun U hU hW => fw_Pc C hP hS hU hW⟩ rfl hn hsz hst (lv_room r7) hdg ⟨r5, r6⟩
  obtain ⟨L, hL, hPw, -⟩ := hP
  obtain ⟨q0, -, g1⟩ := fL_at (Γ := Γ) hL he
  subst ha
  exact va_recv C.2.1.1 hPw hc g1
theorem fw_rS (C : fC p s m args c cc nL own Γ) (hP : fP Γ w H) (hS : va_S (fA Γ) s.heap H locs) {y : MethodName} {bytes : ByteArray} {maxL mc ms n ix : Nat} {ret : Option FieldType} {rm : Room} {As : List Value} {Qc : Array Value → State → Outcome → State → Prop} {st0 : List Value} (hw : fSw own ix y bytes maxL ret n) (hM : Met l y (ws_ y bytes maxL ret) rm (va_Pc As (fI Γ w)) Qc mc ms (fA Γ)) (hr : fRm R rm maxL cells slots mc ms rest) (hn : As.length = n) (hsz : ls.size = nL) (hst : st0 = As.reverse ++ rest) (hdg : decode cc pc = .ok (.invokestatic ix, 3)) :
    va_Run p l e R s m args below meth c H locs cells slots mc ms (F0 m pc ls st0) rest (Qc As.toArray) (fA Γ) := by
  obtain ⟨h1, h2, h4, h5, h6, h7⟩ := hw
  obtain ⟨r1, r2, r3, r4, r5, r6, r7⟩ := hr
  exact va_runS C.1 hM ⟨fw_cb C h1 h4 h5 h6 h7 r1 r2 r3 r4, C.1.2.2.2.2 _ h2⟩ ⟨fI_blind, fun U hU hW => fw_Pc C hP hS hU hW⟩ rfl hn hsz hst (lv_room r7) hdg ⟨r5, r6⟩
theorem fw_rI (C : fC p s m args c cc nL own Γ) (hP : fP Γ w H) (hS : va_S (fA Γ) s.heap H locs) {y : MethodName} {bytes : ByteArray} {maxL mc ms n ix : Nat} {rm : Room} {As : List Value} {Qc : Array Value → State → Outcome → State → Prop} {st0 : List Value} (hw : fIw own ix y bytes maxL n) (hM : Met l y (ws_ y bytes maxL none) rm (va_Pc (.ref a :: As) (fI Γ w)) Qc mc ms (fA Γ)) (hr : fRm R rm maxL cells slots mc ms rest) (hn : As.length = n) (hsz : ls.size = nL) (hst : st0 = As.reverse ++ .ref a :: rest) (hdg : decode cc pc = .ok (.invokespecial ix, 3)) :
    va_Run p l e R s m args below meth c H locs cells slots mc ms (F0 m pc ls st0) rest (Qc (Value.ref a :: As).toArray) (fA Γ) := by
  obtain ⟨h1, h2, h4, h5, h6, h7, h8⟩ := hw
  obtain ⟨r1, r2, r3, r4, r5, r6, r7⟩ := hr
  exact va_runI C.1 hM ⟨fw_cb C h1 h4 h5 h6 h7 r1 r2 r3 r4, h8, C.1.2.2.2.2 _ h2⟩ ⟨fI_blind, fun U hU hW => fw_Pc C hP hS hU hW⟩ rfl hn hsz hst (lv_room r7) hdg ⟨r5, r6⟩
theorem fw_rSN (C : fC p s m args c cc nL own Γ) (hP : fP Γ w H) (hS : va_S (fA Γ) s.heap H locs) {y : MethodName} {host : String} {bytes : ByteArray} {maxL mc ms n ix : Nat} {ret : Option FieldType} {rm : Room} {As : List Value} {Qc : Array Value → State → Outcome → State → Prop} {st0 : List Value} (hl : va_Nw (.methodLinkNest own ix y host) s) (h2 : Cond.static y ∈ lw_all) (h4 : Cond.initialized y.cls ∈ lw_all) (h5 : Cond.code y bytes maxL ret ∈ lw_all) (h6 : y.cls ≠ "java/lang/invoke/MethodHandle" ∧ y.cls ≠ "java/lang/invoke/VarHandle") (h7 : (parseMethodDescriptor y.desc).map (fun d => d.parameters.length) = some n) (hM : Met l y (ws_ y bytes maxL ret) rm (va_Pc As (fI Γ w)) Qc mc ms (fA Γ)) (hr : fRm R rm maxL cells slots mc ms rest) (hn : As.length = n) (hsz : ls.size = nL) (hst : st0 = As.reverse ++ rest) (hdg : decode cc pc = .ok (.invokestatic ix, 3)) :
    va_Run p l e R s m args below meth c H locs cells slots mc ms (F0 m pc ls st0) rest (Qc As.toArray) (fA Γ) := by
  obtain ⟨r1, r2, r3, r4, r5, r6, r7⟩ := hr
  exact va_runSN C.1 hM ⟨va_cnB (Ts := lw_all) n C.1.2.2.2.2 (lw_good_ws h5) rfl r1 r2 hl (C.1.2.2.2.2 _ h4) ⟨h6.1, h6.2, h7⟩ ⟨r3, r4⟩, C.1.2.2.2.2 _ h2, trivial⟩ ⟨fI_blind, fun U hU hW => fw_Pc C hP hS hU hW⟩ rfl hn hsz hst (lv_room r7) hdg ⟨r5, r6⟩
theorem fw_ci {st0 : List Value} {a9 : Array Value} {mc ms : Nat} {post : Int32 → FW → Prop} (hS : va_S (fA Γ) s.heap H locs) (hr : va_Run p l e R s m args below meth c H locs cells slots mc ms (F0 m pc ls st0) rest (va_Qi post (fI Γ) (fA Γ) a9) (fA Γ))
    (kk : ∀ (r : Int32) (w1 : FW) (H1 : Heap) (locs1 : List Loc), post r w1 → fP Γ w1 H1 → va_S (fA Γ) s.heap H1 locs1 → W p l e R s m args below meth c H1 locs1 (cells + mc) (slots + ms) Q (F0 m (pc + 3) ls (.int r :: rest))) : W p l e R s m args below meth c H locs cells slots Q (F0 m pc ls st0) :=
  va_calli hr hS (fun _ _ h => h) (fun _ h => h) (fun r u t H1 locs1 ht _ hp hB _ _ hS1 => kk r u H1 locs1 hp (by rw [← ht]; exact hB.1) hS1)
theorem fw_cv {st0 : List Value} {a9 : Array Value} {mc ms : Nat} {post : FW → Prop} (hS : va_S (fA Γ) s.heap H locs) (hr : va_Run p l e R s m args below meth c H locs cells slots mc ms (F0 m pc ls st0) rest (va_Qv post (fI Γ) (fA Γ) a9) (fA Γ))
    (kk : ∀ (w1 : FW) (H1 : Heap) (locs1 : List Loc), post w1 → fP Γ w1 H1 → va_S (fA Γ) s.heap H1 locs1 → W p l e R s m args below meth c H1 locs1 (cells + mc) (slots + ms) Q (F0 m (pc + 3) ls rest)) : W p l e R s m args below meth c H locs cells slots Q (F0 m pc ls st0) :=
  va_callv hr hS (fun _ _ h => h) (fun _ h => h) (fun u t H1 locs1 ht _ hp hB _ _ hS1 => kk u H1 locs1 hp (by rw [← ht]; exact hB.1) hS1)
theorem fw_cq {st0 : List Value} {a9 : Array Value} {mc ms : Nat} {post : Option Nat → FW → Prop} (hS : va_S (fA Γ) s.heap H locs) (hr : va_Run p l e R s m args below meth c H locs cells slots mc ms (F0 m pc ls st0) rest (va_Qq post (fI Γ) (fA Γ) a9) (fA Γ))
    (kk : ∀ (r : Option Nat) (w1 : FW) (H1 : Heap) (locs1 : List Loc), post r w1 → fP Γ w1 H1 → va_S (fA Γ) s.heap H1 locs1 → W p l e R s m args below meth c H1 locs1 (cells + mc) (slots + ms) Q (F0 m (pc + 3) ls (va_rf r :: rest))) : W p l e R s m args below meth c H locs cells slots Q (F0 m pc ls st0) :=
  va_callq hr hS (fun _ _ h => h) (fun _ h => h) (fun r u t H1 locs1 ht _ hp hB _ _ hS1 => kk r u H1 locs1 hp (by rw [← ht]; exact hB.1) hS1)
/-- ends -/
theorem fw_reti {post : Int32 → FW → Prop} {mc ms : Nat} {v : Int32} {ty : FieldType} (C : fC p s m args c cc nL own Γ) (hr : meth.sig.returnType = some ty) (hlk : meth.locks = false) (hn : narrow ty (.int v) = .int v) (hP : fP Γ w H) (hS : va_S (fA Γ) s.heap H locs) (hp : post v w) (h1 : cells ≤ mc) (h2 : slots ≤ ms) (hdg : decode cc pc = .ok (.ireturn, 1)) : W p l e R s m args below meth c H locs cells slots (MQ below (va_Qi post (fI Γ) (fA Γ)) args s mc ms (fA Γ)) (F0 m pc ls [.int v]) :=
  W.widen h1 h2 (W.zret C.1.1 C.1.2.1 hr hn (fun t ht hW => ⟨⟨v, w, rfl, hp, fI_at C.2.1 C.2.2.1 C.2.2.2 hS hP ht hW⟩, hS.F ht⟩) hS.2.2 hdg hlk)
theorem fw_retv {post : FW → Prop} {mc ms : Nat} (C : fC p s m args c cc nL own Γ) (hr : meth.sig.returnType = none) (hlk : meth.locks = false) (hP : fP Γ w H) (hS : va_S (fA Γ) s.heap H locs) (hp : post w) (h1 : cells ≤ mc) (h2 : slots ≤ ms) (hdg : decode cc pc = .ok (.return_, 1)) : W p l e R s m args below meth c H locs cells slots (MQ below (va_Qv post (fI Γ) (fA Γ)) args s mc ms (fA Γ)) (F0 m pc ls []) :=
  W.widen h1 h2 (W.vret C.1.1 C.1.2.1 hr (fun t ht hW => ⟨⟨w, rfl, hp, fI_at C.2.1 C.2.2.1 C.2.2.2 hS hP ht hW⟩, hS.F ht⟩) hS.2.2 hdg hlk)
theorem fw_retq {post : Option Nat → FW → Prop} {mc ms : Nat} {r : Option Nat} {v : Value} {ty : FieldType} (C : fC p s m args c cc nL own Γ) (hr : meth.sig.returnType = some ty) (hty : (∃ n, ty = .object n) ∨ ∃ t, ty = .array t) (hlk : meth.locks = false) (hv : v = va_rf r) (hP : fP Γ w H) (hS : va_S (fA Γ) s.heap H locs) (hp : post r w) (h1 : cells ≤ mc) (h2 : slots ≤ ms) (hdg : decode cc pc = .ok (.areturn, 1)) : W p l e R s m args below meth c H locs cells slots (MQ below (va_Qq post (fI Γ) (fA Γ)) args s mc ms (fA Γ)) (F0 m pc ls [v]) := by
  subst hv
  exact W.widen h1 h2 (W.aret C.1.1 C.1.2.1 hr hty (by cases r <;> simp [va_rf]) (fun t ht hW => ⟨⟨r, w, rfl, hp, fI_at C.2.1 C.2.2.1 C.2.2.2 hS hP ht hW⟩, hS.F ht⟩) hS.2.2 hdg hlk)
/-- Object's constructor -/
theorem fw_obj (C : fC p s m args c cc nL own Γ) {ix : Nat} (hl : Cond.methodLink own ix objectInit ∈ lw_all) (hsz : ls.size = nL) (hR : 1 ≤ R.frames ∧ (rest.map fun v => v.category).sum + 20 ≤ R.locals) (hst : (rest.map fun v => v.category).sum ≤ 8) (hdg : decode cc pc = .ok (.invokespecial ix, 3)) (kk : W p l e R s m args below meth c H locs cells slots Q (F0 m (pc + 3) ls rest)) : W p l e R s m args below meth c H locs cells slots Q (F0 m pc ls (.ref a :: rest)) := by
  have h9 := lv_room (m := m) (pc := pc) (ls := ls) (rest := .ref a :: rest) hst
  exact W.objInit C.1.1 C.1.2.1 C.1.2.2.2.1 (C.1.2.2.2.2 _ hl) (C.1.2.2.2.2 _ qi_obj) (C.1.2.2.2.2 _ qc_obj) rfl (by show ls.size = _; rw [hsz, C.1.2.2.1]) rfl hdg hR.1 (by omega) kk
end FWA
