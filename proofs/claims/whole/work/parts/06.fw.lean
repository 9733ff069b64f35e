/-! labelled worlds: a cell is named by a label (kind, number); its address and what it holds are functions of the label -/
abbrev FE : Type := (Nat × Nat × ((Nat → Int32) ⊕ (Nat → Int64) ⊕ (Nat → Option Nat))) ⊕ (Nat × List Value)
abbrev FW : Type := (Nat → Nat → Nat) × (Nat → Nat → Option FE)
/-- classes and slots, the array classes, the first free address, FIRST_STATE's cell, ROUND_WORDS' cell, the text's cell -/
abbrev FG : Type := va_G × (Nat → ClassId) × Nat × Nat × Nat × Nat
abbrev aI (k n : Nat) (f : Nat → Int32) : FE := .inl (k, n, .inl f)
abbrev aL (n : Nat) (f : Nat → Int64) : FE := .inl (2, n, .inr (.inl f))
abbrev aR (k n : Nat) (f : Nat → Option Nat) : FE := .inl (k, n, .inr (.inr f))
abbrev oO (ci : Nat) (fs : List Value) : FE := .inr (ci, fs)
def fTy (k : Nat) : FieldType := match k with
  | 0 => .byte
  | 1 => .int
  | 2 => .long
  | 3 => .boolean
  | 4 => .object RX0
  | 5 => .object RX2
  | _ => .object RX3
def fcv (Γ : FG) (e : FE) : va_E := match e with
  | .inl (k, n, .inl f) => .inl (Γ.2.1 k, n, .inl f)
  | .inl (k, n, .inr (.inl f)) => .inl (Γ.2.1 k, n, .inr (.inl f))
  | .inl (k, n, .inr (.inr f)) => .inl (Γ.2.1 k, n, .inr (.inr (.inr (.inr f))))
  | .inr o => .inr o
def fA (Γ : FG) : Nat → Prop := fun q => Γ.2.2.1 ≤ q
def fE0 : FE := .inr (0, [])
def fL (Γ : FG) (w : FW) (L : List (Nat × Nat)) : va_W := L.map fun x => (w.1 x.1 x.2, fcv Γ ((w.2 x.1 x.2).getD fE0))
def fP (Γ : FG) (w : FW) (H : Heap) : Prop := ∃ L : List (Nat × Nat), (∀ k i, (k, i) ∈ L ↔ w.2 k i ≠ none) ∧ va_P Γ.1 vwCl (fL Γ w L) H ∧ va_D (fA Γ) (fL Γ w L)
def f2 {α : Type} (g : Nat → Nat → α) (k i : Nat) (v : α) : Nat → Nat → α := fun k' i' => if k' = k then (if i' = i then v else g k' i') else g k' i'
theorem f2_s {α : Type} {g : Nat → Nat → α} {k i : Nat} {v : α} : f2 g k i v k i = v := by simp [f2]
theorem f2_k {α : Type} {g : Nat → Nat → α} {k i k' i' : Nat} {v : α} (h : k' ≠ k) : f2 g k i v k' i' = g k' i' := by simp [f2, h]
theorem f2_i {α : Type} {g : Nat → Nat → α} {k i k' i' : Nat} {v : α} (h : i' ≠ i) : f2 g k i v k' i' = g k' i' := by simp [f2, h]
def fset (w : FW) (k i : Nat) (e : FE) : FW := (w.1, f2 w.2 k i (some e))
def fnew (w : FW) (k i : Nat) (e : FE) (q : Nat) : FW := (f2 w.1 k i q, f2 w.2 k i (some e))
theorem fL_at {Γ : FG} {w : FW} {L : List (Nat × Nat)} (hL : ∀ k i, (k, i) ∈ L ↔ w.2 k i ≠ none) {k i : Nat} {e : FE} (he : w.2 k i = some e) : ∃ q0 : Nat, L[q0]? = some (k, i) ∧ (fL Γ w L)[q0]? = some (w.1 k i, fcv Γ e) := by
  obtain ⟨q0, h⟩ := List.getElem?_of_mem ((hL k i).mpr (by rw [he]; exact fun h => by cases h))
  exact ⟨q0, h, by rw [fL, List.getElem?_map, h]; simp [he]⟩
theorem fL_set {Γ : FG} {w : FW} {L : List (Nat × Nat)} {A : Nat → Prop} (hD : va_D A (fL Γ w L)) {k i q0 : Nat} {e e' : FE} (he : w.2 k i = some e) (h0 : L[q0]? = some (k, i)) : (fL Γ w L).set q0 (w.1 k i, fcv Γ e') = fL Γ (fset w k i e') L := by
  have hq : (fL Γ w L)[q0]? = some (w.1 k i, fcv Γ e) := by rw [fL, List.getElem?_map, h0]; simp [he]
  have hl := (List.getElem?_eq_some_iff.mp hq).1
  apply List.ext_getElem?
  intro j
  by_cases hj : j = q0
  · subst hj
    rw [List.getElem?_set_self hl, fL, List.getElem?_map, h0]
    simp [fset, f2]
  · rw [List.getElem?_set_ne (Ne.symm hj), fL, fL, List.getElem?_map, List.getElem?_map]
    cases hx : L[j]? with
    | none => rfl
    | some x =>
      obtain ⟨a, b⟩ := x
      simp only [Option.map_some, fset]
      have hne : ¬ (a = k ∧ b = i) := by
        rintro ⟨rfl, rfl⟩
        exact hj (hD.1 j q0 (w.1 a b, fcv Γ e) (w.1 a b, fcv Γ e) (by rw [fL, List.getElem?_map, hx]; simp [he]) hq rfl)
      by_cases ha : a = k
      · have hb : b ≠ i := fun h => hne ⟨ha, h⟩
        rw [f2_i hb]
      · rw [f2_k ha]
theorem fset_mem {w : FW} {L : List (Nat × Nat)} (hL : ∀ k i, (k, i) ∈ L ↔ w.2 k i ≠ none) {k i : Nat} {e e' : FE} (he : w.2 k i = some e) : ∀ k' i', (k', i') ∈ L ↔ (fset w k i e').2 k' i' ≠ none := by
  intro k' i'
  rw [hL]
  show _ ↔ f2 w.2 k i (some e') k' i' ≠ none
  by_cases ha : k' = k
  · by_cases hb : i' = i
    · subst ha; subst hb
      rw [f2_s, he]
      simp
    · rw [f2_i hb]
  · rw [f2_k ha]
theorem fP_at {Γ : FG} {w : FW} {H : Heap} (h : fP Γ w H) {k i : Nat} {e : FE} (he : w.2 k i = some e) : va_at Γ.1 vwCl (w.1 k i, fcv Γ e) H := by
  obtain ⟨L, hL, hP, -⟩ := h
  obtain ⟨q0, -, h1⟩ := fL_at (Γ := Γ) hL he
  exact hP q0 _ h1
theorem fP_inj {Γ : FG} {w : FW} {H : Heap} (h : fP Γ w H) {k i k' i' : Nat} (h1 : w.2 k i ≠ none) (h2 : w.2 k' i' ≠ none) (ha : w.1 k i = w.1 k' i') : k = k' ∧ i = i' := by
  obtain ⟨L, hL, hP, hD⟩ := h
  obtain ⟨e, he⟩ := Option.ne_none_iff_exists'.mp h1
  obtain ⟨e', he'⟩ := Option.ne_none_iff_exists'.mp h2
  obtain ⟨q0, a1, a2⟩ := fL_at (Γ := Γ) hL he
  obtain ⟨q1, b1, b2⟩ := fL_at (Γ := Γ) hL he'
  have := hD.1 q0 q1 _ _ a2 b2 ha
  subst this
  have h3 := a1.symm.trans b1
  simp at h3
  exact h3
theorem fP_new {Γ : FG} {w : FW} {H1 : Heap} {L : List (Nat × Nat)} {q k i : Nat} {e : FE} (hL : ∀ k i, (k, i) ∈ L ↔ w.2 k i ≠ none) (hn : w.2 k i = none) (hP : va_P Γ.1 vwCl (fL Γ w L ++ [(q, fcv Γ e)]) H1) (hD : va_D (fA Γ) (fL Γ w L ++ [(q, fcv Γ e)])) : fP Γ (fnew w k i e q) H1 := by
  have hnL : (k, i) ∉ L := fun h => (hL k i).mp h hn
  have key : fL Γ (fnew w k i e q) (L ++ [(k, i)]) = fL Γ w L ++ [(q, fcv Γ e)] := by
    rw [fL, fL, List.map_append]
    congr 1
    · apply List.map_congr_left
      rintro ⟨a, b⟩ hx
      have hne : ¬ (a = k ∧ b = i) := by
        rintro ⟨rfl, rfl⟩
        exact hnL hx
      simp only [fnew]
      by_cases ha : a = k
      · have hb : b ≠ i := fun h => hne ⟨ha, h⟩
        rw [f2_i hb, f2_i hb]
      · rw [f2_k ha, f2_k ha]
    · simp [fnew, f2]
  refine ⟨L ++ [(k, i)], fun k' i' => ?_, by rw [key]; exact hP, by rw [key]; exact hD⟩
  rw [List.mem_append, hL, List.mem_singleton]
  show _ ↔ f2 w.2 k i (some e) k' i' ≠ none
  by_cases ha : k' = k
  · by_cases hb : i' = i
    · subst ha; subst hb
      rw [f2_s]
      simp
    · rw [f2_i hb]
      simp [ha, hb]
  · rw [f2_k ha]
    simp [ha]
def fNest : List (Nat × String × String × String) := [(185, RX1, "state", "[I"), (102, RX3, "maker", "I"), (79, RX3, "bytes", "[B"), (76, RX3, "byteCount", "I"), (188, RX3, "digestWords", "[I"), (83, RX3, "digestStale", "Z"), (161, RX3, "comments", "[B"), (158, RX3, "commentCount", "I"), (155, RX3, "needed", "[I"), (152, RX3, "neededCount", "I"), (167, RX2, "thing", "LSignRows$Thing;"), (171, RX2, "meaning", "I"), (123, RX2, "digestWords", "[I"), (142, RX2, "isWithdrawn", "Z")]
def fTys (Γ : FG) : List (ClassId × FieldType) := (List.range 7).map fun k => (Γ.2.1 k, fTy k)
abbrev fISE : String := "java/lang/IllegalStateException"
abbrev fTxt : String := "the person does not hold the role at that second"
/-- what a throw needs of the tables that no list of good words holds -/
def fKx (U : State) : Prop := va_Nw (.castable fISE fISE) U ∧ va_Nw (.declares (Bundle.initS "java/lang/RuntimeException")) U ∧ va_Nw (.declares (Bundle.initS "java/lang/Exception")) U ∧ va_Nw (.declares (Bundle.initS Bundle.tN)) U
def fK (Γ : FG) (U : State) : Prop := va_K Γ.1 vwCl (fTys Γ) U ∧ (∀ q ∈ fNest, va_Nw (.fieldLinkNest RX4 q.1 q.2.1 q.2.2.1 q.2.2.2 RX4) U) ∧ va_Nw (.methodLinkNest RX1 21 yX4_copyWords RX4) U ∧ (va_AO RX0 U ∧ va_AO RX2 U ∧ va_AO RX3 U) ∧ fKx U ∧ vk_R RX4 97 fTxt Γ.2.2.2.2.2 U
def shHl : List Int32 := [1779033703, (-1150833019), 1013904242, (-1521486534), 1359893119, (-1694144372), 528734635, 1541459225]
def shKl : List Int32 := [1116352408, 1899447441, (-1245643825), (-373957723), 961987163, 1508970993, (-1841331548), (-1424204075), (-670586216), 310598401, 607225278, 1426881987, 1925078388, (-2132889090), (-1680079193), (-1046744716), (-459576895), (-272742522), 264347078, 604807628, 770255983, 1249150122, 1555081692, 1996064986, (-1740746414), (-1473132947), (-1341970488), (-1084653625), (-958395405), (-710438585), 113926993, 338241895, 666307205, 773529912, 1294757372, 1396182291, 1695183700, 1986661051, (-2117940946), (-1838011259), (-1564481375), (-1474664885), (-1035236496), (-949202525), (-778901479), (-694614492), (-200395387), 275423344, 430227734, 506948616, 659060556, 883997877, 958139571, 1322822218, 1537002063, 1747873779, 1955562222, 2024104815, (-2067236844), (-1933114872), (-1866530822), (-1538233109), (-1090935817), (-965641998)]
def shH (j : Nat) : Int32 := shHl.getD j 0
def shK (j : Nat) : Int32 := shKl.getD j 0
def fT (Γ : FG) (U : State) (H : Heap) : Prop :=
  (va_Z RX1 "FIRST_STATE" "[I" (.ref Γ.2.2.2.1) (fA Γ) U H ∧ va_T .int Γ.2.2.2.1 8 (fun j => .int (shH j)) (fA Γ) U H) ∧
  (va_Z RX1 "ROUND_WORDS" "[I" (.ref Γ.2.2.2.2.1) (fA Γ) U H ∧ va_T .int Γ.2.2.2.2.1 64 (fun j => .int (shK j)) (fA Γ) U H) ∧
  vx_Zq Bundle.tN "UNASSIGNED_STACK" Bundle.steD (fA Γ) U H ∧ vx_Zq Bundle.tN "SUPPRESSED_SENTINEL" Bundle.listD (fA Γ) U H
/-- what every method of this claim finds at its start, and leaves at its end -/
def fI (Γ : FG) (w : FW) (U : State) : Prop := fP Γ w U.heap ∧ fK Γ U ∧ fT Γ U U.heap ∧ Γ.2.2.1 ≤ U.heap.size
theorem fK_warm {Γ : FG} {s U : State} (hW : s.WarmedH U.vm) (h : fK Γ s) : fK Γ U :=
  ⟨va_K.moved hW.alike h.1, fun q hq => va_Nw.warmF hW (h.2.1 q hq), va_Nw.warmM hW h.2.2.1, ⟨va_AO.moved hW.alike h.2.2.2.1.1, va_AO.moved hW.alike h.2.2.2.1.2.1, va_AO.moved hW.alike h.2.2.2.1.2.2⟩, ⟨va_Nw.warmC hW h.2.2.2.2.1.1, va_Nw.warmD hW h.2.2.2.2.1.2.1, va_Nw.warmD hW h.2.2.2.2.1.2.2.1, va_Nw.warmD hW h.2.2.2.2.1.2.2.2⟩, vk_R.warm hW h.2.2.2.2.2⟩
theorem fK_same {Γ : FG} {u U : State} (hv : u.vm = U.vm) (h : fK Γ u) : fK Γ U := by
  have hA : u.vm.Alike U.vm := by rw [hv]; exact Vm.Alike.refl _
  exact ⟨va_K.moved hA h.1, fun q hq => va_Nw.same rfl hv (h.2.1 q hq), va_Nw.same rfl hv h.2.2.1, ⟨va_AO.moved hA h.2.2.2.1.1, va_AO.moved hA h.2.2.2.1.2.1, va_AO.moved hA h.2.2.2.1.2.2⟩, ⟨va_Nw.same rfl hv h.2.2.2.2.1.1, va_Nw.same rfl hv h.2.2.2.2.1.2.1, va_Nw.same rfl hv h.2.2.2.2.1.2.2.1, va_Nw.same rfl hv h.2.2.2.2.1.2.2.2⟩, vk_R.same hv.symm h.2.2.2.2.2⟩
theorem fT_moved {Γ : FG} {u U : State} {H : Heap} (hA : u.vm.Alike U.vm) (h : fT Γ u H) : fT Γ U H :=
  ⟨⟨va_Z.moved hA h.1.1, va_T.moved hA h.1.2⟩, ⟨va_Z.moved hA h.2.1.1, va_T.moved hA h.2.1.2⟩, vx_Zq.moved hA h.2.2.1, vx_Zq.moved hA h.2.2.2⟩
theorem fT_kept {Γ : FG} {U : State} {H H1 : Heap} (h : fT Γ U H) (hq : ∀ a : Nat, a < H.size → ¬ fA Γ a → H1[a]? = H[a]?) : fT Γ U H1 :=
  ⟨⟨h.1.1.kept hq, h.1.2.kept hq⟩, ⟨h.2.1.1.kept hq, h.2.1.2.kept hq⟩, h.2.2.1.kept hq, h.2.2.2.kept hq⟩
theorem fI_at {Γ : FG} {w : FW} {s U : State} {H : Heap} {locs : List Loc} (hK : fK Γ s) (hT : fT Γ s s.heap) (hB : Γ.2.2.1 ≤ s.heap.size) (hS : va_S (fA Γ) s.heap H locs) (hP : fP Γ w H) (hU : U.heap = H) (hW : s.WarmedH U.vm) : fI Γ w U :=
  ⟨by rw [hU]; exact hP, fK_warm hW hK, by rw [hU]; exact fT_moved hW.alike (fT_kept hT hS.2.1), by rw [hU]; exact Nat.le_trans hB hS.1⟩
theorem fI_blind {Γ : FG} {w : FW} {av : List Value} : FrameBlind (va_Pc av (fI Γ w)) := fun a U g mk h =>
  ⟨h.1, h.2.1, fK_same (u := U) (U := U.calling g mk a) rfl h.2.2.1, fT_moved (u := U) (U := U.calling g mk a) (Vm.Alike.refl U.vm) h.2.2.2.1, h.2.2.2.2⟩
/-- a method's own machine: its code, its words, what the start has of the tables -/
def fC (p : Program) (s : State) (m : MethodId) (args : Array Value) (c : Code) (cc : ByteArray) (nL : Nat) (own : String) (Γ : FG) : Prop :=
  CallFix p m c cc nL s args lw_all own ∧ fK Γ s ∧ fT Γ s s.heap ∧ Γ.2.2.1 ≤ s.heap.size
abbrev rmD (d mc ms : Nat) : Room := { frames := d, cells := mc, slots := ms, locals := 40 * d }
theorem fw_met {l : Launch} {Γ : FG} {w : FW} {y : MethodName} {cc : ByteArray} {maxL : Nat} {ret : Option FieldType} {rm : Room} {av : List Value} {Qc : Array Value → State → Outcome → State → Prop} {mc ms : Nat} (hy : plainName y.cls = true) (hlen : (lg_sl av).length ≤ maxL)
    (body : ∀ (p : Program) (e : Env) (s : State) (m : MethodId) (below : List Frame) (meth : Method) (c : Code) (ls : Array Slot), fC p s m av.toArray c cc maxL y.cls Γ → fP Γ w s.heap → va_S (fA Γ) s.heap s.heap [] → meth.sig.returnType = ret → meth.locks = false → (meth.name = y.name) → lv_has ls maxL (lv_args 0 av) →
      W p l e rm s m av.toArray below meth c s.heap [] 0 0 (MQ below Qc av.toArray s mc ms (fA Γ)) (F0 m 0 ls [])) :
    Met l y (ws_ y cc maxL ret) rm (va_Pc av (fI Γ w)) Qc mc ms (fA Γ) := by
  refine Met.ofW (cc := cc) (maxL := maxL) (ret := ret) hy rfl ?_
  intro p e s m args below meth c s₁ B hml hv
  obtain ⟨rfl, hI⟩ := hv
  have hts0 := atoms_spec (ws := ws_ y cc maxL ret) B.pre
  have hts : ∀ w ∈ lw_all, w.before av.toArray s = true := fun w h => hts0 w (List.mem_cons_of_mem _ h)
  have hown : s.vm.findClass y.cls = some m.cls := findClass_of_methodNamed B.named
  have hl := lv_entry av (n := maxL) hlen
  rw [lg_entry_eq]
  exact body p e s m below meth c _ ⟨⟨B.exec, B.bytes, hml, hown, hts⟩, hI.2.1, hI.2.2.1, hI.2.2.2⟩ hI.1 va_S.rf B.returns B.notSynchronized (name_of_methodNamed B.named B.method).1 hl
section FWR
variable {p : Program} {l : Launch} {e : Env} {R : Room} {s : State} {m : MethodId} {args : Array Value} {below : List Frame} {meth : Method} {c : Code} {H : Heap} {locs : List Loc} {cells slots : Nat} {Q : State → Prop}
variable {cc : ByteArray} {nL pc : Nat} {ls : Array Slot} {rest : List Value} {own : String} {Γ : FG} {w : FW} {k i a : Nat}
theorem fw_get (C : fC p s m args c cc nL own Γ) (hP : fP Γ w H) {ref Cn : String} {T : u_T} {N ci index : Nat} (hin : ∀ w ∈ u_ws Cn T N, w ∈ lw_all) (hc : vwCl[ci]? = some (Cn, T, N)) (j : Nat) (hj : j < N) (hlink : Cond.fieldLink own index ref (T j).2.1 (T j).2.2.1 ∈ lw_all) (hsame : ref = (T j).1) {fs : List Value} (he : w.2 k i = some (oO ci fs)) (ha : w.1 k i = a) {v : Value} (hv : fs[j]? = some v) (hdg : decode cc pc = .ok (.getfield index, 3))
    (kk : W p l e R s m args below meth c H locs cells slots Q (F0 m (pc + 3) ls (v :: rest))) : W p l e R s m args below meth c H locs cells slots Q (F0 m pc ls (.ref a :: rest)) := by
  obtain ⟨L, hL, hPw, -⟩ := hP
  obtain ⟨q0, -, h1⟩ := fL_at (Γ := Γ) hL he
  subst ha
  subst hsame
  exact va_get C.1.1 C.1.2.1 C.1.2.2.2.2 hin C.1.2.2.2.1 C.2.1.1 hPw q0 h1 hc j hj (C.1.2.2.2.2 _ hlink) (fun _ h => h) hv hdg kk
theorem fw_getN (C : fC p s m args c cc nL own Γ) (hP : fP Γ w H) {ref Cn host : String} {T : u_T} {N ci index : Nat} (hin : ∀ w ∈ u_ws Cn T N, w ∈ lw_all) (hc : vwCl[ci]? = some (Cn, T, N)) (j : Nat) (hj : j < N) (hlink : va_Nw (.fieldLinkNest own index ref (T j).2.1 (T j).2.2.1 host) s) (hsame : ref = (T j).1) {fs : List Value} (he : w.2 k i = some (oO ci fs)) (ha : w.1 k i = a) {v : Value} (hv : fs[j]? = some v) (hdg : decode cc pc = .ok (.getfield index, 3))
    (kk : W p l e R s m args below meth c H locs cells slots Q (F0 m (pc + 3) ls (v :: rest))) : W p l e R s m args below meth c H locs cells slots Q (F0 m pc ls (.ref a :: rest)) := by
  obtain ⟨L, hL, hPw, -⟩ := hP
  obtain ⟨q0, -, h1⟩ := fL_at (Γ := Γ) hL he
  subst ha
  subst hsame
  exact va_getN C.1.1 C.1.2.1 C.1.2.2.2.2 hin C.1.2.2.2.1 C.2.1.1 hPw q0 h1 hc j hj (va_Nw.use rfl hlink) (fun _ h => h) hv hdg kk
theorem fw_put (C : fC p s m args c cc nL own Γ) (hP : fP Γ w H) (hS : va_S (fA Γ) s.heap H locs) {ref Cn : String} {T : u_T} {N ci index : Nat} (hin : ∀ w ∈ u_ws Cn T N, w ∈ lw_all) (ty0 : Nat → FieldType) (hty : ∀ k, k < N → parseFieldDescriptor (T k).2.2.1 = some (ty0 k)) (hnm : ∀ a, a < N → ∀ b, b < N → a ≠ b → (T a).2.1 ≠ (T b).2.1) (hc : vwCl[ci]? = some (Cn, T, N)) (j : Nat) (hj : j < N) (hlink : Cond.fieldLink own index ref (T j).2.1 (T j).2.2.1 ∈ lw_all) (hsame : ref = (T j).1) (hfin : (T j).2.2.2 = false) {v : Value} (hn : narrow (ty0 j) v = v) (hfit : fits (ty0 j) v = true) {fs : List Value} (he : w.2 k i = some (oO ci fs)) (ha : w.1 k i = a) (hl : j < fs.length)
    (hdg : decode cc pc = .ok (.putfield index, 3)) (kk : ∀ (H1 : Heap) (locs1 : List Loc), fP Γ (fset w k i (oO ci (fs.set j v))) H1 → va_S (fA Γ) s.heap H1 locs1 → W p l e R s m args below meth c H1 locs1 cells slots Q (F0 m (pc + 3) ls rest)) : W p l e R s m args below meth c H locs cells slots Q (F0 m pc ls (v :: .ref a :: rest)) := by
  obtain ⟨L, hL, hPw, hD⟩ := hP
  obtain ⟨q0, h0, h1⟩ := fL_at (Γ := Γ) hL he
  subst ha
  subst hsame
  refine va_put C.1.1 C.1.2.1 C.1.2.2.2.2 hin ty0 hty hnm C.1.2.2.2.1 C.2.1.1 hPw hD hS q0 h1 hc j hj (C.1.2.2.2.2 _ hlink) (fun _ h => h) hfin (hty j hj) hn hfit hl hdg (fun H1 locs1 g1 g2 g3 => kk H1 locs1 ⟨L, fset_mem hL he, ?_, ?_⟩ g3)
  · have := fL_set (e' := oO ci (fs.set j v)) hD he h0
    rw [← this]; exact g1
  · have := fL_set (e' := oO ci (fs.set j v)) hD he h0
    rw [← this]; exact g2
theorem fw_putN (C : fC p s m args c cc nL own Γ) (hP : fP Γ w H) (hS : va_S (fA Γ) s.heap H locs) {ref Cn host : String} {T : u_T} {N ci index : Nat} (hin : ∀ w ∈ u_ws Cn T N, w ∈ lw_all) (ty0 : Nat → FieldType) (hty : ∀ k, k < N → parseFieldDescriptor (T k).2.2.1 = some (ty0 k)) (hnm : ∀ a, a < N → ∀ b, b < N → a ≠ b → (T a).2.1 ≠ (T b).2.1) (hc : vwCl[ci]? = some (Cn, T, N)) (j : Nat) (hj : j < N) (hlink : va_Nw (.fieldLinkNest own index ref (T j).2.1 (T j).2.2.1 host) s) (hsame : ref = (T j).1) (hfin : (T j).2.2.2 = false) {v : Value} (hn : narrow (ty0 j) v = v) (hfit : fits (ty0 j) v = true) {fs : List Value} (he : w.2 k i = some (oO ci fs)) (ha : w.1 k i = a) (hl : j < fs.length)
    (hdg : decode cc pc = .ok (.putfield index, 3)) (kk : ∀ (H1 : Heap) (locs1 : List Loc), fP Γ (fset w k i (oO ci (fs.set j v))) H1 → va_S (fA Γ) s.heap H1 locs1 → W p l e R s m args below meth c H1 locs1 cells slots Q (F0 m (pc + 3) ls rest)) : W p l e R s m args below meth c H locs cells slots Q (F0 m pc ls (v :: .ref a :: rest)) := by
  obtain ⟨L, hL, hPw, hD⟩ := hP
  obtain ⟨q0, h0, h1⟩ := fL_at (Γ := Γ) hL he
  subst ha
  subst hsame
  refine va_putN C.1.1 C.1.2.1 C.1.2.2.2.2 hin ty0 hty hnm C.1.2.2.2.1 C.2.1.1 hPw hD hS q0 h1 hc j hj (va_Nw.use rfl hlink) (fun _ h => h) hfin (hty j hj) hn hfit hl hdg (fun H1 locs1 g1 g2 g3 => kk H1 locs1 ⟨L, fset_mem hL he, ?_, ?_⟩ g3)
  · have := fL_set (e' := oO ci (fs.set j v)) hD he h0
    rw [← this]; exact g1
  · have := fL_set (e' := oO ci (fs.set j v)) hD he h0
    rw [← this]; exact g2
theorem fw_putF (C : fC p s m args c cc nL own Γ) (hP : fP Γ w H) (hS : va_S (fA Γ) s.heap H locs) (hin2 : meth.name = "<init>") {ref Cn : String} {T : u_T} {N ci index : Nat} (hin : ∀ w ∈ u_ws Cn T N, w ∈ lw_all) (ty0 : Nat → FieldType) (hty : ∀ k, k < N → parseFieldDescriptor (T k).2.2.1 = some (ty0 k)) (hnm : ∀ a, a < N → ∀ b, b < N → a ≠ b → (T a).2.1 ≠ (T b).2.1) (hc : vwCl[ci]? = some (Cn, T, N)) (j : Nat) (hj : j < N) (hlink : Cond.fieldLink own index ref (T j).2.1 (T j).2.2.1 ∈ lw_all) (hsame : ref = (T j).1) (hfin : (T j).2.2.2 = true) (hdecl : (T j).1 = own) {v : Value} (hn : narrow (ty0 j) v = v) (hfit : fits (ty0 j) v = true) {fs : List Value} (he : w.2 k i = some (oO ci fs)) (ha : w.1 k i = a) (hl : j < fs.length)
    (hdg : decode cc pc = .ok (.putfield index, 3)) (kk : ∀ (H1 : Heap) (locs1 : List Loc), fP Γ (fset w k i (oO ci (fs.set j v))) H1 → va_S (fA Γ) s.heap H1 locs1 → W p l e R s m args below meth c H1 locs1 cells slots Q (F0 m (pc + 3) ls rest)) : W p l e R s m args below meth c H locs cells slots Q (F0 m pc ls (v :: .ref a :: rest)) := by
  obtain ⟨L, hL, hPw, hD⟩ := hP
  obtain ⟨q0, h0, h1⟩ := fL_at (Γ := Γ) hL he
  subst ha
  subst hsame
  refine va_putF C.1.1 C.1.2.1 C.1.2.2.2.2 hin ty0 hty hnm C.1.2.2.2.1 C.2.1.1 hPw hD hS q0 h1 hc j hj (C.1.2.2.2.2 _ hlink) (fun _ h => h) hfin hin2 hdecl (hty j hj) hn hfit hl hdg (fun H1 locs1 g1 g2 g3 => kk H1 locs1 ⟨L, fset_mem hL he, ?_, ?_⟩ g3)
  · have := fL_set (e' := oO ci (fs.set j v)) hD he h0
    rw [← this]; exact g1
  · have := fL_set (e' := oO ci (fs.set j v)) hD he h0
    rw [← this]; exact g2
theorem fTys_at {Γ : FG} {k : Nat} (h : k < 7) : (fTys Γ)[k]? = some (Γ.2.1 k, fTy k) := by
  rw [fTys, List.getElem?_map, List.getElem?_range h]
  rfl
theorem fw_nI {j n : Nat} (h : j < n) (hn : n < 2 ^ 31) : vp_in (nI j) n := vp_in_nI h hn
theorem fw_cl {j n : Nat} (h : j < n) (hn : n < 2 ^ 31) : (nI j).toNatClampNeg = j := nI_clamp (Nat.lt_trans h hn)
end FWR
