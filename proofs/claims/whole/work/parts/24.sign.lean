/-- what a call that throws leaves -/
def fXc (Γ : FG) (px : FW → Prop) : String → State → State → Prop := vx_X px (fun E w1 U => E = fISE ∧ fP Γ w1 U.heap) (fA Γ)
abbrev fNms : List String := ["java/lang/RuntimeException", "java/lang/Exception"]
theorem lw_ise : ∀ w ∈ (vx_atS RX4 99 fISE fNms).filter goodWord, w ∈ lw_all := by
  intro w hw
  have h : ∀ w ∈ (vx_atS RX4 99 fISE fNms).filter goodWord, w ∈ lw_tbl := by decide +kernel
  exact List.mem_filter.mpr ⟨h w hw, (List.mem_filter.mp hw).2⟩
theorem lw_iseB : ∀ w ∈ (vx_atS RX4 99 fISE fNms).filter (fun w => !goodWord w), w ∈ [Cond.castable fISE fISE, .declares (Bundle.initS "java/lang/RuntimeException"), .declares (Bundle.initS "java/lang/Exception"), .declares (Bundle.initS Bundle.tN)] := by decide +kernel
theorem lw_iseG : ∀ w ∈ Cond.classLink RX4 95 fISE :: Cond.initialized fISE :: vx_atS RX4 99 fISE fNms, vx_ot w = true := by decide +kernel
theorem fP_ext {Γ : FG} {w : FW} {H H1 : Heap} (h : fP Γ w H) (hq : ∀ q : Nat, q < H.size → H1[q]? = H[q]?) : fP Γ w H1 := by
  obtain ⟨L, hL, hP, hD⟩ := h
  exact ⟨L, hL, hP.kept (fun k q hk => hq _ ((hP k q hk).lt)), hD⟩
theorem fw_metX {l : Launch} {Γ : FG} {w : FW} {y : MethodName} {cc : ByteArray} {maxL : Nat} {ret : Option FieldType} {rm : Room} {av : List Value} {Qc : Array Value → State → Outcome → State → Prop} {XC : String → State → State → Prop} {mc ms : Nat} (hy : plainName y.cls = true) (hlen : (lg_sl av).length ≤ maxL)
    (body : ∀ (p : Program) (e : Env) (s : State) (m : MethodId) (below : List Frame) (meth : Method) (c : Code) (ls : Array Slot), (∀ x ∈ c.exceptionTable.toList, False) → c.maxLocals = maxL → fC p s m av.toArray c cc maxL y.cls Γ → fP Γ w s.heap → va_S (fA Γ) s.heap s.heap [] → meth.sig.returnType = ret → meth.locks = false → (meth.name = y.name) → lv_has ls maxL (lv_args 0 av) →
      W p l e rm s m av.toArray below meth c s.heap [] 0 0 (vx_MQ below Qc XC av.toArray s mc ms (fA Γ)) (F0 m 0 ls [])) :
    vx_Met l y (ws_ y cc maxL ret) rm (va_Pc av (fI Γ w)) Qc XC mc ms (fA Γ) := by
  refine vx_ofW (cc := cc) (maxL := maxL) (ret := ret) hy rfl ?_
  intro p e s m args below meth c s₁ B hml hno hv
  obtain ⟨rfl, hI⟩ := hv
  have hts0 := atoms_spec (ws := ws_ y cc maxL ret) B.pre
  have hts : ∀ w ∈ lw_all, w.before av.toArray s = true := fun w h => hts0 w (List.mem_cons_of_mem _ h)
  have hown : s.vm.findClass y.cls = some m.cls := findClass_of_methodNamed B.named
  have hl := lv_entry av (n := maxL) hlen
  rw [lg_entry_eq]
  exact body p e s m below meth c _ hno hml ⟨⟨B.exec, B.bytes, hml, hown, hts⟩, hI.2.1, hI.2.2.1, hI.2.2.2⟩ hI.1 va_S.rf B.returns B.notSynchronized (name_of_methodNamed B.named B.method).1 hl
theorem fw_throw {p : Program} {l : Launch} {e : Env} {s : State} {m : MethodId} {args : Array Value} {below : List Frame} {meth : Method} {c : Code} {H : Heap} {locs : List Loc} {Γ : FG} {w : FW} {cc : ByteArray} {nL pc cells slots mc ms d : Nat} {ls : Array Slot} {lv : List (Nat × Value)} {Qc : Array Value → State → Outcome → State → Prop} {px : FW → Prop} (C : fC p s m args c cc nL RX4 Γ) (hl9 : l.stackTraces = false) (hno : ∀ x ∈ c.exceptionTable.toList, False) (hml : c.maxLocals = nL) (hP : fP Γ w H) (hS : va_S (fA Γ) s.heap H locs) (hl : lv_has ls nL lv) (hlk : meth.locks = false) (hd : 5 < d) (hc : cells + 1 ≤ mc) (hs : slots + 6 ≤ ms)
    (d0 : decode cc pc = .ok (.new 95, 3)) (d3 : decode cc (pc + 3) = .ok (.dup, 1)) (d4 : decode cc (pc + 4) = .ok (.ldc 97, 2)) (d6 : decode cc (pc + 6) = .ok (.invokespecial 99, 3)) (d9 : decode cc (pc + 9) = .ok (.athrow, 1)) (hp : px w) :
    W p l e (rmD d mc ms) s m args below meth c H locs cells slots (vx_MQ below Qc (fXc Γ px) args s mc ms (fA Γ)) (F0 m pc ls []) := by
  refine vx_throwS (names := fNms) (cls := fISE) (own := RX4) (text := fTxt) (ik := 95) (is := 97) (ic := 99) (sa := Γ.2.2.2.2.2) (A := fA Γ) C.1.1 C.1.2.1 hl9 C.1.2.2.2.1 (by decide) (by decide) (C.1.2.2.2.2 _ ql_X4_95) (C.1.2.2.2.2 _ qn_ise) C.2.1.2.2.2.2.2 ?_ lw_iseG C.2.2.1.2.2.1 C.2.2.1.2.2.2 hS (hl.1.trans hml.symm) d0 d3 d4 d6 d9 (fun x hx => (hno x hx).elim) ?_ ?_ hc hs hlk ?_ hS.2.2 hc hs
  · exact vx_hat (fun w hw => C.1.2.2.2.2 _ (lw_ise w hw)) lw_iseB (vx_c (va_Nw.use rfl C.2.1.2.2.2.2.1.1) (vx_c (va_Nw.use rfl C.2.1.2.2.2.2.1.2.1) (vx_c (va_Nw.use rfl C.2.1.2.2.2.2.1.2.2.1) (vx_c (va_Nw.use rfl C.2.1.2.2.2.2.1.2.2.2) vx_n))))
  · show 2 + 3 < d
    omega
  · show 0 + (13 * (2 + 1) + 43) ≤ 40 * d
    omega
  · intro t hA hz hq
    exact ⟨w, hp, ⟨rfl, fP_ext hP hq⟩, Nat.le_trans hS.1 hz, fun q h1 h2 => (hq q (Nat.lt_of_lt_of_le h1 hS.1)).trans (hS.2.1 q h1 h2)⟩
theorem sg_1 {σ : St} {t a b : Int32} {x : Int64} (h : fIn t (s_nt σ) = false ∨ fIn a (s_np σ) = false ∨ fIn b 10 = false) : a_sign σ t a b x = some (-1) ∧ n_sign σ t a b x = σ := by
  have h1 : (fIn t (s_nt σ) && fIn a (s_np σ) && fIn b 10) = false := by
    rcases h with h | h | h
    · rw [h]; rfl
    · rw [h, Bool.and_false]; rfl
    · rw [h, Bool.and_false]
  have h2 : k_sign σ t a b x = false := by unfold k_sign; rw [h1]; rfl
  constructor
  · unfold a_sign; rw [h1]; rfl
  · unfold n_sign; rw [h2]; rfl
theorem sg_2 {σ : St} {t a b : Nat} {x : Int64} (h1 : fIn (nI t) (s_nt σ) = true) (h2 : fIn (nI a) (s_np σ) = true) (h3 : fIn (nI b) 10 = true) (h4 : (isSec x && decide (s_ck σ ≤ x)) = false) : a_sign σ (nI t) (nI a) (nI b) x = some (-3) ∧ n_sign σ (nI t) (nI a) (nI b) x = σ := by
  have hk : k_sign σ (nI t) (nI a) (nI b) x = false := by
    unfold k_sign
    rw [Bool.and_assoc (fIn (nI t) (s_nt σ) && fIn (nI a) (s_np σ) && fIn (nI b) 10) (isSec x), h4, Bool.and_false]
    rfl
  constructor
  · unfold a_sign; rw [h1, h2, h3, h4]; rfl
  · unfold n_sign; rw [hk]; rfl
theorem sg_3 {σ : St} {t a b : Nat} {x : Int64} (h1 : fIn (nI t) (s_nt σ) = true) (h2 : fIn (nI a) (s_np σ) = true) (h3 : fIn (nI b) 10 = true) (ht : t < 2 ^ 31) (ha : a < 2 ^ 31) (hb : b < 2 ^ 31) (h4 : (isSec x && decide (s_ck σ ≤ x)) = true) (h5 : s_rl σ a b x (s_nr σ) = false) : a_sign σ (nI t) (nI a) (nI b) x = none ∧ n_sign σ (nI t) (nI a) (nI b) x = σ := by
  have hk : k_sign σ (nI t) (nI a) (nI b) x = false := by
    unfold k_sign
    rw [n_of_nI ht, n_of_nI ha, n_of_nI hb, h5, Bool.and_false]
    rfl
  constructor
  · unfold a_sign; rw [n_of_nI ht, n_of_nI ha, n_of_nI hb, h1, h2, h3, h4, h5]; rfl
  · unfold n_sign; rw [hk]; rfl
theorem sg_4 {σ : St} {t a b : Nat} {x : Int64} (h1 : fIn (nI t) (s_nt σ) = true) (h2 : fIn (nI a) (s_np σ) = true) (h3 : fIn (nI b) 10 = true) (ht : t < 2 ^ 31) (ha : a < 2 ^ 31) (hb : b < 2 ^ 31) (h4 : (isSec x && decide (s_ck σ ≤ x)) = true) (h5 : s_rl σ a b x (s_nr σ) = true) (h6 : s_mk σ t = a) : a_sign σ (nI t) (nI a) (nI b) x = some (-4) ∧ n_sign σ (nI t) (nI a) (nI b) x = σ := by
  have hk : k_sign σ (nI t) (nI a) (nI b) x = false := by
    unfold k_sign
    rw [n_of_nI ht, n_of_nI ha, n_of_nI hb, show decide (s_mk σ t ≠ a) = false from decide_eq_false (fun q => q h6), Bool.and_false]
    rfl
  constructor
  · unfold a_sign; rw [n_of_nI ht, n_of_nI ha, n_of_nI hb, h1, h2, h3, h4, h5, if_pos h6]; rfl
  · unfold n_sign; rw [hk]; rfl
theorem sg_5 {σ : St} {t a b : Nat} {x : Int64} (h1 : fIn (nI t) (s_nt σ) = true) (h2 : fIn (nI a) (s_np σ) = true) (h3 : fIn (nI b) 10 = true) (ht : t < 2 ^ 31) (ha : a < 2 ^ 31) (hb : b < 2 ^ 31) (h4 : (isSec x && decide (s_ck σ ≤ x)) = true) (h5 : s_rl σ a b x (s_nr σ) = true) (h6 : s_mk σ t ≠ a) (h7 : s_ob σ t b 10 = true) : a_sign σ (nI t) (nI a) (nI b) x = some (-5) ∧ n_sign σ (nI t) (nI a) (nI b) x = σ := by
  have hk : k_sign σ (nI t) (nI a) (nI b) x = false := by
    unfold k_sign
    rw [n_of_nI ht, n_of_nI ha, n_of_nI hb, h7, show (!true) = false from rfl, Bool.and_false]
    rfl
  constructor
  · unfold a_sign; rw [n_of_nI ht, n_of_nI ha, n_of_nI hb, h1, h2, h3, h4, h5, if_neg h6, h7]; rfl
  · unfold n_sign; rw [hk]; rfl
theorem sg_6 {σ : St} {t a b : Nat} {x : Int64} (h1 : fIn (nI t) (s_nt σ) = true) (h2 : fIn (nI a) (s_np σ) = true) (h3 : fIn (nI b) 10 = true) (ht : t < 2 ^ 31) (ha : a < 2 ^ 31) (hb : b < 2 ^ 31) (h4 : (isSec x && decide (s_ck σ ≤ x)) = true) (h5 : s_rl σ a b x (s_nr σ) = true) (h6 : s_mk σ t ≠ a) (h7 : s_ob σ t b 10 = false) (h8 : s_hs σ t b (some a) (s_ns σ) = true) : a_sign σ (nI t) (nI a) (nI b) x = some (-6) ∧ n_sign σ (nI t) (nI a) (nI b) x = σ := by
  have hk : k_sign σ (nI t) (nI a) (nI b) x = false := by
    unfold k_sign
    rw [n_of_nI ht, n_of_nI ha, n_of_nI hb, h8, show (!true) = false from rfl, Bool.and_false]
    rfl
  constructor
  · unfold a_sign; rw [n_of_nI ht, n_of_nI ha, n_of_nI hb, h1, h2, h3, h4, h5, if_neg h6, h7, h8]; rfl
  · unfold n_sign; rw [hk]; rfl
theorem sg_7 {σ : St} {t a b : Nat} {x : Int64} (h1 : fIn (nI t) (s_nt σ) = true) (h2 : fIn (nI a) (s_np σ) = true) (h3 : fIn (nI b) 10 = true) (ht : t < 2 ^ 31) (ha : a < 2 ^ 31) (hb : b < 2 ^ 31) (h4 : (isSec x && decide (s_ck σ ≤ x)) = true) (h5 : s_rl σ a b x (s_nr σ) = true) (h6 : s_mk σ t ≠ a) (h7 : s_ob σ t b 10 = false) (h8 : s_hs σ t b (some a) (s_ns σ) = false) (h9 : s_ns σ = 400) : a_sign σ (nI t) (nI a) (nI b) x = some (-2) ∧ n_sign σ (nI t) (nI a) (nI b) x = σ := by
  have hk : k_sign σ (nI t) (nI a) (nI b) x = false := by
    unfold k_sign
    rw [show decide (s_ns σ ≠ 400) = false from decide_eq_false (fun q => q h9), Bool.and_false]
  constructor
  · unfold a_sign; rw [n_of_nI ht, n_of_nI ha, n_of_nI hb, h1, h2, h3, h4, h5, if_neg h6, h7, h8, if_pos h9]; rfl
  · unfold n_sign; rw [hk]; rfl
theorem sg_8 {σ : St} {t a b : Nat} {x : Int64} (h1 : fIn (nI t) (s_nt σ) = true) (h2 : fIn (nI a) (s_np σ) = true) (h3 : fIn (nI b) 10 = true) (ht : t < 2 ^ 31) (ha : a < 2 ^ 31) (hb : b < 2 ^ 31) (h4 : (isSec x && decide (s_ck σ ≤ x)) = true) (h5 : s_rl σ a b x (s_nr σ) = true) (h6 : s_mk σ t ≠ a) (h7 : s_ob σ t b 10 = false) (h8 : s_hs σ t b (some a) (s_ns σ) = false) (h9 : s_ns σ ≠ 400) : a_sign σ (nI t) (nI a) (nI b) x = some (nI (s_ns σ)) ∧ n_sign σ (nI t) (nI a) (nI b) x = m_sign σ t a b x := by
  have hk : k_sign σ (nI t) (nI a) (nI b) x = true := by
    unfold k_sign
    rw [Bool.and_assoc (fIn (nI t) (s_nt σ) && fIn (nI a) (s_np σ) && fIn (nI b) 10) (isSec x), n_of_nI ht, n_of_nI ha, n_of_nI hb, h1, h2, h3, h4, h5, h7, h8, show decide (s_mk σ t ≠ a) = true from decide_eq_true h6, show decide (s_ns σ ≠ 400) = true from decide_eq_true h9]
    rfl
  constructor
  · unfold a_sign; rw [n_of_nI ht, n_of_nI ha, n_of_nI hb, h1, h2, h3, h4, h5, if_neg h6, h7, h8, if_neg h9]; rfl
  · unfold n_sign; rw [hk, n_of_nI ht, n_of_nI ha, n_of_nI hb]; rfl
theorem ob_f {σ : St} {t b : Nat} : ∀ {n : Nat}, (∀ i, i < n → s_bh σ b i = true → s_hs σ t i none (s_ns σ) = true) → s_ob σ t b n = false
  | 0, _ => rfl
  | n + 1, h => by
    rw [s_ob, ob_f (n := n) (fun i hi => h i (by omega))]
    cases e : s_bh σ b n
    · rfl
    · rw [h n (by omega) e]; rfl
theorem ob_t {σ : St} {t b i : Nat} (h1 : s_bh σ b i = true) (h2 : s_hs σ t i none (s_ns σ) = false) : ∀ {n : Nat}, i < n → s_ob σ t b n = true
  | 0, h => absurd h (Nat.not_lt_zero _)
  | n + 1, h => by
    rw [s_ob]
    by_cases e : i = n
    · rw [← e, h1, h2]; exact Bool.or_true _
    · rw [ob_t h1 h2 (n := n) (by omega)]; rfl
theorem ob_iff {σ : St} {t b : Nat} : (msk (s_bh σ b) 10 &&& (msk (fun m => s_hs σ t m none (s_ns σ)) 10 ^^^ (-1))) = 0 ↔ s_ob σ t b 10 = false := by
  rw [msk_no]
  constructor
  · exact ob_f
  · intro h i hi h1
    cases e : s_hs σ t i none (s_ns σ)
    · rw [ob_t h1 e hi] at h; exact absurd h (by decide)
    · rfl
theorem ob_ne {σ : St} {t b : Nat} (h : ¬ (msk (s_bh σ b) 10 &&& (msk (fun m => s_hs σ t m none (s_ns σ)) 10 ^^^ (-1))) = 0) : s_ob σ t b 10 = true := by
  cases e : s_ob σ t b 10
  · exact absurd (ob_iff.mpr e) h
  · rfl
theorem Rc_sign {σ : St} {w w3 : FW} {u2 u4 : Nat → Nat → Option FE} {t a b q qq : Nat} {x : Int64} {z : Nat → Int32} {fS : Nat → Option Nat} (hR : Rc σ (w.1, u2)) (hI : Inv σ) (ht : t < s_nt σ)
    (hA3 : ∀ k i, ¬ ((k = 16 ∨ k = 17) ∧ i = s_ns σ) → w3.1 k i = w.1 k i) (h3 : ∀ k i, ¬ ((k = 16 ∨ k = 17) ∧ i = s_ns σ) → w3.2 k i = u2 k i) (a16 : w3.1 16 (s_ns σ) = q) (a17 : w3.1 17 (s_ns σ) = qq) (hf : u2 3 0 = some (aR 5 400 fS))
    (e16 : w3.2 16 (s_ns σ) = some (oO 2 [.ref (w.1 11 t), .int (nI a), .int (nI b), .ref qq, .int (b2i false)])) (e17 : w3.2 17 (s_ns σ) ≠ none)
    (h4 : ∀ k i, ¬ (k = 8 ∨ k = 9 ∨ ((k = 11 ∨ k = 13) ∧ i = t)) → u4 k i = w3.2 k i) (hlv : ∀ k i, w3.2 k i ≠ none → u4 k i ≠ none) (hH : RcH (w3.1, u4)) (hT : Th σ (w3.1, u4) t) (hz : ∀ j, j < 8 → z j = s_dg σ t j)
    {σ1 : St} (e : σ1 = m_sign σ t a b x) : Rc σ1 (fset (fset (fset (w3.1, u4) 17 (s_ns σ) (aI 1 8 z)) 3 0 (aR 5 400 (va_up fS (s_ns σ) (some q)))) 0 0 (oSR σ1 w)) ∧ fr (w.1, u2) (fset (fset (fset (w3.1, u4) 17 (s_ns σ) (aI 1 8 z)) 3 0 (aR 5 400 (va_up fS (s_ns σ) (some q)))) 0 0 (oSR σ1 w)) := by
  have hIs := hI.2.2.2.2.2.1
  have hIg := hI.2.2.2.2.2.2.1
  obtain ⟨r0, r1, ⟨⟨fT, rT1, rT2⟩, rT3, rT4⟩, ⟨⟨fS0, rS1, rS2⟩, rS3, rS4⟩, r4, r5, r6⟩ := hR
  have ef : fS0 = fS := by
    have := rS1.symm.trans hf
    simpa [aR] using this
  subst ef
  generalize hW : fset (fset (fset (w3.1, u4) 17 (s_ns σ) (aI 1 8 z)) 3 0 (aR 5 400 (va_up fS0 (s_ns σ) (some q)))) 0 0 (oSR σ1 w) = W
  have hWa : W.1 = w3.1 := by rw [← hW]; rfl
  have hWp : ∀ k i, k ≠ 0 → k ≠ 3 → ¬ (k = 17 ∧ i = s_ns σ) → W.2 k i = u4 k i := fun k i g0 g3 g17 => by rw [← hW]; exact (fset_ne g0).trans ((fset_ne g3).trans (fset_off g17))
  have hWq : ∀ k i, k ≠ 0 → k ≠ 3 → k ≠ 8 → k ≠ 9 → ¬ ((k = 11 ∨ k = 13) ∧ i = t) → ¬ ((k = 16 ∨ k = 17) ∧ i = s_ns σ) → W.2 k i = u2 k i := fun k i g0 g3 g8 g9 g1 g2 => (hWp k i g0 g3 (by omega)).trans ((h4 k i (by omega)).trans (h3 k i g2))
  have hAd : ∀ k i, ¬ ((k = 16 ∨ k = 17) ∧ i = s_ns σ) → W.1 k i = w.1 k i := fun k i g => by rw [hWa]; exact hA3 k i g
  have s : ∀ k, k ≠ 0 → k ≠ 3 → k ≠ 8 → k ≠ 9 → k ≠ 11 → k ≠ 13 → k ≠ 16 → k ≠ 17 → sk k (w.1, u2) W := fun k g0 g3 g8 g9 g11 g13 g16 g17 i => ⟨hWq k i g0 g3 g8 g9 (by omega) (by omega), hAd k i (by omega)⟩
  refine ⟨⟨?_, ?_, ⟨⟨fT, (hWq 2 0 (by omega) (by omega) (by omega) (by omega) (by omega) (by omega)).trans rT1, fun j hj => ?_⟩, fun j hj => ?_, fun j hj => ?_⟩, ⟨⟨va_up fS0 (s_ns σ) (some q), ?_, fun i hi => ?_⟩, fun i hi => ?_, fun i hi => ?_⟩, ?_, ?_, ?_⟩, ⟨fun k i h => ?_, fun k i h => ?_⟩⟩
  · show W.2 0 0 = some (oO 4 [_, .ref (W.1 1 0), _, .ref (W.1 2 0), _, .ref (W.1 3 0), _, .ref (W.1 4 0), _, .ref (W.1 5 0), .ref (W.1 6 0), _, .ref (W.1 7 0)])
    rw [hAd 1 0 (by omega), hAd 2 0 (by omega), hAd 3 0 (by omega), hAd 4 0 (by omega), hAd 5 0 (by omega), hAd 6 0 (by omega), hAd 7 0 (by omega), ← hW]
    exact fset_at
  · subst e; exact RcR_c (σ := σ) r1 (s 1 (by decide) (by decide) (by decide) (by decide) (by decide) (by decide) (by decide) (by decide)) (s 10 (by decide) (by decide) (by decide) (by decide) (by decide) (by decide) (by decide) (by decide))
  · have hj : j < s_nt σ := by rw [e] at hj; exact hj
    exact (rT2 j hj).trans (by rw [hAd 11 j (by omega)])
  · have hj : j < s_nt σ := by rw [e] at hj; exact hj
    have hT9 : Th σ W j := by
      by_cases h9 : j = t
      · subst h9
        exact Th_c (w1 := W) hT (fun k b1 b2 => ⟨hWp k j (by omega) (by omega) (by omega), by rw [hWa]⟩)
      · exact Th_c (w1 := W) (rT3 j hj) (fun k b1 b2 => ⟨hWq k j (by omega) (by omega) (by omega) (by omega) (by omega) (by omega), hAd k j (by omega)⟩)
    subst e
    exact Th_eq hT9 rfl rfl rfl rfl rfl rfl rfl
  · have hj : s_nt σ ≤ j := by rw [e] at hj; exact hj
    have g : ∀ k, 11 ≤ k → k ≤ 15 → W.2 k j = u2 k j := fun k b1 b2 => hWq k j (by omega) (by omega) (by omega) (by omega) (by omega) (by omega)
    obtain ⟨b1, b2, b3, b4, b5⟩ := rT4 j hj
    exact ⟨(g 11 (by decide) (by decide)).trans b1, (g 12 (by decide) (by decide)).trans b2, (g 13 (by decide) (by decide)).trans b3, (g 14 (by decide) (by decide)).trans b4, (g 15 (by decide) (by decide)).trans b5⟩
  · rw [← hW]; exact (fset_ne (by decide)).trans fset_at
  · have hi : i < s_ns σ + 1 := by rw [e] at hi; exact hi
    by_cases h9 : i = s_ns σ
    · subst h9
      rw [va_up_self, hWa, a16]
    · rw [va_up_ne _ _ h9, rS2 i (by omega), hAd 16 i (by omega)]
  · have hi : i < s_ns σ + 1 := by rw [e] at hi; exact hi
    by_cases h9 : i = s_ns σ
    · subst h9
      refine ⟨?_, z, ?_, ?_⟩
      · subst e
        show W.2 16 (s_ns σ) = some (oO 2 [.ref (W.1 11 (va_up (s_st σ) (s_ns σ) t (s_ns σ))), .int (nI (va_up (s_sp σ) (s_ns σ) a (s_ns σ))), .int (nI (va_up (s_sm σ) (s_ns σ) b (s_ns σ))), .ref (W.1 17 (s_ns σ)), .int (b2i (s_sg σ (s_ns σ)))])
        rw [va_up_self, va_up_self, va_up_self, hIg _ (Nat.le_refl _), hAd 11 t (by omega), hWa, a17, hWp 16 _ (by omega) (by omega) (by omega), h4 16 _ (by omega), e16]
      · rw [← hW]
        exact (fset_ne (by decide)).trans ((fset_ne (by decide)).trans fset_at)
      · subst e
        show ∀ j, j < 8 → z j = va_up (s_sw σ) (s_ns σ) (s_dg σ t) (s_ns σ) j
        rw [va_up_self]
        exact hz
    · obtain ⟨b1, d, b2, b3⟩ := rS3 i (by omega)
      refine ⟨?_, d, (hWq 17 i (by omega) (by omega) (by omega) (by omega) (by omega) (by omega)).trans b2, ?_⟩
      · subst e
        show W.2 16 i = some (oO 2 [.ref (W.1 11 (va_up (s_st σ) (s_ns σ) t i)), .int (nI (va_up (s_sp σ) (s_ns σ) a i)), .int (nI (va_up (s_sm σ) (s_ns σ) b i)), .ref (W.1 17 i), .int (b2i (s_sg σ i))])
        rw [va_up_ne _ _ h9, va_up_ne _ _ h9, va_up_ne _ _ h9, hAd 11 _ (by omega), hAd 17 i (by omega)]
        exact (hWq 16 i (by omega) (by omega) (by omega) (by omega) (by omega) (by omega)).trans b1
      · subst e
        show ∀ j, j < 8 → d j = va_up (s_sw σ) (s_ns σ) (s_dg σ t) i j
        rw [va_up_ne _ _ h9]
        exact b3
  · have hi : s_ns σ + 1 ≤ i := by rw [e] at hi; exact hi
    obtain ⟨b1, b2⟩ := rS4 i (by omega)
    exact ⟨(hWq 16 i (by omega) (by omega) (by omega) (by omega) (by omega) (by omega)).trans b1, (hWq 17 i (by omega) (by omega) (by omega) (by omega) (by omega) (by omega)).trans b2⟩
  · subst e; exact RcW_c (σ := σ) r4 (s 4 (by decide) (by decide) (by decide) (by decide) (by decide) (by decide) (by decide) (by decide))
  · subst e; exact RcO_c (σ := σ) r5 (s 5 (by decide) (by decide) (by decide) (by decide) (by decide) (by decide) (by decide) (by decide)) (s 6 (by decide) (by decide) (by decide) (by decide) (by decide) (by decide) (by decide) (by decide))
  · have g : ∀ k, 7 ≤ k → k ≤ 9 → sk k (w3.1, u4) W := fun k b1 b2 i => ⟨hWp k i (by omega) (by omega) (by omega), by rw [hWa]⟩
    exact RcH_c hH (g 7 (by decide) (by decide)) (g 8 (by decide) (by decide)) (g 9 (by decide) (by decide))
  · obtain ⟨b1, b2⟩ := rS4 (s_ns σ) (Nat.le_refl _)
    have hne : ¬ ((k = 16 ∨ k = 17) ∧ i = s_ns σ) := by
      rintro ⟨g1 | g1, g2⟩
      · subst g1; subst g2; exact h b1
      · subst g1; subst g2; exact h b2
    refine ⟨?_, hAd k i hne⟩
    rw [← hW]
    exact fset_lv (fset_lv (fset_lv (hlv k i (by rw [h3 k i hne]; exact h))))
  · exact hWq k i (by omega) (by omega) (by omega) (by omega) (by omega) (by omega)
set_option maxHeartbeats 8000000 in
set_option maxRecDepth 100000 in
theorem k_X4_sign (l : Launch) (Γ : FG) (w : FW) (σ : St) (tx px mx : Int32) (x : Int64) (hs9 : l.stackTraces = false) (hI : Inv σ) (hR : Rc σ w) : vx_Met l yX4_sign (ws_ yX4_sign cX4_sign 8 (some .int)) (rmD 9 5 1230) (va_Pc [.ref (w.1 0 0), .int tx, .int px, .int mx, .long x] (fI Γ w)) (va_Qi (fun r w1 => a_sign σ tx px mx x = some r ∧ Rc (n_sign σ tx px mx x) w1 ∧ fr w w1) (fI Γ) (fA Γ)) (fXc Γ (fun w1 => a_sign σ tx px mx x = none ∧ Rc (n_sign σ tx px mx x) w1 ∧ fr w w1)) 5 1230 (fA Γ) := by
  refine fw_metX (by decide) (Nat.le_of_ble_eq_true rfl) ?_
  intro p e s m below meth c ls hno hml C hP hS hr hlk hin hl
  have C : fC p s m [.ref (w.1 0 0), .int tx, .int px, .int mx, .long x].toArray c cX4_sign 8 RX4 Γ := C
  have hx := C.1.1
  have hb := C.1.2.1
  have hl : lv_has ls 8 [(0, .ref (w.1 0 0)), (1, .int tx), (2, .int px), (3, .int mx), (4, .long x)] := hl
  obtain ⟨⟨hnp, hnr, hnt, hns, hnw, hck0, hck1⟩, hIr, hIt, hIb, hIn, hIs, hIg, hIw, hIa⟩ := id hI
  obtain ⟨tb, eb, hO1, hO2, hO3, hO4⟩ := id hR.2.2.2.2.2.1
  refine lv_aload_n hx hb dX4_sign_0 rfl (lv_at hl 0 rfl) ?_
  refine lv_iload_n hx hb dX4_sign_1 rfl (lv_at hl 1 rfl) ?_
  refine fw_cq0 (w := w) hS (fw_rV (rest := []) (As := [.int tx]) C hP hS wV_X4_69 (k_X4_thingAt l Γ w σ tx hnt hR.1 hR.2.2.1.1) hR.1 rfl rfl (fRm_mk rfl rfl (Nat.le_of_ble_eq_true rfl) (Nat.le_of_ble_eq_true rfl) (Nat.le_of_ble_eq_true rfl) (Nat.le_of_ble_eq_true rfl) (Nat.le_of_ble_eq_true rfl)) rfl hl.1 rfl dX4_sign_2) (fun H locs hP hS => ?_)
  cases c_2 : fIn tx (s_nt σ) with
  | false =>
    refine fw_Eq (y := .null) rfl ?_
    refine lv_astoreN (lv' := [(6, .null), (0, .ref (w.1 0 0)), (1, .int tx), (2, .int px), (3, .int mx), (4, .long x)]) hx hb dX4_sign_5 hl (by decide) rfl (fun ls hl => ?_)
    refine lv_aloadN hx hb dX4_sign_7 (lv_at hl 0 rfl) ?_
    refine lv_ifnullN (tgt := 27) hx hb dX4_sign_9 (by decide) ?_
    refine lv_iconst (v := (-1)) hx hb dX4_sign_27 (by decide) ?_
    exact vx_ret (fw_reti C hr hlk rfl hP hS (⟨(sg_1 (Or.inl c_2)).1, by rw [(sg_1 (Or.inl c_2)).2]; exact hR, fr_rf w⟩) (Nat.le_of_ble_eq_true rfl) (Nat.le_of_ble_eq_true rfl) dX4_sign_28)
  | true =>
    obtain ⟨tt, htt, rfl⟩ := fIn_t c_2 (by omega)
    refine fw_Eq (y := .ref (w.1 11 tt)) (by rw [n_of_nI (by omega)]; rfl) ?_
    obtain ⟨hln, hcn, hdn, hmk, -⟩ := hIt tt
    obtain ⟨bf, df, cf, nf, zf, e11, e12, e13, e14, e15, hbf, hcf, hnf, hzf⟩ := id (hR.2.2.1.2.1 tt htt)
    refine lv_astore (lv' := [(6, .ref (w.1 11 tt)), (0, .ref (w.1 0 0)), (1, .int (nI tt)), (2, .int px), (3, .int mx), (4, .long x)]) hx hb dX4_sign_5 hl (by decide) rfl (fun ls hl => ?_)
    refine lv_aload hx hb dX4_sign_7 (lv_at hl 0 rfl) ?_
    refine lv_ifnull hx hb dX4_sign_9 ?_
    refine lv_aload_n hx hb dX4_sign_12 rfl (lv_at hl 1 rfl) ?_
    refine lv_iload_n hx hb dX4_sign_13 rfl (lv_at hl 3 rfl) ?_
    refine fw_ci0 (w := w) hS (fw_rV (rest := []) (As := [.int px]) C hP hS wV_X4_48 (k_X4_isPerson l Γ w σ px hnp hR.1) hR.1 rfl rfl (fRm_mk rfl rfl (Nat.le_of_ble_eq_true rfl) (Nat.le_of_ble_eq_true rfl) (Nat.le_of_ble_eq_true rfl) (Nat.le_of_ble_eq_true rfl) (Nat.le_of_ble_eq_true rfl)) rfl hl.1 rfl dX4_sign_14) (fun H locs hP hS => ?_)
    refine fw_ieqB (tgt := 27) hx hb dX4_sign_17 (by decide) (fun c_17 => ?_) (fun c_17 => ?_)
    · refine lv_iconst (v := (-1)) hx hb dX4_sign_27 (by decide) ?_
      exact vx_ret (fw_reti C hr hlk rfl hP hS (⟨(sg_1 (Or.inr (Or.inl c_17))).1, by rw [(sg_1 (Or.inr (Or.inl c_17))).2]; exact hR, fr_rf w⟩) (Nat.le_of_ble_eq_true rfl) (Nat.le_of_ble_eq_true rfl) dX4_sign_28)
    · obtain ⟨pp, hpp, rfl⟩ := fIn_t c_17 (by omega)
      refine lv_iload_n hx hb dX4_sign_20 rfl (lv_at hl 4 rfl) ?_
      refine fw_ci0 (w := w) hS (fw_rS (rest := []) (As := [.int mx]) C hP hS wS_X4_52 (k_X4_isMeaning l Γ w mx) (fRm_mk rfl rfl (Nat.le_of_ble_eq_true rfl) (Nat.le_of_ble_eq_true rfl) (Nat.le_of_ble_eq_true rfl) (Nat.le_of_ble_eq_true rfl) (Nat.le_of_ble_eq_true rfl)) rfl hl.1 rfl dX4_sign_21) (fun H locs hP hS => ?_)
      refine fw_ineB (tgt := 29) hx hb dX4_sign_24 (by decide) (fun c_24 => ?_) (fun c_24 => ?_)
      · obtain ⟨mm, hmm, rfl⟩ := fIn_t c_24 (by omega)
        refine lv_aload_n hx hb dX4_sign_29 rfl (lv_at hl 1 rfl) ?_
        refine lv_lload hx hb dX4_sign_30 (lv_at hl 5 rfl) ?_
        refine fw_ci0 (w := w) hS (fw_rV (rest := []) (As := [.long x]) C hP hS wV_X4_87 (k_X4_isLate l Γ w σ x hR.1) hR.1 rfl rfl (fRm_mk rfl rfl (Nat.le_of_ble_eq_true rfl) (Nat.le_of_ble_eq_true rfl) (Nat.le_of_ble_eq_true rfl) (Nat.le_of_ble_eq_true rfl) (Nat.le_of_ble_eq_true rfl)) rfl hl.1 rfl dX4_sign_32) (fun H locs hP hS => ?_)
        refine fw_ieqB (tgt := 41) hx hb dX4_sign_35 (by decide) (fun c_35 => ?_) (fun c_35 => ?_)
        · refine lv_aload_n hx hb dX4_sign_41 rfl (lv_at hl 1 rfl) ?_
          refine lv_iload_n hx hb dX4_sign_42 rfl (lv_at hl 3 rfl) ?_
          refine lv_iload_n hx hb dX4_sign_43 rfl (lv_at hl 4 rfl) ?_
          refine lv_lload hx hb dX4_sign_44 (lv_at hl 5 rfl) ?_
          refine fw_ci0 (w := w) hS (fw_rV (rest := []) (As := [.int (nI pp), .int (nI mm), .long x]) C hP hS wV_X4_91 (k_X4_hasRole l Γ w σ pp mm x (by omega) (by omega) hnr hIr hR.1 hR.2.1) hR.1 rfl rfl (fRm_mk rfl rfl (Nat.le_of_ble_eq_true rfl) (Nat.le_of_ble_eq_true rfl) (Nat.le_of_ble_eq_true rfl) (Nat.le_of_ble_eq_true rfl) (Nat.le_of_ble_eq_true rfl)) rfl hl.1 rfl dX4_sign_46) (fun H locs hP hS => ?_)
          refine fw_ineB (tgt := 62) hx hb dX4_sign_49 (by decide) (fun c_49 => ?_) (fun c_49 => ?_)
          · refine lv_aload hx hb dX4_sign_62 (lv_at hl 0 rfl) ?_
            refine gf_X4_102 C hP e11 rfl rfl dX4_sign_64 ?_
            refine lv_iload_n hx hb dX4_sign_67 rfl (lv_at hl 3 rfl) ?_
            refine fw_neN (tgt := 74) hx hb (by omega) (by omega) dX4_sign_68 (by decide) (fun c_68 => ?_) (fun c_68 => ?_)
            · refine lv_aload_n hx hb dX4_sign_74 rfl (lv_at hl 1 rfl) ?_
              refine gf_X4_31 C hP hR.1 rfl rfl dX4_sign_75 ?_
              refine lv_iload_n hx hb dX4_sign_78 rfl (lv_at hl 4 rfl) ?_
              refine fw_iald C hP hO1 rfl mm rfl (by omega) (by decide) dX4_sign_79 ?_
              refine fw_E (show tb mm = msk (s_bh σ mm) 10 from hO3 mm (by omega)) ?_
              refine lv_aload_n hx hb dX4_sign_80 rfl (lv_at hl 1 rfl) ?_
              refine lv_aload hx hb dX4_sign_81 (lv_at hl 0 rfl) ?_
              refine fw_ci hS (fw_rV (rest := [.int (msk (s_bh σ mm) 10)]) (As := [.ref (w.1 11 tt)]) C hP hS wV_X4_105 (k_X4_meaningsThatHold l Γ w σ tt hI hR htt) hR.1 rfl rfl (fRm_mk rfl rfl (Nat.le_of_ble_eq_true rfl) (Nat.le_of_ble_eq_true rfl) (Nat.le_of_ble_eq_true rfl) (Nat.le_of_ble_eq_true rfl) (Nat.le_of_ble_eq_true rfl)) rfl hl.1 rfl dX4_sign_83) (fun r1 w1 H locs hp hP hS => ?_)
              obtain ⟨ad1, u1⟩ := w1
              obtain ⟨rfl, hR1, hf1⟩ := hp
              have ha1 : ad1 = w.1 := hf1.1
              subst ha1
              refine lv_iconst (v := (-1)) hx hb dX4_sign_86 (by decide) ?_
              refine lv_ixor hx hb dX4_sign_87 ?_
              refine lv_iand hx hb dX4_sign_88 ?_
              refine lv_if_eq (tgt := 95) hx hb dX4_sign_89 (by decide) (fun c_89 => ?_) (fun c_89 => ?_)
              · refine lv_aload_n hx hb dX4_sign_95 rfl (lv_at hl 1 rfl) ?_
                refine lv_aload hx hb dX4_sign_96 (lv_at hl 0 rfl) ?_
                refine lv_iload_n hx hb dX4_sign_98 rfl (lv_at hl 3 rfl) ?_
                refine lv_iload_n hx hb dX4_sign_99 rfl (lv_at hl 4 rfl) ?_
                refine fw_ci hS (fw_rV (rest := []) (As := [.ref (w.1 11 tt), .int (nI pp), .int (nI mm)]) C hP hS wV_X4_109 (k_X4_isSignedBy l Γ (w.1, u1) σ tt pp mm (by omega) (by omega) hI hR1 htt) hR1.1 rfl rfl (fRm_mk rfl rfl (Nat.le_of_ble_eq_true rfl) (Nat.le_of_ble_eq_true rfl) (Nat.le_of_ble_eq_true rfl) (Nat.le_of_ble_eq_true rfl) (Nat.le_of_ble_eq_true rfl)) rfl hl.1 rfl dX4_sign_100) (fun r1 w1 H locs hp hP hS => ?_)
                obtain ⟨ad2, u2⟩ := w1
                obtain ⟨rfl, hR2, hf2⟩ := hp
                have ha2 : ad2 = w.1 := hf2.1
                subst ha2
                have hf12 : fr w (w.1, u2) := frd_fr (frd_tr hf1 hf2)
                obtain ⟨fS, hS1, hS2⟩ := id hR2.2.2.2.1.1
                obtain ⟨hn16, hn17⟩ := id (hR2.2.2.2.1.2.2 (s_ns σ) (Nat.le_refl _))
                refine fw_ieqB (tgt := 109) hx hb dX4_sign_103 (by decide) (fun c_103 => ?_) (fun c_103 => ?_)
                · refine lv_aload_n hx hb dX4_sign_109 rfl (lv_at hl 1 rfl) ?_
                  refine gf_X4_113 C hP hR2.1 rfl rfl dX4_sign_110 ?_
                  refine lv_sipush (v := nI 400) hx hb dX4_sign_113 (by decide) ?_
                  refine fw_ltN (tgt := 122) hx hb (by omega) (by omega) dX4_sign_116 (by decide) (fun c_116 => ?_) (fun c_116 => ?_)
                  · refine fw_new (ci := 2) (fs := [.null, .int 0, .int 0, .null, .int (b2i false)]) C hP hS 16 (s_ns σ) qy_X2 tyX2 tyX2_ok rfl ⟨ql_X4_21, qx_X2, qn_X2⟩ (by intro j hj; match j, hj with | 0, _ => rfl | 1, _ => rfl | 2, _ => rfl | 3, _ => rfl | 4, _ => rfl | k + 5, hj => exact absurd hj (by omega)) hn16 (Nat.le_of_ble_eq_true rfl) (Nat.le_of_ble_eq_true rfl) dX4_sign_122 (fun q122 H hP hS => ?_)
                    have hP : fP Γ (fnew (w.1, u2) 16 (s_ns σ) (oO 2 [.null, .int 0, .int 0, .null, .int (b2i false)]) q122) H := hP
                    refine lv_dup hx hb dX4_sign_125 rfl ?_
                    refine lv_aload hx hb dX4_sign_126 (lv_at hl 0 rfl) ?_
                    refine lv_iload_n hx hb dX4_sign_128 rfl (lv_at hl 3 rfl) ?_
                    refine lv_iload_n hx hb dX4_sign_129 rfl (lv_at hl 4 rfl) ?_
                    have hm := k_X2_init l Γ (fnew (w.1, u2) 16 (s_ns σ) (oO 2 [.null, .int 0, .int 0, .null, .int (b2i false)]) q122) (s_ns σ) tt pp mm fnew_at ((fnew_ne (by decide)).trans hn17)
                    rw [show (fnew (w.1, u2) 16 (s_ns σ) (oO 2 [.null, .int 0, .int 0, .null, .int (b2i false)]) q122).1 16 (s_ns σ) = q122 from fnew_aat] at hm
                    rw [show (fnew (w.1, u2) 16 (s_ns σ) (oO 2 [.null, .int 0, .int 0, .null, .int (b2i false)]) q122).1 11 tt = w.1 11 tt from ((fnew_ane (by decide)).trans rfl)] at hm
                    refine fw_cv hS (fw_rI (rest := [.ref q122]) (As := [.ref (w.1 11 tt), .int (nI pp), .int (nI mm)]) C hP hS wI_X4_116 (hm) (fRm_mk rfl rfl (Nat.le_of_ble_eq_true rfl) (Nat.le_of_ble_eq_true rfl) (Nat.le_of_ble_eq_true rfl) (Nat.le_of_ble_eq_true rfl) (Nat.le_of_ble_eq_true rfl)) rfl hl.1 rfl dX4_sign_130) (fun w1 H locs hp hP hS => ?_)
                    obtain ⟨q9, hw3⟩ := hp
                    have hA3 : ∀ k i, ¬ ((k = 16 ∨ k = 17) ∧ i = s_ns σ) → w1.1 k i = w.1 k i := by
                      intro k i h
                      rw [hw3]
                      show f2 (f2 w.1 16 (s_ns σ) q122) 17 (s_ns σ) q9 k i = w.1 k i
                      unfold f2
                      by_cases e1 : k = 17
                      · rw [if_pos e1, if_neg (by omega), if_neg (by omega)]
                      · rw [if_neg e1]
                        by_cases e2 : k = 16
                        · rw [if_pos e2, if_neg (by omega)]
                        · rw [if_neg e2]
                    have h3 : ∀ k i, ¬ ((k = 16 ∨ k = 17) ∧ i = s_ns σ) → w1.2 k i = u2 k i := by
                      intro k i h
                      rw [hw3]
                      refine (fset_off (by omega)).trans ?_
                      show f2 (f2 u2 16 (s_ns σ) _) 17 (s_ns σ) _ k i = u2 k i
                      unfold f2
                      by_cases e1 : k = 17
                      · rw [if_pos e1, if_neg (by omega), if_neg (by omega)]
                      · rw [if_neg e1]
                        by_cases e2 : k = 16
                        · rw [if_pos e2, if_neg (by omega)]
                        · rw [if_neg e2]
                    have a16 : w1.1 16 (s_ns σ) = q122 := by rw [hw3]; exact fset_ad.trans ((fnew_ane (by decide)).trans fnew_aat)
                    have a17 : w1.1 17 (s_ns σ) = q9 := by rw [hw3]; exact fset_ad.trans fnew_aat
                    have e16 : w1.2 16 (s_ns σ) = some (oO 2 [.ref (w.1 11 tt), .int (nI pp), .int (nI mm), .ref q9, .int (b2i false)]) := by
                      rw [hw3]
                      exact fset_at
                    have e17 : w1.2 17 (s_ns σ) = some (aI 1 8 (fun _ => 0)) := by rw [hw3]; exact (fset_ne (by decide)).trans fnew_at
                    clear hw3
                    have hH3 : RcH w1 := by
                      have s : ∀ k, k ≠ 16 → k ≠ 17 → sk k (w.1, u2) w1 := fun k g1 g2 i => ⟨h3 k i (by omega), hA3 k i (by omega)⟩
                      exact RcH_c hR2.2.2.2.2.2.2 (s 7 (by decide) (by decide)) (s 8 (by decide) (by decide)) (s 9 (by decide) (by decide))
                    have hT3 : Th σ w1 tt := Th_c (w1 := w1) (hR2.2.2.1.2.1 tt htt) (fun k g1 g2 => ⟨h3 k tt (by omega), hA3 k tt (by omega)⟩)
                    have h03 : Rc0 σ w1 := by
                      show w1.2 0 0 = some (oO 4 [_, .ref (w1.1 1 0), _, .ref (w1.1 2 0), _, .ref (w1.1 3 0), _, .ref (w1.1 4 0), _, .ref (w1.1 5 0), .ref (w1.1 6 0), _, .ref (w1.1 7 0)])
                      rw [hA3 1 0 (by omega), hA3 2 0 (by omega), hA3 3 0 (by omega), hA3 4 0 (by omega), hA3 5 0 (by omega), hA3 6 0 (by omega), hA3 7 0 (by omega), h3 0 0 (by omega)]
                      exact hR2.1
                    have hS3 : w1.2 3 0 = some (aR 5 400 fS) := (h3 3 0 (by omega)).trans hS1
                    have h00 : w1.2 0 0 = some (oSR σ w) := (h3 0 0 (by omega)).trans hR2.1
                    refine lv_astore (lv' := [(7, .ref q122), (6, .ref (w.1 11 tt)), (0, .ref (w.1 0 0)), (1, .int (nI tt)), (2, .int (nI pp)), (3, .int (nI mm)), (4, .long x)]) hx hb dX4_sign_133 hl (by decide) rfl (fun ls hl => ?_)
                    refine lv_aload_n hx hb dX4_sign_135 rfl (lv_at hl 2 rfl) ?_
                    refine lv_aload hx hb dX4_sign_136 (lv_at hl 1 rfl) ?_
                    have hm : Met l _ _ _ (va_Pc [.ref (w1.1 0 0), .ref (w1.1 11 tt)] (fI Γ w1)) _ _ _ _ := k_X4_digestWordsOf l Γ w1 σ tt h03 hH3 hT3 hln
                    rw [hA3 0 0 (by omega), hA3 11 tt (by omega)] at hm
                    refine fw_cq hS (fw_rV (rest := []) (As := [.ref (w.1 11 tt)]) C hP hS wV_X4_119 (hm) h00 (hA3 0 0 (by omega)) rfl (fRm_mk rfl rfl (Nat.le_of_ble_eq_true rfl) (Nat.le_of_ble_eq_true rfl) (Nat.le_of_ble_eq_true rfl) (Nat.le_of_ble_eq_true rfl) (Nat.le_of_ble_eq_true rfl)) rfl hl.1 rfl dX4_sign_138) (fun r1 w4 H locs hp hP hS => ?_)
                    obtain ⟨ad4, u4⟩ := w4
                    obtain ⟨rfl, ha4, hk4, hlv4, hH4, hT4, d4, hd4, hdd4⟩ := hp
                    have ha4 : ad4 = w1.1 := ha4
                    subst ha4
                    refine fw_Eq (y := .ref (w.1 13 tt)) (by rw [hA3 13 tt (by omega)]; rfl) ?_
                    refine lv_aload hx hb dX4_sign_141 (lv_at hl 0 rfl) ?_
                    refine gf_X4_123 C hP ((hk4 16 (s_ns σ) (by omega)).trans e16) a16 rfl dX4_sign_143 ?_
                    have hm := k_X4_copyWords l Γ (w1.1, u4) 13 tt 17 (s_ns σ) d4 (fun _ => 0) (by decide) hd4 ((hk4 17 (s_ns σ) (by omega)).trans e17)
                    rw [show (w1.1, u4).1 13 tt = w.1 13 tt from hA3 13 tt (by omega), show (w1.1, u4).1 17 (s_ns σ) = q9 from a17] at hm
                    refine fw_cv hS (fw_rS (rest := []) (As := [.ref (w.1 13 tt), .ref q9]) C hP hS wS_X4_126 (hm) (fRm_mk rfl rfl (Nat.le_of_ble_eq_true rfl) (Nat.le_of_ble_eq_true rfl) (Nat.le_of_ble_eq_true rfl) (Nat.le_of_ble_eq_true rfl) (Nat.le_of_ble_eq_true rfl)) rfl hl.1 rfl dX4_sign_146) (fun w5 H locs hp hP hS => ?_)
                    obtain ⟨z, rfl, hz⟩ := hp
                    refine lv_aload_n hx hb dX4_sign_149 rfl (lv_at hl 2 rfl) ?_
                    refine gf_X4_23 C hP ((fset_ne (by decide)).trans ((hk4 0 0 (by omega)).trans h00)) (hA3 0 0 (by omega)) rfl dX4_sign_150 ?_
                    refine lv_aload_n hx hb dX4_sign_153 rfl (lv_at hl 2 rfl) ?_
                    refine gf_X4_113 C hP ((fset_ne (by decide)).trans ((hk4 0 0 (by omega)).trans h00)) (hA3 0 0 (by omega)) rfl dX4_sign_154 ?_
                    refine lv_aload hx hb dX4_sign_157 (lv_at hl 0 rfl) ?_
                    refine fw_aast (ci := 2) C hP hS (by decide) rfl rfl ((fset_ne (by decide)).trans ((hk4 3 0 (by omega)).trans hS3)) (hA3 3 0 (by omega)) ((fset_ne (by decide)).trans ((hk4 16 (s_ns σ) (by omega)).trans e16)) a16 (s_ns σ) rfl (by omega) (by decide) dX4_sign_159 (fun H locs hP hS => ?_)
                    have hP : fP Γ (fset (fset (w1.1, u4) 17 (s_ns σ) (aI 1 8 z)) 3 0 (aR 5 400 (va_up fS (s_ns σ) (some q122)))) H := hP
                    refine lv_aload_n hx hb dX4_sign_160 rfl (lv_at hl 2 rfl) ?_
                    refine lv_lload hx hb dX4_sign_161 (lv_at hl 6 rfl) ?_
                    refine pf_X4_130 C hP hS rfl rfl ((fset_ne (by decide)).trans ((fset_ne (by decide)).trans ((hk4 0 0 (by omega)).trans h00))) (hA3 0 0 (by omega)) (Nat.le_of_ble_eq_true rfl) dX4_sign_163 (fun H locs hP hS => ?_)
                    have hP : fP Γ (fset (fset (fset (w1.1, u4) 17 (s_ns σ) (aI 1 8 z)) 3 0 (aR 5 400 (va_up fS (s_ns σ) (some q122)))) 0 0 (oO 4 [.int (nI (s_np σ)), .ref (w.1 1 0), .int (nI (s_nr σ)), .ref (w.1 2 0), .int (nI (s_nt σ)), .ref (w.1 3 0), .int (nI (s_ns σ)), .ref (w.1 4 0), .int (nI (s_nw σ)), .ref (w.1 5 0), .ref (w.1 6 0), .long x, .ref (w.1 7 0)])) H := hP
                    refine lv_aload_n hx hb dX4_sign_166 rfl (lv_at hl 2 rfl) ?_
                    refine lv_dup hx hb dX4_sign_167 rfl ?_
                    refine gf_X4_113 C hP fset_at (hA3 0 0 (by omega)) rfl dX4_sign_168 ?_
                    refine lv_dup_x1 hx hb dX4_sign_171 rfl rfl ?_
                    refine lv_iconst (v := nI 1) hx hb dX4_sign_172 (by decide) ?_
                    refine fw_addN hx hb dX4_sign_173 ?_
                    refine pf_X4_113 C hP hS rfl rfl fset_at (hA3 0 0 (by omega)) (Nat.le_of_ble_eq_true rfl) dX4_sign_174 (fun H locs hP hS => ?_)
                    have hP : fP Γ (fset (fset (fset (fset (w1.1, u4) 17 (s_ns σ) (aI 1 8 z)) 3 0 (aR 5 400 (va_up fS (s_ns σ) (some q122)))) 0 0 (oO 4 [.int (nI (s_np σ)), .ref (w.1 1 0), .int (nI (s_nr σ)), .ref (w.1 2 0), .int (nI (s_nt σ)), .ref (w.1 3 0), .int (nI (s_ns σ)), .ref (w.1 4 0), .int (nI (s_nw σ)), .ref (w.1 5 0), .ref (w.1 6 0), .long x, .ref (w.1 7 0)])) 0 0 (oO 4 [.int (nI (s_np σ)), .ref (w.1 1 0), .int (nI (s_nr σ)), .ref (w.1 2 0), .int (nI (s_nt σ)), .ref (w.1 3 0), .int (nI (s_ns σ + 1)), .ref (w.1 4 0), .int (nI (s_nw σ)), .ref (w.1 5 0), .ref (w.1 6 0), .long x, .ref (w.1 7 0)])) H := hP
                    rw [fset_s] at hP
                    have hok := sg_8 c_2 c_17 c_24 (by omega) (by omega) (by omega) (late_f hck0 c_35) c_49 (by omega) (ob_iff.mp c_89) c_103 (by omega)
                    have hRR := Rc_sign (x := x) hR2 hI htt hA3 h3 a16 a17 hS1 e16 (by rw [e17]; exact fun z => by cases z) hk4 hlv4 hH4 hT4 (fun j hj => (hz j hj).trans (hdd4 j hj)) (rfl : m_sign σ tt pp mm x = _)
                    exact vx_ret (fw_reti C hr hlk rfl hP hS (⟨hok.1, by rw [hok.2]; exact hRR.1, fr_tr hf12 hRR.2⟩) (Nat.le_of_ble_eq_true rfl) (Nat.le_of_ble_eq_true rfl) dX4_sign_177)
                  · refine lv_bipush (v := (-2)) hx hb dX4_sign_119 (by decide) ?_
                    exact vx_ret (fw_reti C hr hlk rfl hP hS (⟨(sg_7 c_2 c_17 c_24 (by omega) (by omega) (by omega) (late_f hck0 c_35) c_49 (by omega) (ob_iff.mp c_89) c_103 (by omega)).1, by rw [(sg_7 c_2 c_17 c_24 (by omega) (by omega) (by omega) (late_f hck0 c_35) c_49 (by omega) (ob_iff.mp c_89) c_103 (by omega)).2]; exact hR2, hf12⟩) (Nat.le_of_ble_eq_true rfl) (Nat.le_of_ble_eq_true rfl) dX4_sign_121)
                · refine lv_bipush (v := (-6)) hx hb dX4_sign_106 (by decide) ?_
                  exact vx_ret (fw_reti C hr hlk rfl hP hS (⟨(sg_6 c_2 c_17 c_24 (by omega) (by omega) (by omega) (late_f hck0 c_35) c_49 (by omega) (ob_iff.mp c_89) c_103).1, by rw [(sg_6 c_2 c_17 c_24 (by omega) (by omega) (by omega) (late_f hck0 c_35) c_49 (by omega) (ob_iff.mp c_89) c_103).2]; exact hR2, hf12⟩) (Nat.le_of_ble_eq_true rfl) (Nat.le_of_ble_eq_true rfl) dX4_sign_108)
              · refine lv_bipush (v := (-5)) hx hb dX4_sign_92 (by decide) ?_
                exact vx_ret (fw_reti C hr hlk rfl hP hS (⟨(sg_5 c_2 c_17 c_24 (by omega) (by omega) (by omega) (late_f hck0 c_35) c_49 (by omega) (ob_ne c_89)).1, by rw [(sg_5 c_2 c_17 c_24 (by omega) (by omega) (by omega) (late_f hck0 c_35) c_49 (by omega) (ob_ne c_89)).2]; exact hR1, frd_fr hf1⟩) (Nat.le_of_ble_eq_true rfl) (Nat.le_of_ble_eq_true rfl) dX4_sign_94)
            · refine lv_bipush (v := (-4)) hx hb dX4_sign_71 (by decide) ?_
              exact vx_ret (fw_reti C hr hlk rfl hP hS (⟨(sg_4 c_2 c_17 c_24 (by omega) (by omega) (by omega) (late_f hck0 c_35) c_49 (by omega)).1, by rw [(sg_4 c_2 c_17 c_24 (by omega) (by omega) (by omega) (late_f hck0 c_35) c_49 (by omega)).2]; exact hR, fr_rf w⟩) (Nat.le_of_ble_eq_true rfl) (Nat.le_of_ble_eq_true rfl) dX4_sign_73)
          · exact fw_throw C hs9 hno hml hP hS hl hlk (by decide) (Nat.le_of_ble_eq_true rfl) (Nat.le_of_ble_eq_true rfl) dX4_sign_52 dX4_sign_55 dX4_sign_56 dX4_sign_58 dX4_sign_61 ⟨(sg_3 c_2 c_17 c_24 (by omega) (by omega) (by omega) (late_f hck0 c_35) c_49).1, by rw [(sg_3 c_2 c_17 c_24 (by omega) (by omega) (by omega) (late_f hck0 c_35) c_49).2]; exact hR, fr_rf w⟩
        · refine lv_bipush (v := (-3)) hx hb dX4_sign_38 (by decide) ?_
          exact vx_ret (fw_reti C hr hlk rfl hP hS (⟨(sg_2 c_2 c_17 c_24 (late_t hck0 c_35)).1, by rw [(sg_2 c_2 c_17 c_24 (late_t hck0 c_35)).2]; exact hR, fr_rf w⟩) (Nat.le_of_ble_eq_true rfl) (Nat.le_of_ble_eq_true rfl) dX4_sign_40)
      · refine lv_iconst (v := (-1)) hx hb dX4_sign_27 (by decide) ?_
        exact vx_ret (fw_reti C hr hlk rfl hP hS (⟨(sg_1 (Or.inr (Or.inr c_24))).1, by rw [(sg_1 (Or.inr (Or.inr c_24))).2]; exact hR, fr_rf w⟩) (Nat.le_of_ble_eq_true rfl) (Nat.le_of_ble_eq_true rfl) dX4_sign_28)
