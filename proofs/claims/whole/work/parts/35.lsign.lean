/-! the law's own helper: a call that may throw, and what it answers -/
abbrev hhS : List (Nat × Nat × Nat × Nat) := [(0, 14, 17, 13)]
theorem qc_L_sign : Cond.codeWith yL_sign cL_sign 8 (some .int) hhS ∈ lw_all := lw_in 260 (by decide +kernel) (by decide +kernel)
theorem ql_L_13f : Cond.classLink RL 13 fISE ∈ lw_all := ql_L_13
abbrev wsH (y : MethodName) (cc : ByteArray) (n : Nat) (r : Option FieldType) (hh : List (Nat × Nat × Nat × Nat)) : List Cond := .codeWith y cc n r hh :: lw_all
theorem fw_metH {l : Launch} {Γ : FG} {w : FW} {y : MethodName} {cc : ByteArray} {maxL : Nat} {ret : Option FieldType} {hh : List (Nat × Nat × Nat × Nat)} {rm : Room} {av : List Value} {Qc : Array Value → State → Outcome → State → Prop} {mc ms : Nat} (hy : plainName y.cls = true) (hlen : (lg_sl av).length ≤ maxL)
    (body : ∀ (p : Program) (e : Env) (s : State) (m : MethodId) (below : List Frame) (meth : Method) (c : Code) (ls : Array Slot), c.exceptionTable.toList = tableOf hh → fC p s m av.toArray c cc maxL y.cls Γ → fP Γ w s.heap → va_S (fA Γ) s.heap s.heap [] → meth.sig.returnType = ret → meth.locks = false → lv_has ls maxL (lv_args 0 av) →
      W p l e rm s m av.toArray below meth c s.heap [] 0 0 (MQ below Qc av.toArray s mc ms (fA Γ)) (F0 m 0 ls [])) :
    Met l y (wsH y cc maxL ret hh) rm (va_Pc av (fI Γ w)) Qc mc ms (fA Γ) := by
  refine MetFree.of_bodyS (code := cc) (maxLocals := maxL) (ret := ret) hy ?_ ?_
  · intro args s m h hn
    obtain ⟨m9, meth, c, hn9, h1, h2, h3, h4, -, h5, h6, -⟩ := Cond.codeWith_spec (atoms_spec (ws := wsH y cc maxL ret hh) h _ List.mem_cons_self)
    cases hn.symm.trans hn9
    exact ⟨meth, c, h1, h2, h3, h4, h5, h6⟩
  · intro p e s m args below meth c s₁ B hml hP _
    have hh0 : s₁.heap = s.heap := by rw [B.state]; rfl
    have hts0 := atoms_spec (ws := wsH y cc maxL ret hh) B.pre
    have ht := vx_table (x := y) B (hts0 _ List.mem_cons_self)
    have hts : ∀ w ∈ lw_all, w.before args s = true := fun w h => hts0 w (List.mem_cons_of_mem _ h)
    have hown : s.vm.findClass y.cls = some m.cls := findClass_of_methodNamed B.named
    obtain ⟨rfl, hI⟩ := hP
    have hl := lv_entry av (n := maxL) hlen
    have K : W p l e rm s m av.toArray below meth c s.heap [] 0 0 (MQ below Qc av.toArray s mc ms (fA Γ)) (entryFrame m av.toArray maxL) := by
      rw [lg_entry_eq]
      exact body p e s m below meth c _ ht ⟨⟨B.exec, B.bytes, hml, hown, hts⟩, hI.2.1, hI.2.2.1, hI.2.2.2⟩ hI.1 va_S.rf B.returns B.notSynchronized hl
    obtain ⟨t, a1, o, b1, b2, b3⟩ := K s₁ hh0 (Stand.of_body B)
    exact ⟨t, o, a1, b1, b2, ⟨b3.1, b3.2⟩⟩
section FWX
variable {p : Program} {l : Launch} {e : Env} {R : Room} {s : State} {m : MethodId} {args : Array Value} {below : List Frame} {meth : Method} {c : Code} {H : Heap} {locs : List Loc} {cells slots : Nat} {Q : State → Prop}
variable {cc : ByteArray} {nL pc : Nat} {ls : Array Slot} {rest : List Value} {own : String} {Γ : FG} {w : FW} {k i a : Nat}
theorem fw_rVX (C : fC p s m args c cc nL own Γ) (hP : fP Γ w H) (hS : va_S (fA Γ) s.heap H locs) {y : MethodName} {Cn : String} {bytes : ByteArray} {maxL mc ms n ix ci : Nat} {ret : Option FieldType} {rm : Room} {As : List Value} {T : u_T} {N : Nat} {fs : List Value} {Qc : Array Value → State → Outcome → State → Prop} {XC : String → State → State → Prop} {st0 : List Value} (hw : fVw own ix y Cn bytes maxL ret n) (hM : vx_Met l y (ws_ y bytes maxL ret) rm (va_Pc (.ref a :: As) (fI Γ w)) Qc XC mc ms (fA Γ)) (he : w.2 k i = some (oO ci fs)) (ha : w.1 k i = a) (hc : vwCl[ci]? = some (Cn, T, N)) (hr : fRm R rm maxL cells slots mc ms rest) (hn : As.length = n) (hsz : ls.size = nL) (hst : st0 = As.reverse ++ .ref a :: rest) (hdg : decode cc pc = .ok (.invokevirtual ix, 3)) :
    vx_Run p l e R s m args below meth c H locs cells slots mc ms (F0 m pc ls st0) rest (Qc (Value.ref a :: As).toArray) XC (fA Γ) := by
  obtain ⟨h1, h2, h3, h4, h5, h6, h7⟩ := hw
  obtain ⟨r1, r2, r3, r4, r5, r6, r7⟩ := hr
  refine vx_runV C.1 hM ⟨fw_cb C h1 h4 h5 h6 h7 r1 r2 r3 r4, C.1.2.2.2.2 _ h2, C.1.2.2.2.2 _ h3⟩ ⟨fI_blind, ?_, fun U hU hW => fw_Pc C hP hS hU hW⟩ rfl hn hsz hst (lv_room r7) hdg ⟨r5, r6⟩
  obtain ⟨L, hL, hPw, -⟩ := hP
  obtain ⟨q0, -, g1⟩ := fL_at (Γ := Γ) hL he
  subst ha
  exact va_recv C.2.1.1 hPw hc g1
theorem fw_rSW (C : fC p s m args c cc nL own Γ) (hP : fP Γ w H) (hS : va_S (fA Γ) s.heap H locs) {y : MethodName} {bytes : ByteArray} {maxL mc ms n ix : Nat} {ret : Option FieldType} {hh : List (Nat × Nat × Nat × Nat)} {rm : Room} {As : List Value} {Qc : Array Value → State → Outcome → State → Prop} {st0 : List Value} (h1 : Cond.methodLink own ix y ∈ lw_all) (h2 : Cond.static y ∈ lw_all) (h4 : Cond.initialized y.cls ∈ lw_all) (h5 : Cond.codeWith y bytes maxL ret hh ∈ lw_all) (h6 : y.cls ≠ "java/lang/invoke/MethodHandle" ∧ y.cls ≠ "java/lang/invoke/VarHandle") (h7 : (parseMethodDescriptor y.desc).map (fun d => d.parameters.length) = some n) (hM : Met l y (wsH y bytes maxL ret hh) rm (va_Pc As (fI Γ w)) Qc mc ms (fA Γ)) (hr : fRm R rm maxL cells slots mc ms rest) (hn : As.length = n) (hsz : ls.size = nL) (hst : st0 = As.reverse ++ rest) (hdg : decode cc pc = .ok (.invokestatic ix, 3)) :
    va_Run p l e R s m args below meth c H locs cells slots mc ms (F0 m pc ls st0) rest (Qc As.toArray) (fA Γ) := by
  obtain ⟨r1, r2, r3, r4, r5, r6, r7⟩ := hr
  have hG : GoodIn lw_all (wsH y bytes maxL ret hh) := by
    intro w hw
    rcases List.mem_cons.mp hw with rfl | h8
    · exact ⟨h5, good_of_word (lw_all_good h5)⟩
    · exact ⟨h8, good_of_word (lw_all_good h8)⟩
  refine vx_runSW C.1 hM ⟨⟨r1, r2, r3, r4, pay_in C.1.2.2.2.2 hG, List.mem_cons_self⟩, C.1.2.2.2.2 _ h5, C.1.2.2.2.2 _ h4, h6, ?_, C.1.2.2.2.2 _ h1, C.1.2.2.2.2 _ h2⟩ ⟨fI_blind, fun U hU hW => fw_Pc C hP hS hU hW⟩ rfl hn hsz hst (lv_room r7) hdg ⟨r5, r6⟩
  intro sig h
  rw [h] at h7
  exact (Option.some.inj h7).symm
end FWX
set_option maxHeartbeats 4000000 in
set_option maxRecDepth 100000 in
theorem k_L_sign (l : Launch) (Γ : FG) (w : FW) (σ : St) (tx px mx : Int32) (x : Int64) (g : Nat → Int64) (hs9 : l.stackTraces = false) (hI : Inv σ) (hR : Rc σ w) (h70 : w.2 70 0 = some (aL 1 g)) : Met l yL_sign (wsH yL_sign cL_sign 8 (some .int) hhS) (rmD 10 5 1230) (va_Pc [.ref (w.1 0 0), .int tx, .int px, .int mx, .long x, .ref (w.1 70 0)] (fI Γ w)) (va_Qi (fun r w1 => r = b2i (a_sign σ tx px mx x).isNone ∧ ∃ w2 f1, fr w w2 ∧ Rc (n_sign σ tx px mx x) w2 ∧ w2.2 70 0 = some (aL 1 g) ∧ w1 = fset w2 70 0 (aL 1 f1) ∧ ∀ v, a_sign σ tx px mx x = some v → f1 0 = v.toInt64) (fI Γ) (fA Γ)) 5 1230 (fA Γ) := by
  refine fw_metH (by decide) (Nat.le_of_ble_eq_true rfl) ?_
  intro p e s m below meth c ls ht C hP hS hr hlk hl
  have hx := C.1.1
  have hb := C.1.2.1
  have hl : lv_has ls 8 [(0, .ref (w.1 0 0)), (1, .int tx), (2, .int px), (3, .int mx), (4, .long x), (6, .ref (w.1 70 0))] := hl
  refine lv_aload hx hb dL_sign_0 (lv_at hl 5 rfl) ?_
  refine lv_iconst (v := nI 0) hx hb dL_sign_2 (by decide) ?_
  refine lv_aload_n hx hb dL_sign_3 rfl (lv_at hl 0 rfl) ?_
  refine lv_iload_n hx hb dL_sign_4 rfl (lv_at hl 1 rfl) ?_
  refine lv_iload_n hx hb dL_sign_5 rfl (lv_at hl 2 rfl) ?_
  refine lv_iload_n hx hb dL_sign_6 rfl (lv_at hl 3 rfl) ?_
  refine lv_lload hx hb dL_sign_7 (lv_at hl 4 rfl) ?_
  refine vx_calli (fw_rVX (rest := [.int (nI 0), .ref (w.1 70 0)]) (As := [.int tx, .int px, .int mx, .long x]) C hP hS wV_L_7 (k_X4_sign l Γ w σ tx px mx x hs9 hI hR) hR.1 rfl rfl (fRm_mk rfl rfl (Nat.le_of_ble_eq_true rfl) (Nat.le_of_ble_eq_true rfl) (Nat.le_of_ble_eq_true rfl) (Nat.le_of_ble_eq_true rfl) (Nat.le_of_ble_eq_true rfl)) rfl hl.1 rfl dL_sign_9) hS (fun _ _ h => h) (fun _ h => h) (fun _ _ h => h) (fun E ce q9 w2 t H1 locs1 hH _ hp hB _ _ hS hce hcv hcl => ?_) (fun r w2 t H1 locs1 hH _ hp hB _ _ hS => ?_)
  · obtain ⟨rfl, hP⟩ := hB
    rw [hH] at hP
    obtain ⟨hn1, hR1, hf1⟩ := hp
    have h71 : w2.2 70 0 = some (aL 1 g) := (hf1.2 70 0 (by decide)).trans h70
    refine vx_catch (own := RL) (name := fISE) C.1.2.2.2.1 [] ⟨0, 14, 17, 13⟩ [] ht (fun z hz => absurd hz List.not_mem_nil) (by decide) (by decide) (C.1.2.2.2.2 _ ql_L_13f) (va_Nw.use rfl C.2.1.2.2.2.2.1.1) hce hcv hcl ?_
    refine lv_astore (lv' := [(7, .ref q9), (0, .ref (w.1 0 0)), (1, .int tx), (2, .int px), (3, .int mx), (4, .long x), (6, .ref (w.1 70 0))]) hx hb dL_sign_17 hl (by decide) rfl (fun ls hl => ?_)
    refine lv_iconst (v := 1) hx hb dL_sign_19 (by decide) ?_
    exact fw_reti C hr hlk rfl hP hS ⟨by rw [hn1]; rfl, w2, g, hf1, hR1, h71, (fset_id h71).symm, fun v hv => by rw [hn1] at hv; cases hv⟩ (Nat.le_of_ble_eq_true rfl) (Nat.le_of_ble_eq_true rfl) dL_sign_20
  · have hP : fP Γ w2 H1 := by rw [← hH]; exact hB.1
    obtain ⟨hn1, hR1, hf1⟩ := hp
    have h71 : w2.2 70 0 = some (aL 1 g) := (hf1.2 70 0 (by decide)).trans h70
    have ha7 : w2.1 70 0 = w.1 70 0 := (hf1.1 70 0 (some_ne h70)).2
    refine lv_i2l (v := r.toInt64) hx hb dL_sign_12 rfl ?_
    refine fw_last C hP hS h71 ha7 0 rfl (by decide) (by decide) dL_sign_13 (fun H locs hP hS => ?_)
    refine lv_goto (tgt := 21) hx hb dL_sign_14 (by decide) ?_
    refine lv_iconst (v := 0) hx hb dL_sign_21 (by decide) ?_
    exact fw_reti C hr hlk rfl hP hS ⟨by rw [hn1]; rfl, w2, vp_updL g 0 r.toInt64, hf1, hR1, h71, rfl, fun v hv => by rw [hn1] at hv; cases hv; rfl⟩ (Nat.le_of_ble_eq_true rfl) (Nat.le_of_ble_eq_true rfl) dL_sign_22
