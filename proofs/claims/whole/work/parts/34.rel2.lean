/-! one state for both: what a call of the one leaves of the other -/
theorem Rc_same {σ : St} {w w1 : FW} (hR : Rc σ w) (s : ∀ k, k < 20 → sk k w w1) : Rc σ w1 := by
  obtain ⟨r0, r1, r2, r3, r4, r5, r6⟩ := hR
  refine ⟨?_, RcR_c r1 (s 1 (by decide)) (s 10 (by decide)), RcT_c r2 (s 2 (by decide)) (s 11 (by decide)) (s 12 (by decide)) (s 13 (by decide)) (s 14 (by decide)) (s 15 (by decide)), RcS_c r3 (s 3 (by decide)) (s 16 (by decide)) (s 17 (by decide)) (fun i _ => (s 11 (by decide) _).2), RcW_c r4 (s 4 (by decide)), RcO_c r5 (s 5 (by decide)) (s 6 (by decide)), RcH_c r6 (s 7 (by decide)) (s 8 (by decide)) (s 9 (by decide))⟩
  show w1.2 0 0 = some (oO 4 [_, .ref (w1.1 1 0), _, .ref (w1.1 2 0), _, .ref (w1.1 3 0), _, .ref (w1.1 4 0), _, .ref (w1.1 5 0), .ref (w1.1 6 0), _, .ref (w1.1 7 0)])
  rw [(s 0 (by decide) 0).1, (s 1 (by decide) 0).2, (s 2 (by decide) 0).2, (s 3 (by decide) 0).2, (s 4 (by decide) 0).2, (s 5 (by decide) 0).2, (s 6 (by decide) 0).2, (s 7 (by decide) 0).2]
  exact r0
theorem Rc_frm {σ : St} {w w1 : FW} (hR : Rc σ w) (h : frm w w1) : Rc σ w1 := Rc_same hR fun k hk i => ⟨h.2 k i (Or.inl hk), by rw [h.1]⟩
theorem Rm_same {σ : St} {th : Int32} {w w1 : FW} (hR : Rm σ th w) (s : ∀ k, 20 ≤ k → k < 62 → w1.2 k 0 = w.2 k 0) (ha : ∀ k, 32 ≤ k → k < 62 → w.2 k 0 ≠ none → w1.1 k 0 = w.1 k 0) : Rm σ th w1 := by
  obtain ⟨z, m20, ⟨⟨f32, g32, v32⟩, ⟨f33, g33, v33⟩, ⟨f34, g34, v34⟩, ⟨f35, g35, v35⟩⟩, ⟨⟨f37, g37, v37⟩, ⟨f38, g38, v38⟩, ⟨f39, g39, v39⟩, ⟨f40, g40, v40⟩, ⟨f41, g41, v41⟩, ⟨f42, g42, v42⟩, ⟨f43, g43, v43⟩, ⟨f44, g44, v44⟩⟩, ⟨⟨f46, g46, v46⟩, ⟨f47, g47, v47⟩, ⟨f48, g48, v48⟩, ⟨f49, g49, v49⟩, ⟨f50, g50, v50⟩, ⟨f52, g52, v52⟩⟩, ⟨f53, g53, v53⟩, ⟨⟨f57, g57, v57⟩, ⟨f58, g58, v58⟩, ⟨f59, g59⟩, ⟨f60, g60⟩, ⟨f61, g61⟩⟩⟩ := hR
  have a : ∀ k, 32 ≤ k → k < 62 → ∀ e, w.2 k 0 = some e → w1.1 k 0 = w.1 k 0 := fun k h1 h2 e h => ha k h1 h2 (by rw [h]; exact fun q => by cases q)
  have e : oMo σ w1 th z = oMo σ w th z := by
    unfold oMo
    rw [a 32 (by decide) (by decide) _ g32, a 33 (by decide) (by decide) _ g33, a 34 (by decide) (by decide) _ g34, a 35 (by decide) (by decide) _ g35, a 37 (by decide) (by decide) _ g37, a 38 (by decide) (by decide) _ g38, a 39 (by decide) (by decide) _ g39, a 40 (by decide) (by decide) _ g40, a 41 (by decide) (by decide) _ g41, a 42 (by decide) (by decide) _ g42, a 43 (by decide) (by decide) _ g43, a 44 (by decide) (by decide) _ g44, a 46 (by decide) (by decide) _ g46, a 47 (by decide) (by decide) _ g47, a 48 (by decide) (by decide) _ g48, a 49 (by decide) (by decide) _ g49, a 50 (by decide) (by decide) _ g50, a 52 (by decide) (by decide) _ g52, a 53 (by decide) (by decide) _ g53, a 57 (by decide) (by decide) _ g57, a 58 (by decide) (by decide) _ g58, a 59 (by decide) (by decide) _ g59, a 60 (by decide) (by decide) _ g60, a 61 (by decide) (by decide) _ g61]
  have k : ∀ {k : Nat} {e : FE}, 20 ≤ k → k < 62 → w.2 k 0 = some e → w1.2 k 0 = some e := fun h1 h2 g => (s _ h1 h2).trans g
  exact ⟨z, by rw [e]; exact k (by decide) (by decide) m20, ⟨⟨_, k (by decide) (by decide) g32, v32⟩, ⟨_, k (by decide) (by decide) g33, v33⟩, ⟨_, k (by decide) (by decide) g34, v34⟩, ⟨_, k (by decide) (by decide) g35, v35⟩⟩,
    ⟨⟨_, k (by decide) (by decide) g37, v37⟩, ⟨_, k (by decide) (by decide) g38, v38⟩, ⟨_, k (by decide) (by decide) g39, v39⟩, ⟨_, k (by decide) (by decide) g40, v40⟩, ⟨_, k (by decide) (by decide) g41, v41⟩, ⟨_, k (by decide) (by decide) g42, v42⟩, ⟨_, k (by decide) (by decide) g43, v43⟩, ⟨_, k (by decide) (by decide) g44, v44⟩⟩,
    ⟨⟨_, k (by decide) (by decide) g46, v46⟩, ⟨_, k (by decide) (by decide) g47, v47⟩, ⟨_, k (by decide) (by decide) g48, v48⟩, ⟨_, k (by decide) (by decide) g49, v49⟩, ⟨_, k (by decide) (by decide) g50, v50⟩, ⟨_, k (by decide) (by decide) g52, v52⟩⟩,
    ⟨_, k (by decide) (by decide) g53, v53⟩, ⟨⟨_, k (by decide) (by decide) g57, v57⟩, ⟨_, k (by decide) (by decide) g58, v58⟩, ⟨_, k (by decide) (by decide) g59⟩, ⟨_, k (by decide) (by decide) g60⟩, ⟨_, k (by decide) (by decide) g61⟩⟩⟩
theorem Rm_fr {σ : St} {th : Int32} {w w1 : FW} (hR : Rm σ th w) (h : fr w w1) : Rm σ th w1 := Rm_same hR (fun k h1 _ => h.2 k 0 h1) (fun k _ _ hn => (h.1 k 0 hn).2)
/-- the law's own world, with the three addresses that its locals hold -/
def Lw (q0 q1 q2 : Nat) (σ : St) (w : FW) : Prop := Inv σ ∧ Rc σ w ∧ (∃ th, Rm σ th w) ∧ (∃ f, w.2 70 0 = some (aL 1 f)) ∧ w.1 0 0 = q0 ∧ w.1 20 0 = q1 ∧ w.1 70 0 = q2
theorem some_ne {α : Type} {a : α} {o : Option α} (h : o = some a) : o ≠ none := by rw [h]; exact fun q => by cases q
/-- the addresses after a call of the class -/
theorem Lw_a {q0 q1 q2 : Nat} {σ : St} {w w1 : FW} (h : Lw q0 q1 q2 σ w) (hf : fr w w1) : w1.1 0 0 = q0 ∧ w1.1 20 0 = q1 ∧ w1.1 70 0 = q2 := by
  obtain ⟨-, hR, ⟨th, z, m20, -⟩, ⟨f, h70⟩, e0, e1, e2⟩ := h
  exact ⟨(hf.1 0 0 (some_ne hR.1)).2.trans e0, (hf.1 20 0 (some_ne m20)).2.trans e1, (hf.1 70 0 (some_ne h70)).2.trans e2⟩
theorem Lw_b {q0 q1 q2 : Nat} {σ σ1 : St} {w w1 w2 : FW} {th : Int32} (h : Lw q0 q1 q2 σ w) (hf : fr w w1) (hR : Rc σ1 w1) (hI : Inv σ1) (hm : frm w1 w2) (hM : Rm σ1 th w2) : Lw q0 q1 q2 σ1 w2 := by
  obtain ⟨e0, e1, e2⟩ := Lw_a h hf
  obtain ⟨-, -, -, ⟨f, h70⟩, -, -, -⟩ := h
  exact ⟨hI, Rc_frm hR hm, ⟨th, hM⟩, ⟨f, (hm.2 70 0 (by omega)).trans ((hf.2 70 0 (by omega)).trans h70)⟩, by rw [hm.1]; exact e0, by rw [hm.1]; exact e1, by rw [hm.1]; exact e2⟩
section FWL
variable {p : Program} {l : Launch} {e : Env} {R : Room} {s : State} {m : MethodId} {args : Array Value} {below : List Frame} {meth : Method} {c : Code} {H : Heap} {locs : List Loc} {cells slots : Nat} {Q : State → Prop}
variable {cc : ByteArray} {nL pc : Nat} {ls : Array Slot} {rest st0 : List Value} {own : String} {Γ : FG}
theorem fw_sld {b L : Nat} {xs : Nat → Int32} (C : fC p s m args c cc nL own Γ) (hX : va_X b L xs s s.heap) (hbl : b < s.heap.size) (hbA : ¬ fA Γ b) (hS : va_S (fA Γ) s.heap H locs) (hL : L < 2 ^ 31) (j : Nat) (hj : j < L) (hdg : decode cc pc = .ok (.iaload, 1)) (kk : W p l e R s m args below meth c H locs cells slots Q (F0 m (pc + 1) ls (.int (xs j) :: rest))) : W p l e R s m args below meth c H locs cells slots Q (F0 m pc ls (.int (nI j) :: .ref b :: rest)) :=
  va_sld C.1.1 C.1.2.1 hX hbl hbA hS (fw_nI hj hL) hdg (by rw [fw_cl hj hL]; exact kk)
theorem fw_slen {b L : Nat} {xs : Nat → Int32} (C : fC p s m args c cc nL own Γ) (hX : va_X b L xs s s.heap) (hbl : b < s.heap.size) (hbA : ¬ fA Γ b) (hS : va_S (fA Γ) s.heap H locs) (hdg : decode cc pc = .ok (.arraylength, 1)) (kk : W p l e R s m args below meth c H locs cells slots Q (F0 m (pc + 1) ls (.int (nI L) :: rest))) : W p l e R s m args below meth c H locs cells slots Q (F0 m pc ls (.ref b :: rest)) :=
  va_slen C.1.1 C.1.2.1 hX hbl hbA hS hdg kk
end FWL
