section
-- ===== PART A: goes FIRST, ahead of the names: the tables' words, and 'selects' of the private methods out of them =====
/-- a private method of a class that the tables say can be made, by its rows of tables_1 -/
def lw_okq (q : MethodName × Nat) : Prop := (q.1.cls ≠ "java/lang/invoke/MethodHandle" ∧ q.1.cls ≠ "java/lang/invoke/VarHandle") ∧ Cond.instantiable q.1.cls q.2 ∈ tables_1 ∧ Cond.privateMethod q.1 ∈ tables_1 ∧ Cond.instanceMethod q.1 ∈ tables_1
theorem lw_p0 : lw_okq (⟨"SignRows", "isPerson", "(I)Z"⟩, 13) := ⟨⟨by decide +kernel, by decide +kernel⟩, List.mem_of_getElem? (i := 13) (by decide +kernel), List.mem_of_getElem? (i := 90) (by decide +kernel), List.mem_of_getElem? (i := 91) (by decide +kernel)⟩
theorem lw_p1 : lw_okq (⟨"SignRows", "thingAt", "(I)LSignRows$Thing;"⟩, 13) := ⟨⟨by decide +kernel, by decide +kernel⟩, List.mem_of_getElem? (i := 13) (by decide +kernel), List.mem_of_getElem? (i := 164) (by decide +kernel), List.mem_of_getElem? (i := 165) (by decide +kernel)⟩
theorem lw_p2 : lw_okq (⟨"SignRows", "signatureAt", "(I)LSignRows$Signature;"⟩, 13) := ⟨⟨by decide +kernel, by decide +kernel⟩, List.mem_of_getElem? (i := 13) (by decide +kernel), List.mem_of_getElem? (i := 175) (by decide +kernel), List.mem_of_getElem? (i := 176) (by decide +kernel)⟩
theorem lw_p3 : lw_okq (⟨"SignRows", "isStanding", "(LSignRows$Signature;)Z"⟩, 13) := ⟨⟨by decide +kernel, by decide +kernel⟩, List.mem_of_getElem? (i := 13) (by decide +kernel), List.mem_of_getElem? (i := 179) (by decide +kernel), List.mem_of_getElem? (i := 180) (by decide +kernel)⟩
theorem lw_p4 : lw_okq (⟨"SignRows", "digestWordsOf", "(LSignRows$Thing;)[I"⟩, 13) := ⟨⟨by decide +kernel, by decide +kernel⟩, List.mem_of_getElem? (i := 13) (by decide +kernel), List.mem_of_getElem? (i := 183) (by decide +kernel), List.mem_of_getElem? (i := 184) (by decide +kernel)⟩
theorem lw_p5 : lw_okq (⟨"SignRows$Sha256", "loadBlock", "([BIII)V"⟩, 2) := ⟨⟨by decide +kernel, by decide +kernel⟩, List.mem_of_getElem? (i := 27) (by decide +kernel), List.mem_of_getElem? (i := 196) (by decide +kernel), List.mem_of_getElem? (i := 197) (by decide +kernel)⟩
theorem lw_p6 : lw_okq (⟨"SignRows$Sha256", "spreadBlock", "()V"⟩, 2) := ⟨⟨by decide +kernel, by decide +kernel⟩, List.mem_of_getElem? (i := 27) (by decide +kernel), List.mem_of_getElem? (i := 203) (by decide +kernel), List.mem_of_getElem? (i := 204) (by decide +kernel)⟩
theorem lw_p7 : lw_okq (⟨"SignRows$Sha256", "mixBlock", "()V"⟩, 2) := ⟨⟨by decide +kernel, by decide +kernel⟩, List.mem_of_getElem? (i := 27) (by decide +kernel), List.mem_of_getElem? (i := 210) (by decide +kernel), List.mem_of_getElem? (i := 211) (by decide +kernel)⟩
theorem lw_p8 : lw_okq (⟨"SignRows", "meaningsThatHold", "(LSignRows$Thing;)I"⟩, 13) := ⟨⟨by decide +kernel, by decide +kernel⟩, List.mem_of_getElem? (i := 13) (by decide +kernel), List.mem_of_getElem? (i := 235) (by decide +kernel), List.mem_of_getElem? (i := 236) (by decide +kernel)⟩
theorem lw_p9 : lw_okq (⟨"SignRows", "isLate", "(J)Z"⟩, 13) := ⟨⟨by decide +kernel, by decide +kernel⟩, List.mem_of_getElem? (i := 13) (by decide +kernel), List.mem_of_getElem? (i := 243) (by decide +kernel), List.mem_of_getElem? (i := 244) (by decide +kernel)⟩
theorem lw_p10 : lw_okq (⟨"SignRows", "hasRole", "(IIJ)Z"⟩, 13) := ⟨⟨by decide +kernel, by decide +kernel⟩, List.mem_of_getElem? (i := 13) (by decide +kernel), List.mem_of_getElem? (i := 267) (by decide +kernel), List.mem_of_getElem? (i := 268) (by decide +kernel)⟩
theorem lw_p11 : lw_okq (⟨"java/lang/Throwable", "fillInStackTrace", "(I)Ljava/lang/Throwable;"⟩, 6) := ⟨⟨by decide +kernel, by decide +kernel⟩, List.mem_of_getElem? (i := 311) (by decide +kernel), List.mem_of_getElem? (i := 309) (by decide +kernel), List.mem_of_getElem? (i := 310) (by decide +kernel)⟩
theorem lw_p12 : lw_okq (⟨"SignRows", "isSignedBy", "(LSignRows$Thing;II)Z"⟩, 13) := ⟨⟨by decide +kernel, by decide +kernel⟩, List.mem_of_getElem? (i := 13) (by decide +kernel), List.mem_of_getElem? (i := 340) (by decide +kernel), List.mem_of_getElem? (i := 341) (by decide +kernel)⟩
theorem lw_p13 : lw_okq (⟨"SignRowsModel", "isPerson", "(I)Z"⟩, 32) := ⟨⟨by decide +kernel, by decide +kernel⟩, List.mem_of_getElem? (i := 372) (by decide +kernel), List.mem_of_getElem? (i := 489) (by decide +kernel), List.mem_of_getElem? (i := 490) (by decide +kernel)⟩
theorem lw_p14 : lw_okq (⟨"SignRowsModel", "reckon", "(I)V"⟩, 32) := ⟨⟨by decide +kernel, by decide +kernel⟩, List.mem_of_getElem? (i := 372) (by decide +kernel), List.mem_of_getElem? (i := 504) (by decide +kernel), List.mem_of_getElem? (i := 505) (by decide +kernel)⟩
theorem lw_p15 : lw_okq (⟨"SignRowsModel", "prepare", "()V"⟩, 32) := ⟨⟨by decide +kernel, by decide +kernel⟩, List.mem_of_getElem? (i := 372) (by decide +kernel), List.mem_of_getElem? (i := 508) (by decide +kernel), List.mem_of_getElem? (i := 509) (by decide +kernel)⟩
def lw_privs_1 : List (MethodName × Nat) := [(⟨"SignRows", "isPerson", "(I)Z"⟩, 13), (⟨"SignRows", "thingAt", "(I)LSignRows$Thing;"⟩, 13), (⟨"SignRows", "signatureAt", "(I)LSignRows$Signature;"⟩, 13), (⟨"SignRows", "isStanding", "(LSignRows$Signature;)Z"⟩, 13), (⟨"SignRows", "digestWordsOf", "(LSignRows$Thing;)[I"⟩, 13), (⟨"SignRows$Sha256", "loadBlock", "([BIII)V"⟩, 2), (⟨"SignRows$Sha256", "spreadBlock", "()V"⟩, 2), (⟨"SignRows$Sha256", "mixBlock", "()V"⟩, 2), (⟨"SignRows", "meaningsThatHold", "(LSignRows$Thing;)I"⟩, 13), (⟨"SignRows", "isLate", "(J)Z"⟩, 13), (⟨"SignRows", "hasRole", "(IIJ)Z"⟩, 13), (⟨"java/lang/Throwable", "fillInStackTrace", "(I)Ljava/lang/Throwable;"⟩, 6), (⟨"SignRows", "isSignedBy", "(LSignRows$Thing;II)Z"⟩, 13), (⟨"SignRowsModel", "isPerson", "(I)Z"⟩, 32), (⟨"SignRowsModel", "reckon", "(I)V"⟩, 32), (⟨"SignRowsModel", "prepare", "()V"⟩, 32)]
theorem lw_r1 : ∀ q ∈ lw_privs_1, lw_okq q := List.forall_mem_cons.mpr ⟨lw_p0, List.forall_mem_cons.mpr ⟨lw_p1, List.forall_mem_cons.mpr ⟨lw_p2, List.forall_mem_cons.mpr ⟨lw_p3, List.forall_mem_cons.mpr ⟨lw_p4, List.forall_mem_cons.mpr ⟨lw_p5, List.forall_mem_cons.mpr ⟨lw_p6, List.forall_mem_cons.mpr ⟨lw_p7, List.forall_mem_cons.mpr ⟨lw_p8, List.forall_mem_cons.mpr ⟨lw_p9, List.forall_mem_cons.mpr ⟨lw_p10, List.forall_mem_cons.mpr ⟨lw_p11, List.forall_mem_cons.mpr ⟨lw_p12, List.forall_mem_cons.mpr ⟨lw_p13, List.forall_mem_cons.mpr ⟨lw_p14, List.forall_mem_cons.mpr ⟨lw_p15, fun _ h => absurd h List.not_mem_nil⟩⟩⟩⟩⟩⟩⟩⟩⟩⟩⟩⟩⟩⟩⟩⟩
theorem lw_p16 : lw_okq (⟨"SignRowsModel", "padded", "(III)I"⟩, 32) := ⟨⟨by decide +kernel, by decide +kernel⟩, List.mem_of_getElem? (i := 372) (by decide +kernel), List.mem_of_getElem? (i := 521) (by decide +kernel), List.mem_of_getElem? (i := 522) (by decide +kernel)⟩
theorem lw_p17 : lw_okq (⟨"SignRowsModel", "block", "()V"⟩, 32) := ⟨⟨by decide +kernel, by decide +kernel⟩, List.mem_of_getElem? (i := 372) (by decide +kernel), List.mem_of_getElem? (i := 528) (by decide +kernel), List.mem_of_getElem? (i := 529) (by decide +kernel)⟩
theorem lw_p18 : lw_okq (⟨"SignRowsModel", "isThing", "(I)Z"⟩, 32) := ⟨⟨by decide +kernel, by decide +kernel⟩, List.mem_of_getElem? (i := 372) (by decide +kernel), List.mem_of_getElem? (i := 536) (by decide +kernel), List.mem_of_getElem? (i := 537) (by decide +kernel)⟩
theorem lw_p19 : lw_okq (⟨"SignRowsModel", "has", "(III)Z"⟩, 32) := ⟨⟨by decide +kernel, by decide +kernel⟩, List.mem_of_getElem? (i := 372) (by decide +kernel), List.mem_of_getElem? (i := 544) (by decide +kernel), List.mem_of_getElem? (i := 545) (by decide +kernel)⟩
theorem lw_p20 : lw_okq (⟨"SignRowsModel", "stands", "(I)Z"⟩, 32) := ⟨⟨by decide +kernel, by decide +kernel⟩, List.mem_of_getElem? (i := 372) (by decide +kernel), List.mem_of_getElem? (i := 548) (by decide +kernel), List.mem_of_getElem? (i := 549) (by decide +kernel)⟩
theorem lw_p21 : lw_okq (⟨"SignRowsModel", "comes", "(III)Z"⟩, 32) := ⟨⟨by decide +kernel, by decide +kernel⟩, List.mem_of_getElem? (i := 372) (by decide +kernel), List.mem_of_getElem? (i := 564) (by decide +kernel), List.mem_of_getElem? (i := 565) (by decide +kernel)⟩
def lw_privs_2 : List (MethodName × Nat) := [(⟨"SignRowsModel", "padded", "(III)I"⟩, 32), (⟨"SignRowsModel", "block", "()V"⟩, 32), (⟨"SignRowsModel", "isThing", "(I)Z"⟩, 32), (⟨"SignRowsModel", "has", "(III)Z"⟩, 32), (⟨"SignRowsModel", "stands", "(I)Z"⟩, 32), (⟨"SignRowsModel", "comes", "(III)Z"⟩, 32)]
theorem lw_r2 : ∀ q ∈ lw_privs_2, lw_okq q := List.forall_mem_cons.mpr ⟨lw_p16, List.forall_mem_cons.mpr ⟨lw_p17, List.forall_mem_cons.mpr ⟨lw_p18, List.forall_mem_cons.mpr ⟨lw_p19, List.forall_mem_cons.mpr ⟨lw_p20, List.forall_mem_cons.mpr ⟨lw_p21, fun _ h => absurd h List.not_mem_nil⟩⟩⟩⟩⟩⟩
def lw_privs : List (MethodName × Nat) := lw_privs_1 ++ (lw_privs_2)
def lw_tbl : List Cond := k2_sels lw_privs ++ tables_1
theorem lw_privs_ok : ∀ q ∈ lw_privs, lw_okq q := by
  show ∀ q ∈ lw_privs_1 ++ (lw_privs_2), lw_okq q
  exact List.forall_mem_append.mpr ⟨lw_r1, lw_r2⟩
/-- the streams that the claim lets the run draw from -/
abbrev lw_cs : List Choice := [Jvm.Choice.named "NaN.bits"]
theorem lw_bits : nanBits ∈ lw_cs := by first | decide | exact List.mem_cons_self | simp [lw_cs, nanBits]
end
section
/-! ===== BEGIN words of one list among another's, by their places ===== -/
theorem goodIn_r {big : List Cond} (ws : List Cond) (ps : List Nat) (hp : ws = ps.filterMap (fun i => big[i]?)) (h : ws.all goodWord = true) : GoodIn big ws := by
  intro w hw
  have h1 := List.all_eq_true.mp h w hw
  rw [hp] at hw
  obtain ⟨i, -, hi⟩ := List.mem_filterMap.mp hw
  have hm : w ∈ big := by first | exact List.mem_of_getElem? hi | exact List.getElem?_mem hi
  exact ⟨hm, good_of_word h1⟩
theorem goodIn_app {big a b : List Cond} (ha : GoodIn big a) (hb : GoodIn big b) : GoodIn big (a ++ b) := fun w h => (List.mem_append.mp h).elim (ha w) (hb w)
theorem goodIn_ca {big a b : List Cond} {c : Cond} (ha : GoodIn big (c :: a)) (hb : GoodIn big b) : GoodIn big (c :: (a ++ b)) := fun w h => (List.mem_cons.mp h).elim (fun e => ha w (List.mem_cons.mpr (Or.inl e))) (fun h => (List.mem_append.mp h).elim (fun h => ha w (List.mem_cons.mpr (Or.inr h))) (hb w))
theorem goodIn_sub {big ws : List Cond} (hm : ∀ w ∈ ws, w ∈ big) (h : ws.all goodWord = true) : GoodIn big ws := fun w hw => ⟨hm w hw, good_of_word (List.all_eq_true.mp h w hw)⟩
/-! ===== END ===== -/

/-! ===== BEGIN exceptions that leave a method, and their catching by the caller (launches without stack traces) ===== -/
section VXA
/-! The laws vx_back, vx_callV, vx_callS, vx_callSW, vx_throw0, vx_throwS follow proofs of the library, with one case more: JvmDerived/Free/Laws.lean (Back.of_free), Shelf42/LK1.lean (callV, callS), Shelf/KitTraced.lean (throwNew0V, throwNewS). -/
/-- where a method has thrown q: the class by its name, the cell, what was written, the world -/
def vx_T (XC : String → State → State → Prop) (st : State) (q : Addr) (t : State) (mc ms : Nat) (free : Addr → Prop) : Prop :=
  ∃ (E : String) (ce : Cell) (L : List Loc), XC E st t ∧ t.heap[q]? = some ce ∧ ce.vm = .none ∧ st.vm.findClass E = some ce.cls ∧ st.WarmedH t.vm ∧ st.sameButNew ({ t with vm := st.vm } : State) L mc ms ∧ ∀ z ∈ L, free z.base
def vx_Q (Qc : Array Value → State → Outcome → State → Prop) (XC : String → State → State → Prop) (mc ms : Nat) (free : Addr → Prop) : Array Value → State → Outcome → State → Prop := fun a st o t =>
  (Qc a st o t ∧ ∃ L, FrameEnd st o t L mc ms ∧ ∀ q ∈ L, free q.base) ∨ ∃ q, o = .threw q ∧ vx_T XC st q t mc ms free
/-- a callee that returns or throws -/
def vx_Met (l : Launch) (y : MethodName) (ws : List Cond) (rm : Room) (Pc : Array Value → State → Prop) (Qc : Array Value → State → Outcome → State → Prop) (XC : String → State → State → Prop) (mc ms : Nat) (free : Addr → Prop) : Prop :=
  MetFree l y (headSpec ws rm) Pc (fun _ _ _ _ _ => True) (vx_Q Qc XC mc ms free)
def vx_Post (XC : String → State → State → Prop) (mc ms : Nat) (free : Addr → Prop) : Pt → Array Value → Addr → Pt → Prop := fun A a q B =>
  ∃ (g : JFrame) (mk : MethodId) (t : State) (L : List Loc) (E : String) (ce : Cell), B.U.heap = t.heap ∧ B.U.vm = t.vm ∧ XC E (A.U.calling g mk a) t ∧ t.heap[q]? = some ce ∧ ce.vm = .none ∧ A.U.vm.findClass E = some ce.cls ∧ B.locs = A.locs ++ L ∧ (∀ z ∈ L, free z.base) ∧ B.cells = A.cells + mc ∧ B.slots = A.slots + ms
def vx_Back (l : Launch) (R : Room) (p : Program) (e : Env) (below : List Frame) (s : State) (sargs : Array Value) (y : MethodName) (len W9 : Nat)
    (Pre : Pt → Array Value → Prop) (Post : Pt → Array Value → Option Value → Pt → Prop) (PostX : Pt → Array Value → Addr → Pt → Prop) : Prop :=
  ∀ (m : MethodId) (meth : Method) (c : Code) (A : Pt) (g : JFrame) (ig : Instr) (mk : MethodId) (a : Array Value),
    Stand p l e R s m sargs below meth c A.U A.locs A.cells A.slots → g.method = m → g.locals.size = c.maxLocals → decode c.code g.pc = .ok (ig, len) →
    2 * g.monitorRoom + (g.stack.map fun v => v.category).sum ≤ W9 → A.U.methodNamed? y = some mk → Pre A a →
    (∃ (v : Option Value) (B : Pt), Stand p l e R s m sargs below meth c B.U B.locs B.cells B.slots ∧ Post A a v B ∧
      Steps p.tables e below (doInvoke e (A.U.setTop g) [] mk a).1 (B.U.setTop { g with pc := g.pc + len, stack := v.toList ++ g.stack })) ∨
    (∃ (q : Addr) (B : Pt), Stand p l e R s m sargs below meth c B.U B.locs B.cells B.slots ∧ PostX A a q B ∧
      Steps p.tables e below (doInvoke e (A.U.setTop g) [] mk a).1 ((B.U.setTop g).pushFrame (.throwing q)))
section Payer
variable {l : Launch} {R : Room} {p : Program} {e : Env} {below : List Frame} {s : State} {sargs : Array Value} {y : MethodName} {len W9 : Nat}
theorem vx_back {ws : List Cond} {rm : Room} {Pc : Array Value → State → Prop} {Qc : Array Value → State → Outcome → State → Prop} {XC : String → State → State → Prop} {mc ms : Nat} {free : Addr → Prop} {bytes : ByteArray} {maxL : Nat} {ret : Option FieldType}
    (hM : vx_Met l y ws rm Pc Qc XC mc ms free) (hblind : FrameBlind Pc) (hrc : rm.cells = mc) (hrs : rm.slots = ms)
    (hframes : rm.frames + 1 ≤ R.frames) (hlocals : W9 + (maxL + 11) + rm.locals ≤ R.locals)
    (hws : ∀ w ∈ ws, ∀ a' U, s.WarmedH U.vm → w.before a' U = true) (hcode : Cond.code y bytes maxL ret ∈ ws) (hinit : ∀ a' U, s.WarmedH U.vm → (Cond.initialized y.cls).before a' U = true) :
    vx_Back l R p e below s sargs y len W9 (PreOf R mc ms Pc) (PostOf Qc mc ms free) (vx_Post XC mc ms free) := by
  intro m meth c A g ig mk a X hg hsize hdg hW hn hp
  have h1 : (headSpec ws rm).pre.before a A.U = true := atoms_intro fun w hw => hws w hw _ _ X.warmed
  have h2 : (Cond.code y bytes maxL ret).before a A.U = true := hws _ hcode _ _ X.warmed
  have h3 : (Cond.initialized y.cls).before a A.U = true := hinit _ _ X.warmed
  have h4 : A.cells + (headSpec ws rm).room.cells ≤ R.cells := by rw [show (headSpec ws rm).room.cells = mc from hrc]; exact hp.1
  have h5 : A.slots + (headSpec ws rm).room.slots ≤ R.slots := by rw [show (headSpec ws rm).room.slots = ms from hrs]; exact hp.2.1
  have hPc : Pc a (A.U.calling g mk a) := hblind _ _ _ _ hp.2.2
  obtain ⟨U, Ls, c0, s0⟩ := A
  dsimp only [Pt.U, Pt.locs, Pt.cells, Pt.slots] at h1 h2 h3 h4 h5 X hn hPc ⊢
  obtain ⟨methY, cY, hmY, hcY, -, hlY, -, -, -, -⟩ := Cond.code_spec hn h2
  obtain ⟨kY, hkY, -⟩ := className_of_methodNamed hn
  have hinitY : kY.init = .initialized := Cond.initialized_spec (findClass_of_methodNamed hn) hkY h3
  have h : At U g.method c below := by rw [hg]; exact X.here
  have hlocals9 : W9 + (maxL + 11) + (headSpec ws rm).room.locals ≤ R.locals := hlocals
  have happ : (headSpec ws rm).appliesLoose y e.platform (U.calling g mk a) = true :=
    Spec.appliesLoose_calling (g := g) h hdg hn hkY hinitY
      (X.room_calling (g := g) (R' := (headSpec ws rm).room) hsize hmY hcY hframes (by rw [hlY]; omega) h4 h5) h1
  obtain ⟨mid, hmid⟩ := h.above
  have hfr : (U.setTop g).frames = (.java g :: mid) ++ below := by rw [State.frames_setTop' g h.top, hmid]; rfl
  obtain ⟨o, s₂, hsteps, -, hend, hq⟩ := Steps.callFree hM p X.admits X.cas X.clock (acts := []) hfr happ hPc trivial
  have hq' : vx_Q Qc XC mc ms free a (U.calling g mk a) o s₂ := hq
  rw [State.frames_setTop' g h.top] at hend
  obtain ⟨g₀, hg0⟩ := Option.isSome_iff_exists.mp h.top
  obtain ⟨r, hr⟩ := State.topJava?_eq_some.mp hg0
  have hr' : (({ U with heap := s₂.heap, slotsUsed := s₂.slotsUsed } : State).setVm s₂.vm).frames = .java g₀ :: r := hr
  rcases hq' with ⟨hqc, L, hfe, hL⟩ | ⟨q, rfl, E, ce, L, hx, hce, hcv, hcl, hW₂, hsm, hL⟩
  · obtain ⟨⟨v, rfl⟩, hW₂, e2, q2, q3, q4, q5, q6⟩ := id hfe
    have e3 : s₂ = ({ (U.calling g mk a).setFrames s₂.frames with heap := s₂.heap, slotsUsed := s₂.slotsUsed } : State).setVm s₂.vm := by
      have : s₂ = ({ s₂ with vm := (U.calling g mk a).vm } : State).setVm s₂.vm := rfl
      rw [e2] at this
      exact this
    obtain ⟨c₂, i₂, len₂, hc₂, hd₂, hf₂⟩ := hend
    have hW' : U.WarmedH s₂.vm := hW₂
    have hcc : c₂ = c := by
      have h1 : s₂.code? g.method = U.code? g.method := by
        rw [State.code?_eq, State.code?_eq, hW'.alike.method?]
      exact Option.some.inj (hc₂.symm.trans (h1.trans h.code))
    subst hcc
    have hlen : len₂ = len := by rw [hdg] at hd₂; cases hd₂; rfl
    subst hlen
    have hs₂ : s₂ = (({ U with heap := s₂.heap, slotsUsed := s₂.slotsUsed } : State).setVm s₂.vm).setTop { g with pc := g.pc + len₂, stack := v.toList ++ g.stack } := by
      refine e3.trans ?_
      rw [hf₂, State.calling_eq h.top, State.setFrames_setFrames, State.setTop_of_frames _ hr', hr]
      rfl
    have hsame : U.sameButNew ({ U with heap := s₂.heap, slotsUsed := s₂.slotsUsed } : State) L mc ms := by
      refine ⟨?_, q2, q3, q4, q5, q6⟩
      obtain ⟨t, ht, -⟩ := State.frames_cons hr
      show ({ U with heap := s₂.heap, slotsUsed := s₂.slotsUsed } : State) = { U.setFrames U.frames with heap := s₂.heap, slotsUsed := s₂.slotsUsed }
      rw [State.setFrames_self ht]
    subst hg
    refine Or.inl ⟨v, ⟨(({ U with heap := s₂.heap, slotsUsed := s₂.slotsUsed } : State).setVm s₂.vm), Ls ++ L, c0 + mc, s0 + ms⟩,
      ⟨X.admits, X.cas, X.clock, X.frames, X.room, X.hears, X.method, X.code, (X.here.setHeapUsed s₂.heap s₂.slotsUsed).setVm hW'.alike, X.tail, State.WarmedH.trans X.warmed hW', X.limits, X.bytes, X.same.trans (hsame.setVm s.vm)⟩,
      ⟨g, mk, s₂, L, rfl, rfl, hqc, rfl, hL, rfl, rfl⟩, ?_⟩
    show Steps p.tables e below _ ((({ U with heap := s₂.heap, slotsUsed := s₂.slotsUsed } : State).setVm s₂.vm).setTop { g with pc := g.pc + len₂, stack := v.toList ++ g.stack })
    rw [← hs₂]
    exact hsteps
  · obtain ⟨e2, q2, q3, q4, q5, q6⟩ := id hsm
    have e3 : s₂ = ({ (U.calling g mk a).setFrames s₂.frames with heap := s₂.heap, slotsUsed := s₂.slotsUsed } : State).setVm s₂.vm := by
      have : s₂ = ({ s₂ with vm := (U.calling g mk a).vm } : State).setVm s₂.vm := rfl
      rw [e2] at this
      exact this
    have hf₂ : s₂.frames = .throwing q :: .java g :: U.frames.tail := hend
    have hW' : U.WarmedH s₂.vm := hW₂
    have hs₂ : s₂ = ((({ U with heap := s₂.heap, slotsUsed := s₂.slotsUsed } : State).setVm s₂.vm).setTop g).pushFrame (.throwing q) := by
      refine e3.trans ?_
      rw [hf₂, State.calling_eq h.top, State.setFrames_setFrames, State.pushFrame, State.frames_setTop _ hr', State.setTop_of_frames _ hr', State.setFrames_setFrames, hr]
      rfl
    have hsame : U.sameButNew ({ U with heap := s₂.heap, slotsUsed := s₂.slotsUsed } : State) L mc ms := by
      refine ⟨?_, q2, q3, q4, q5, q6⟩
      obtain ⟨t, ht, -⟩ := State.frames_cons hr
      show ({ U with heap := s₂.heap, slotsUsed := s₂.slotsUsed } : State) = { U.setFrames U.frames with heap := s₂.heap, slotsUsed := s₂.slotsUsed }
      rw [State.setFrames_self ht]
    subst hg
    refine Or.inr ⟨q, ⟨(({ U with heap := s₂.heap, slotsUsed := s₂.slotsUsed } : State).setVm s₂.vm), Ls ++ L, c0 + mc, s0 + ms⟩,
      ⟨X.admits, X.cas, X.clock, X.frames, X.room, X.hears, X.method, X.code, (X.here.setHeapUsed s₂.heap s₂.slotsUsed).setVm hW'.alike, X.tail, State.WarmedH.trans X.warmed hW', X.limits, X.bytes, X.same.trans (hsame.setVm s.vm)⟩,
      ⟨g, mk, s₂, L, E, ce, rfl, rfl, hx, hce, hcv, hcl, rfl, hL, rfl, rfl⟩, ?_⟩
    show Steps p.tables e below _ (((({ U with heap := s₂.heap, slotsUsed := s₂.slotsUsed } : State).setVm s₂.vm).setTop g).pushFrame (.throwing q))
    rw [← hs₂]
    exact hsteps
end Payer
section Calls
variable {p : Program} {l : Launch} {e : Env} {R : Room} {s : State} {m : MethodId} {args : Array Value} {below : List Frame} {meth : Method} {c : Code} {T : State} {locs : List Loc} {cells slots : Nat}
theorem vx_callV (X : Stand p l e R s m args below meth c T locs cells slots) (hexec : p.tables.exec = Jvm.exec) {own C : String} {index : Nat} {y : MethodName} {bytes : ByteArray} {maxL : Nat} {ret : Option FieldType}
    (hown : s.vm.findClass own = some m.cls) (hlink : (Cond.methodLink own index y).before args s = true) (hinst : (Cond.instanceMethod y).before args s = true) (hsel : (Cond.selects C y y).before args s = true)
    (hcode : (Cond.code y bytes maxL ret).before args s = true) (hy : y.cls ≠ "java/lang/invoke/MethodHandle" ∧ y.cls ≠ "java/lang/invoke/VarHandle")
    {W9 : Nat} {Pre : Pt → Array Value → Prop} {Post : Pt → Array Value → Option Value → Pt → Prop} {PostX : Pt → Array Value → Addr → Pt → Prop} (hK : vx_Back l R p e below s args y 3 W9 Pre Post PostX)
    {b : Addr} {cellB : Cell} (hcell : T.heap[b]? = some cellB) (hobj : cellB.vm.isStatics = false) (hcls : s.vm.findClass C = some cellB.cls)
    {g : JFrame} (hg : g.method = m) (hsize : g.locals.size = c.maxLocals) {argsL rest : List Value} (hlen : ∀ sig, parseMethodDescriptor y.desc = some sig → argsL.length = sig.parameters.length)
    (hstack : g.stack = argsL.reverse ++ .ref b :: rest) (hW : 2 * g.monitorRoom + (rest.map fun v => v.category).sum ≤ W9) (hdg : decode c.code g.pc = .ok (.invokevirtual index, 3))
    (hpre : ∀ vm₁, s.WarmedH vm₁ → Pre ⟨T.setVm vm₁, locs, cells, slots⟩ (Value.ref b :: argsL).toArray) :
    (∃ (v : Option Value) (vm₁ : Vm) (B : Pt), s.WarmedH vm₁ ∧ Stand p l e R s m args below meth c B.U B.locs B.cells B.slots ∧ Post ⟨T.setVm vm₁, locs, cells, slots⟩ (Value.ref b :: argsL).toArray v B ∧
      ∀ target, Steps p.tables e below (B.U.setTop { g with pc := g.pc + 3, stack := v.toList ++ rest }) target → Steps p.tables e below (T.setTop g) target) ∨
    (∃ (q : Addr) (vm₁ : Vm) (B : Pt), s.WarmedH vm₁ ∧ Stand p l e R s m args below meth c B.U B.locs B.cells B.slots ∧ PostX ⟨T.setVm vm₁, locs, cells, slots⟩ (Value.ref b :: argsL).toArray q B ∧
      Steps p.tables e below (T.setTop g) ((B.U.setTop { g with stack := rest }).pushFrame (.throwing q))) := by
  obtain ⟨mk, methM, hnamed, hmethM, hstM, habM⟩ := Cond.instanceMethod_spec hinst
  obtain ⟨methM', cM, hmethM', -, -, -, -, -, -, hsigM⟩ := Cond.code_spec hnamed hcode
  cases hmethM.symm.trans hmethM'
  obtain ⟨c2, r2, m2, q1, q2, q3, q4, kP, hkP, hkPi⟩ := Cond.selects_spec hsel
  cases hcls.symm.trans q1
  cases (State.methodFound?_of_named hnamed hy).symm.trans q2
  cases hnamed.symm.trans q3
  have hselP : selectMethod e.platform s.vm cellB.cls mk = .method mk := by rw [Launch.admits_selectMethod X.admits]; exact q4
  obtain ⟨vm₁, X₁, hstep₁⟩ := X.invokevirtual hexec hown hlink hnamed hmethM hstM hkP hkPi hy (a := b) (cell := cellB) hcell
    (fun z h => by rw [h] at hobj; cases hobj) hselP hmethM habM hkP hkPi (g := g) hg (argsL := argsL) (rest := rest) (hlen _ hsigM) hstack hdg
  rcases hK m meth c ⟨T.setVm vm₁, locs, cells, slots⟩ { g with stack := rest } (.invokevirtual index) mk (Value.ref b :: argsL).toArray X₁ hg hsize hdg hW (X₁.named hnamed) (hpre vm₁ X₁.warmed) with ⟨v, B, X', hpost, hsteps⟩ | ⟨q, B, X', hpost, hsteps⟩
  · exact Or.inl ⟨v, vm₁, B, X₁.warmed, X', hpost, fun target h => hstep₁ _ fun acts => by rw [doInvoke_state]; exact hsteps.trans h⟩
  · exact Or.inr ⟨q, vm₁, B, X₁.warmed, X', hpost, hstep₁ _ fun acts => by rw [doInvoke_state]; exact hsteps⟩
theorem vx_callS (X : Stand p l e R s m args below meth c T locs cells slots) (hexec : p.tables.exec = Jvm.exec) {own : String} {index : Nat} {y : MethodName} {bytes : ByteArray} {maxL : Nat} {ret : Option FieldType}
    (hown : s.vm.findClass own = some m.cls) (hlink : (Cond.methodLink own index y).before args s = true) (hstat : (Cond.static y).before args s = true) (hinit : (Cond.initialized y.cls).before args s = true)
    (hcode : (Cond.code y bytes maxL ret).before args s = true) (hy : y.cls ≠ "java/lang/invoke/MethodHandle" ∧ y.cls ≠ "java/lang/invoke/VarHandle")
    {W9 : Nat} {Pre : Pt → Array Value → Prop} {Post : Pt → Array Value → Option Value → Pt → Prop} {PostX : Pt → Array Value → Addr → Pt → Prop} (hK : vx_Back l R p e below s args y 3 W9 Pre Post PostX)
    {g : JFrame} (hg : g.method = m) (hsize : g.locals.size = c.maxLocals) {argsL rest : List Value} (hlen : ∀ sig, parseMethodDescriptor y.desc = some sig → argsL.length = sig.parameters.length)
    (hstack : g.stack = argsL.reverse ++ rest) (hW : 2 * g.monitorRoom + (rest.map fun v => v.category).sum ≤ W9) (hdg : decode c.code g.pc = .ok (.invokestatic index, 3))
    (hpre : ∀ vm₁, s.WarmedH vm₁ → Pre ⟨T.setVm vm₁, locs, cells, slots⟩ argsL.toArray) :
    (∃ (v : Option Value) (vm₁ : Vm) (B : Pt), s.WarmedH vm₁ ∧ Stand p l e R s m args below meth c B.U B.locs B.cells B.slots ∧ Post ⟨T.setVm vm₁, locs, cells, slots⟩ argsL.toArray v B ∧
      ∀ target, Steps p.tables e below (B.U.setTop { g with pc := g.pc + 3, stack := v.toList ++ rest }) target → Steps p.tables e below (T.setTop g) target) ∨
    (∃ (q : Addr) (vm₁ : Vm) (B : Pt), s.WarmedH vm₁ ∧ Stand p l e R s m args below meth c B.U B.locs B.cells B.slots ∧ PostX ⟨T.setVm vm₁, locs, cells, slots⟩ argsL.toArray q B ∧
      Steps p.tables e below (T.setTop g) ((B.U.setTop { g with stack := rest }).pushFrame (.throwing q))) := by
  obtain ⟨mk, hnamed⟩ := Cond.code_named hcode
  obtain ⟨methM, cM, hmethM, -, -, -, -, -, -, hsigM⟩ := Cond.code_spec hnamed hcode
  have hstatic : methM.isStatic = true := Cond.static_spec hnamed hmethM hstat
  obtain ⟨kP, hkP, -⟩ := className_of_methodNamed hnamed
  have hinitP : kP.init = .initialized := Cond.initialized_spec (findClass_of_methodNamed hnamed) hkP hinit
  obtain ⟨vm₁, X₁, hstep₁⟩ := X.invokestatic hexec hown hlink hnamed hmethM hstatic hkP hinitP hy (g := g) hg (argsL := argsL) (rest := rest) (hlen _ hsigM) hstack hdg
  rcases hK m meth c ⟨T.setVm vm₁, locs, cells, slots⟩ { g with stack := rest } (.invokestatic index) mk argsL.toArray X₁ hg hsize hdg hW (X₁.named hnamed) (hpre vm₁ X₁.warmed) with ⟨v, B, X', hpost, hsteps⟩ | ⟨q, B, X', hpost, hsteps⟩
  · exact Or.inl ⟨v, vm₁, B, X₁.warmed, X', hpost, fun target h => hstep₁ _ fun acts => by rw [doInvoke_state]; exact hsteps.trans h⟩
  · exact Or.inr ⟨q, vm₁, B, X₁.warmed, X', hpost, hstep₁ _ fun acts => by rw [doInvoke_state]; exact hsteps⟩
end Calls
theorem vx_cls {s : State} {T : State} {vm₁ : Vm} {E : String} {k : ClassId} (hW : s.WarmedH vm₁) (h : (T.setVm vm₁).vm.findClass E = some k) : s.vm.findClass E = some k := by
  have h1 : vm₁.findClass E = some k := h
  rw [hW.alike.findClass] at h1
  exact h1
/-- the method's frame g, with q thrown over it -/
def vx_W (p : Program) (l : Launch) (e : Env) (R : Room) (s : State) (m : MethodId) (args : Array Value) (below : List Frame) (meth : Method) (c : Code) (H : Heap) (locs : List Loc) (cells slots : Nat) (Q : State → Prop) (g : JFrame) (q : Addr) : Prop :=
  ∀ T : State, T.heap = H → Stand p l e R s m args below meth c T locs cells slots → ∃ t, Steps p.tables e below ((T.setTop g).pushFrame (.throwing q)) t ∧ Q t
def vx_Run (p : Program) (l : Launch) (e : Env) (R : Room) (s : State) (m : MethodId) (args : Array Value) (below : List Frame) (meth : Method) (c : Code) (H : Heap) (locs : List Loc) (cells slots mc ms : Nat) (g : JFrame) (rest : List Value) (Qa : State → Outcome → State → Prop) (XC : String → State → State → Prop) (free : Addr → Prop) : Prop :=
  ∀ T : State, T.heap = H → Stand p l e R s m args below meth c T locs cells slots →
    (∃ (v : Option Value) (st₀ t T' : State) (L : List Loc), st₀.heap = H ∧ Stand p l e R s m args below meth c T' (locs ++ L) (cells + mc) (slots + ms) ∧ (∀ q ∈ L, free q.base) ∧ T'.heap = t.heap ∧ T'.vm = t.vm ∧ Qa st₀ (.returned v) t ∧
      Goes p e below T g T' { g with pc := g.pc + 3, stack := v.toList ++ rest }) ∨
    (∃ (q : Addr) (st₀ t T' : State) (L : List Loc) (E : String) (ce : Cell), st₀.heap = H ∧ Stand p l e R s m args below meth c T' (locs ++ L) (cells + mc) (slots + ms) ∧ (∀ z ∈ L, free z.base) ∧ T'.heap = t.heap ∧ T'.vm = t.vm ∧ XC E st₀ t ∧ t.heap[q]? = some ce ∧ ce.vm = .none ∧ s.vm.findClass E = some ce.cls ∧
      Steps p.tables e below (T.setTop g) ((T'.setTop { g with stack := rest }).pushFrame (.throwing q)))
def vx_X {S : Type} (px : S → Prop) (B : String → S → State → Prop) (A : Nat → Prop) : String → State → State → Prop := fun E st t => ∃ u : S, px u ∧ B E u t ∧ va_F A st t
section Runs
variable {p : Program} {l : Launch} {e : Env} {R : Room} {s : State} {m : MethodId} {args : Array Value} {below : List Frame} {meth : Method} {c : Code} {H : Heap} {locs : List Loc} {cells slots : Nat}
variable {y : MethodName} {bytes cc : ByteArray} {maxL nL mc ms n index : Nat} {ret : Option FieldType} {ws : List Cond} {rm : Room} {Pc : Array Value → State → Prop} {Qc : Array Value → State → Outcome → State → Prop} {XC : String → State → State → Prop} {free : Addr → Prop} {Ts : List Cond} {own C : String} {b : Addr} {As rest : List Value} {g : JFrame}
theorem vx_callBack (cb : CallB R s args own index y bytes maxL ret ws rm mc ms n) (hM : vx_Met l y ws rm Pc Qc XC mc ms free) (hbl : FrameBlind Pc) : vx_Back l R p e below s args y 3 8 (PreOf R mc ms Pc) (PostOf Qc mc ms free) (vx_Post XC mc ms free) := by
  obtain ⟨hrc, hrs, hfr, hlo, hws, hcw, -, hini, -⟩ := cb
  exact vx_back (bytes := bytes) (maxL := maxL) (ret := ret) hM hbl hrc hrs hfr hlo hws hcw (fun a' U hW => word_at hW (Or.inl (by first | rfl | simp [Cond.onTables, Cond.keeps, Cond.steady])) hini)
theorem vx_runV (S : CallFix p m c cc nL s args Ts own) (hM : vx_Met l y ws rm Pc Qc XC mc ms free) (cw : CallW R s args own C index y bytes maxL ret ws rm mc ms n) (hp : PreV s H C b Pc As)
    (hg : g.method = m) (hn : As.length = n) (hsize : g.locals.size = nL) (hstack : g.stack = As.reverse ++ .ref b :: rest) (hW : 2 * g.monitorRoom + (rest.map fun v => v.category).sum ≤ 8) (hdg : decode cc g.pc = .ok (.invokevirtual index, 3)) (hf : cells + mc ≤ R.cells ∧ slots + ms ≤ R.slots) :
    vx_Run p l e R s m args below meth c H locs cells slots mc ms g rest (Qc (Value.ref b :: As).toArray) XC free := by
  have hK : vx_Back l R p e below s args y 3 8 (PreOf R mc ms Pc) (PostOf Qc mc ms free) (vx_Post XC mc ms free) := vx_callBack cw.1 hM hp.1
  obtain ⟨⟨-, -, -, -, -, -, hcode, -, hy, hlen, hl⟩, hin, hse⟩ := cw
  obtain ⟨hx, hb, hml, ho, -⟩ := S
  obtain ⟨-, ⟨cellB, hcB, hoB, hclB⟩, hPc⟩ := hp
  intro T hT X
  rcases vx_callV X hx (C := C) (bytes := bytes) (maxL := maxL) (ret := ret) ho hl hin hse hcode hy hK (by rw [hT]; exact hcB) hoB hclB hg (hsize.trans hml.symm) (argsL := As) (rest := rest) (fun sig h => hn.trans (hlen sig h)) hstack hW (by rw [hb]; exact hdg)
    (fun vm₁ hW₁ => ⟨hf.1, hf.2, hPc (T.setVm vm₁) hT hW₁⟩) with ⟨v, vm₁, ⟨U', l2, c2, s2⟩, hW₁, X', ⟨g', mk, t, L, e1, e2, hq, h1, hL, h2, h3⟩, st⟩ | ⟨q, vm₁, ⟨U', l2, c2, s2⟩, hW₁, X', ⟨g', mk, t, L, E, ce, e1, e2, hq, hce, hcv, hcl, h1, hL, h2, h3⟩, st⟩
  · dsimp only [Pt.U, Pt.locs, Pt.cells, Pt.slots] at X' e1 e2 h1 h2 h3 st
    subst h1; subst h2; subst h3
    exact Or.inl ⟨v, (T.setVm vm₁).calling g' mk (Value.ref b :: As).toArray, t, U', L, hT, X', hL, e1, e2, hq, st⟩
  · dsimp only [Pt.U, Pt.locs, Pt.cells, Pt.slots] at X' e1 e2 h1 h2 h3 st hcl
    subst h1; subst h2; subst h3
    exact Or.inr ⟨q, (T.setVm vm₁).calling g' mk (Value.ref b :: As).toArray, t, U', L, E, ce, hT, X', hL, e1, e2, hq, hce, hcv, vx_cls hW₁ hcl, st⟩
theorem vx_runS (S : CallFix p m c cc nL s args Ts own) (hM : vx_Met l y ws rm Pc Qc XC mc ms free) (cw : CallB R s args own index y bytes maxL ret ws rm mc ms n ∧ (Cond.static y).before args s = true) (hp : PreS s H Pc As)
    (hg : g.method = m) (hn : As.length = n) (hsize : g.locals.size = nL) (hstack : g.stack = As.reverse ++ rest) (hW : 2 * g.monitorRoom + (rest.map fun v => v.category).sum ≤ 8) (hdg : decode cc g.pc = .ok (.invokestatic index, 3)) (hf : cells + mc ≤ R.cells ∧ slots + ms ≤ R.slots) :
    vx_Run p l e R s m args below meth c H locs cells slots mc ms g rest (Qc As.toArray) XC free := by
  have hK : vx_Back l R p e below s args y 3 8 (PreOf R mc ms Pc) (PostOf Qc mc ms free) (vx_Post XC mc ms free) := vx_callBack cw.1 hM hp.1
  obtain ⟨⟨-, -, -, -, -, -, hcode, hini, hy, hlen, hl⟩, hstt⟩ := cw
  obtain ⟨hx, hb, hml, ho, -⟩ := S
  intro T hT X
  rcases vx_callS X hx (bytes := bytes) (maxL := maxL) (ret := ret) ho hl hstt hini hcode hy hK hg (hsize.trans hml.symm) (argsL := As) (rest := rest) (fun sig h => hn.trans (hlen sig h)) hstack hW (by rw [hb]; exact hdg)
    (fun vm₁ hW₁ => ⟨hf.1, hf.2, hp.2 (T.setVm vm₁) hT hW₁⟩) with ⟨v, vm₁, ⟨U', l2, c2, s2⟩, hW₁, X', ⟨g', mk, t, L, e1, e2, hq, h1, hL, h2, h3⟩, st⟩ | ⟨q, vm₁, ⟨U', l2, c2, s2⟩, hW₁, X', ⟨g', mk, t, L, E, ce, e1, e2, hq, hce, hcv, hcl, h1, hL, h2, h3⟩, st⟩
  · dsimp only [Pt.U, Pt.locs, Pt.cells, Pt.slots] at X' e1 e2 h1 h2 h3 st
    subst h1; subst h2; subst h3
    exact Or.inl ⟨v, (T.setVm vm₁).calling g' mk As.toArray, t, U', L, hT, X', hL, e1, e2, hq, st⟩
  · dsimp only [Pt.U, Pt.locs, Pt.cells, Pt.slots] at X' e1 e2 h1 h2 h3 st hcl
    subst h1; subst h2; subst h3
    exact Or.inr ⟨q, (T.setVm vm₁).calling g' mk As.toArray, t, U', L, E, ce, hT, X', hL, e1, e2, hq, hce, hcv, vx_cls hW₁ hcl, st⟩
end Runs
section Rows
variable {p : Program} {l : Launch} {e : Env} {R : Room} {s : State} {m : MethodId} {args : Array Value} {below : List Frame} {meth : Method} {c : Code} {H : Heap} {locs : List Loc} {cells slots : Nat} {Q : State → Prop}
variable {mc ms : Nat} {free : Addr → Prop} {A0 A1 : Nat → Prop} {H0 : Heap} {a : Array Value} {pc : Nat} {ls : Array Slot} {st0 rest : List Value}
theorem vx_keep {st₀ t T' : State} {L : List Loc} (h0 : st₀.heap = H) (e1 : T'.heap = t.heap) (hS : va_S A0 H0 H locs) (hA : ∀ q, q < H.size → A1 q → A0 q) (hf : ∀ q, free q → A0 q) (hL : ∀ q ∈ L, free q.base) (hF : va_F A1 st₀ t) :
    H.size ≤ T'.heap.size ∧ (∀ q : Nat, q < H.size → ¬ A1 q → T'.heap[q]? = H[q]?) ∧ va_S A0 H0 T'.heap (locs ++ L) := by
  obtain ⟨hz, hk⟩ := hF
  rw [h0] at hz hk
  exact ⟨by rw [e1]; exact hz, fun q h1 h2 => by rw [e1]; exact hk q h1 h2,
    ⟨Nat.le_trans hS.1 (by rw [e1]; exact hz), fun q h1 h2 => by rw [e1, hk q (Nat.lt_of_lt_of_le h1 hS.1) (fun z => h2 (hA q (Nat.lt_of_lt_of_le h1 hS.1) z))]; exact hS.2.1 q h1 h2, fun q hq => by
      rcases List.mem_append.mp hq with h | h
      · exact hS.2.2 q h
      · exact hf _ (hL q h)⟩⟩
theorem vx_calli {S SX : Type} {post : Int32 → S → Prop} {px : SX → Prop} {B : S → State → Prop} {BX : String → SX → State → Prop} {AX : Nat → Prop} (hr : vx_Run p l e R s m args below meth c H locs cells slots mc ms (F0 m pc ls st0) rest (va_Qi post B A1 a) (vx_X px BX AX) free) (hS : va_S A0 H0 H locs) (hA : ∀ q, q < H.size → A1 q → A0 q) (hf : ∀ q, free q → A0 q) (hAX : ∀ q, q < H.size → AX q → A0 q)
    (kx : ∀ (E : String) (ce : Cell) (q9 : Addr) (u : SX) (t : State) (H1 : Heap) (locs1 : List Loc), t.heap = H1 → s.vm.Alike t.vm → px u → BX E u t → H.size ≤ H1.size → (∀ q : Nat, q < H.size → ¬ AX q → H1[q]? = H[q]?) → va_S A0 H0 H1 locs1 → H1[q9]? = some ce → ce.vm = .none → s.vm.findClass E = some ce.cls → vx_W p l e R s m args below meth c H1 locs1 (cells + mc) (slots + ms) Q (F0 m pc ls rest) q9)
    (kk : ∀ (r : Int32) (u : S) (t : State) (H1 : Heap) (locs1 : List Loc), t.heap = H1 → s.vm.Alike t.vm → post r u → B u t → H.size ≤ H1.size → (∀ q : Nat, q < H.size → ¬ A1 q → H1[q]? = H[q]?) → va_S A0 H0 H1 locs1 → W p l e R s m args below meth c H1 locs1 (cells + mc) (slots + ms) Q (F0 m (pc + 3) ls (.int r :: rest))) : W p l e R s m args below meth c H locs cells slots Q (F0 m pc ls st0) := by
  intro T hT X
  rcases hr T hT X with ⟨v, st₀, t, T', L, h0, X', hL, e1, e2, ⟨⟨r, u, hv, hp, hb⟩, hF⟩, st⟩ | ⟨q, st₀, t, T', L, E, ce, h0, X', hL, e1, e2, ⟨u, hp, hb, hF⟩, hce, hcv, hcl, st⟩
  · cases hv
    obtain ⟨k1, k2, k3⟩ := vx_keep h0 e1 hS hA hf hL hF
    obtain ⟨t2, a1, b1⟩ := kk r u t T'.heap (locs ++ L) e1.symm (by rw [← e2]; exact X'.warmed.alike) hp hb k1 k2 k3 T' rfl X'
    exact ⟨t2, st t2 a1, b1⟩
  · obtain ⟨k1, k2, k3⟩ := vx_keep h0 e1 hS hAX hf hL hF
    obtain ⟨t2, a1, b1⟩ := kx E ce q u t T'.heap (locs ++ L) e1.symm (by rw [← e2]; exact X'.warmed.alike) hp hb k1 k2 k3 (by rw [e1]; exact hce) hcv hcl T' rfl X'
    exact ⟨t2, st.trans a1, b1⟩
theorem vx_calll {S SX : Type} {post : Int64 → S → Prop} {px : SX → Prop} {B : S → State → Prop} {BX : String → SX → State → Prop} {AX : Nat → Prop} (hr : vx_Run p l e R s m args below meth c H locs cells slots mc ms (F0 m pc ls st0) rest (va_Ql post B A1 a) (vx_X px BX AX) free) (hS : va_S A0 H0 H locs) (hA : ∀ q, q < H.size → A1 q → A0 q) (hf : ∀ q, free q → A0 q) (hAX : ∀ q, q < H.size → AX q → A0 q)
    (kx : ∀ (E : String) (ce : Cell) (q9 : Addr) (u : SX) (t : State) (H1 : Heap) (locs1 : List Loc), t.heap = H1 → s.vm.Alike t.vm → px u → BX E u t → H.size ≤ H1.size → (∀ q : Nat, q < H.size → ¬ AX q → H1[q]? = H[q]?) → va_S A0 H0 H1 locs1 → H1[q9]? = some ce → ce.vm = .none → s.vm.findClass E = some ce.cls → vx_W p l e R s m args below meth c H1 locs1 (cells + mc) (slots + ms) Q (F0 m pc ls rest) q9)
    (kk : ∀ (r : Int64) (u : S) (t : State) (H1 : Heap) (locs1 : List Loc), t.heap = H1 → s.vm.Alike t.vm → post r u → B u t → H.size ≤ H1.size → (∀ q : Nat, q < H.size → ¬ A1 q → H1[q]? = H[q]?) → va_S A0 H0 H1 locs1 → W p l e R s m args below meth c H1 locs1 (cells + mc) (slots + ms) Q (F0 m (pc + 3) ls (.long r :: rest))) : W p l e R s m args below meth c H locs cells slots Q (F0 m pc ls st0) := by
  intro T hT X
  rcases hr T hT X with ⟨v, st₀, t, T', L, h0, X', hL, e1, e2, ⟨⟨r, u, hv, hp, hb⟩, hF⟩, st⟩ | ⟨q, st₀, t, T', L, E, ce, h0, X', hL, e1, e2, ⟨u, hp, hb, hF⟩, hce, hcv, hcl, st⟩
  · cases hv
    obtain ⟨k1, k2, k3⟩ := vx_keep h0 e1 hS hA hf hL hF
    obtain ⟨t2, a1, b1⟩ := kk r u t T'.heap (locs ++ L) e1.symm (by rw [← e2]; exact X'.warmed.alike) hp hb k1 k2 k3 T' rfl X'
    exact ⟨t2, st t2 a1, b1⟩
  · obtain ⟨k1, k2, k3⟩ := vx_keep h0 e1 hS hAX hf hL hF
    obtain ⟨t2, a1, b1⟩ := kx E ce q u t T'.heap (locs ++ L) e1.symm (by rw [← e2]; exact X'.warmed.alike) hp hb k1 k2 k3 (by rw [e1]; exact hce) hcv hcl T' rfl X'
    exact ⟨t2, st.trans a1, b1⟩
theorem vx_callf {S SX : Type} {post : UInt32 → S → Prop} {px : SX → Prop} {B : S → State → Prop} {BX : String → SX → State → Prop} {AX : Nat → Prop} (hr : vx_Run p l e R s m args below meth c H locs cells slots mc ms (F0 m pc ls st0) rest (va_Qf post B A1 a) (vx_X px BX AX) free) (hS : va_S A0 H0 H locs) (hA : ∀ q, q < H.size → A1 q → A0 q) (hf : ∀ q, free q → A0 q) (hAX : ∀ q, q < H.size → AX q → A0 q)
    (kx : ∀ (E : String) (ce : Cell) (q9 : Addr) (u : SX) (t : State) (H1 : Heap) (locs1 : List Loc), t.heap = H1 → s.vm.Alike t.vm → px u → BX E u t → H.size ≤ H1.size → (∀ q : Nat, q < H.size → ¬ AX q → H1[q]? = H[q]?) → va_S A0 H0 H1 locs1 → H1[q9]? = some ce → ce.vm = .none → s.vm.findClass E = some ce.cls → vx_W p l e R s m args below meth c H1 locs1 (cells + mc) (slots + ms) Q (F0 m pc ls rest) q9)
    (kk : ∀ (r : UInt32) (u : S) (t : State) (H1 : Heap) (locs1 : List Loc), t.heap = H1 → s.vm.Alike t.vm → post r u → B u t → H.size ≤ H1.size → (∀ q : Nat, q < H.size → ¬ A1 q → H1[q]? = H[q]?) → va_S A0 H0 H1 locs1 → W p l e R s m args below meth c H1 locs1 (cells + mc) (slots + ms) Q (F0 m (pc + 3) ls (.float r :: rest))) : W p l e R s m args below meth c H locs cells slots Q (F0 m pc ls st0) := by
  intro T hT X
  rcases hr T hT X with ⟨v, st₀, t, T', L, h0, X', hL, e1, e2, ⟨⟨r, u, hv, hp, hb⟩, hF⟩, st⟩ | ⟨q, st₀, t, T', L, E, ce, h0, X', hL, e1, e2, ⟨u, hp, hb, hF⟩, hce, hcv, hcl, st⟩
  · cases hv
    obtain ⟨k1, k2, k3⟩ := vx_keep h0 e1 hS hA hf hL hF
    obtain ⟨t2, a1, b1⟩ := kk r u t T'.heap (locs ++ L) e1.symm (by rw [← e2]; exact X'.warmed.alike) hp hb k1 k2 k3 T' rfl X'
    exact ⟨t2, st t2 a1, b1⟩
  · obtain ⟨k1, k2, k3⟩ := vx_keep h0 e1 hS hAX hf hL hF
    obtain ⟨t2, a1, b1⟩ := kx E ce q u t T'.heap (locs ++ L) e1.symm (by rw [← e2]; exact X'.warmed.alike) hp hb k1 k2 k3 (by rw [e1]; exact hce) hcv hcl T' rfl X'
    exact ⟨t2, st.trans a1, b1⟩
theorem vx_calld {S SX : Type} {post : UInt64 → S → Prop} {px : SX → Prop} {B : S → State → Prop} {BX : String → SX → State → Prop} {AX : Nat → Prop} (hr : vx_Run p l e R s m args below meth c H locs cells slots mc ms (F0 m pc ls st0) rest (va_Qd post B A1 a) (vx_X px BX AX) free) (hS : va_S A0 H0 H locs) (hA : ∀ q, q < H.size → A1 q → A0 q) (hf : ∀ q, free q → A0 q) (hAX : ∀ q, q < H.size → AX q → A0 q)
    (kx : ∀ (E : String) (ce : Cell) (q9 : Addr) (u : SX) (t : State) (H1 : Heap) (locs1 : List Loc), t.heap = H1 → s.vm.Alike t.vm → px u → BX E u t → H.size ≤ H1.size → (∀ q : Nat, q < H.size → ¬ AX q → H1[q]? = H[q]?) → va_S A0 H0 H1 locs1 → H1[q9]? = some ce → ce.vm = .none → s.vm.findClass E = some ce.cls → vx_W p l e R s m args below meth c H1 locs1 (cells + mc) (slots + ms) Q (F0 m pc ls rest) q9)
    (kk : ∀ (r : UInt64) (u : S) (t : State) (H1 : Heap) (locs1 : List Loc), t.heap = H1 → s.vm.Alike t.vm → post r u → B u t → H.size ≤ H1.size → (∀ q : Nat, q < H.size → ¬ A1 q → H1[q]? = H[q]?) → va_S A0 H0 H1 locs1 → W p l e R s m args below meth c H1 locs1 (cells + mc) (slots + ms) Q (F0 m (pc + 3) ls (.double r :: rest))) : W p l e R s m args below meth c H locs cells slots Q (F0 m pc ls st0) := by
  intro T hT X
  rcases hr T hT X with ⟨v, st₀, t, T', L, h0, X', hL, e1, e2, ⟨⟨r, u, hv, hp, hb⟩, hF⟩, st⟩ | ⟨q, st₀, t, T', L, E, ce, h0, X', hL, e1, e2, ⟨u, hp, hb, hF⟩, hce, hcv, hcl, st⟩
  · cases hv
    obtain ⟨k1, k2, k3⟩ := vx_keep h0 e1 hS hA hf hL hF
    obtain ⟨t2, a1, b1⟩ := kk r u t T'.heap (locs ++ L) e1.symm (by rw [← e2]; exact X'.warmed.alike) hp hb k1 k2 k3 T' rfl X'
    exact ⟨t2, st t2 a1, b1⟩
  · obtain ⟨k1, k2, k3⟩ := vx_keep h0 e1 hS hAX hf hL hF
    obtain ⟨t2, a1, b1⟩ := kx E ce q u t T'.heap (locs ++ L) e1.symm (by rw [← e2]; exact X'.warmed.alike) hp hb k1 k2 k3 (by rw [e1]; exact hce) hcv hcl T' rfl X'
    exact ⟨t2, st.trans a1, b1⟩
theorem vx_callv {S SX : Type} {post : S → Prop} {px : SX → Prop} {B : S → State → Prop} {BX : String → SX → State → Prop} {AX : Nat → Prop} (hr : vx_Run p l e R s m args below meth c H locs cells slots mc ms (F0 m pc ls st0) rest (va_Qv post B A1 a) (vx_X px BX AX) free) (hS : va_S A0 H0 H locs) (hA : ∀ q, q < H.size → A1 q → A0 q) (hf : ∀ q, free q → A0 q) (hAX : ∀ q, q < H.size → AX q → A0 q)
    (kx : ∀ (E : String) (ce : Cell) (q9 : Addr) (u : SX) (t : State) (H1 : Heap) (locs1 : List Loc), t.heap = H1 → s.vm.Alike t.vm → px u → BX E u t → H.size ≤ H1.size → (∀ q : Nat, q < H.size → ¬ AX q → H1[q]? = H[q]?) → va_S A0 H0 H1 locs1 → H1[q9]? = some ce → ce.vm = .none → s.vm.findClass E = some ce.cls → vx_W p l e R s m args below meth c H1 locs1 (cells + mc) (slots + ms) Q (F0 m pc ls rest) q9)
    (kk : ∀ (u : S) (t : State) (H1 : Heap) (locs1 : List Loc), t.heap = H1 → s.vm.Alike t.vm → post u → B u t → H.size ≤ H1.size → (∀ q : Nat, q < H.size → ¬ A1 q → H1[q]? = H[q]?) → va_S A0 H0 H1 locs1 → W p l e R s m args below meth c H1 locs1 (cells + mc) (slots + ms) Q (F0 m (pc + 3) ls (rest))) : W p l e R s m args below meth c H locs cells slots Q (F0 m pc ls st0) := by
  intro T hT X
  rcases hr T hT X with ⟨v, st₀, t, T', L, h0, X', hL, e1, e2, ⟨⟨u, hv, hp, hb⟩, hF⟩, st⟩ | ⟨q, st₀, t, T', L, E, ce, h0, X', hL, e1, e2, ⟨u, hp, hb, hF⟩, hce, hcv, hcl, st⟩
  · cases hv
    obtain ⟨k1, k2, k3⟩ := vx_keep h0 e1 hS hA hf hL hF
    obtain ⟨t2, a1, b1⟩ := kk u t T'.heap (locs ++ L) e1.symm (by rw [← e2]; exact X'.warmed.alike) hp hb k1 k2 k3 T' rfl X'
    exact ⟨t2, st t2 a1, b1⟩
  · obtain ⟨k1, k2, k3⟩ := vx_keep h0 e1 hS hAX hf hL hF
    obtain ⟨t2, a1, b1⟩ := kx E ce q u t T'.heap (locs ++ L) e1.symm (by rw [← e2]; exact X'.warmed.alike) hp hb k1 k2 k3 (by rw [e1]; exact hce) hcv hcl T' rfl X'
    exact ⟨t2, st.trans a1, b1⟩
/-- caught by the row x of this method's table; the rows ahead don't take it -/
theorem vx_catch {own name : String} {E : String} {ce : Cell} {q : Addr} (hown : s.vm.findClass own = some m.cls) (pre : List ExceptionTableEntry) (x : ExceptionTableEntry) (suf : List ExceptionTableEntry) (hsplit : c.exceptionTable.toList = pre ++ x :: suf)
    (hpass : ∀ z ∈ pre, covers z pc = false ∨ (z.catchType ≠ 0 ∧ ∃ nm : String, (Cond.classLink own z.catchType nm).before args s = true ∧ va_Nc E nm s)) (hx : covers x pc = true) (h0 : x.catchType ≠ 0)
    (hlink : (Cond.classLink own x.catchType name).before args s = true) (hcast : (Cond.castable E name).before args s = true) (hcell : H[q]? = some ce) (hv : ce.vm = .none) (hcl : s.vm.findClass E = some ce.cls)
    (kk : W p l e R s m args below meth c H locs cells slots Q (F0 m x.handlerPc ls [.ref q])) : vx_W p l e R s m args below meth c H locs cells slots Q (F0 m pc ls rest) q := by
  intro T hT X
  have hpl : e.platform.magicAccessors = ({} : Platform).magicAccessors := by rw [X.admits.platform]
  obtain ⟨c3, c4, hc3, hc4, hasg⟩ := Cond.castable_spec hcast
  cases Option.some.inj (hc3.symm.trans hcl)
  obtain ⟨c5, hc5, hcl5⟩ := Cond.classLink_spec hown hlink e.platform hpl
  cases Option.some.inj (hc4.symm.trans hc5)
  obtain ⟨vm', X', st⟩ := X.thenCaughtThrough q (g := F0 m pc ls rest) rfl (Steps.refl _) (by rw [hT]; exact hcell) (by rw [hv]; rfl) (by obtain ⟨k9, h9, -⟩ := Vm.findClass_spec hcl; exact ⟨k9, h9⟩) pre x suf hsplit
    (fun z hz => by
      rcases hpass z hz with h | ⟨hz0, nm, hl1, hn1⟩
      · exact Or.inl h
      · obtain ⟨c6, hc6, hcl6⟩ := Cond.classLink_spec hown hl1 e.platform hpl
        obtain ⟨a8, b8, h1, h2, h3⟩ := hn1
        cases Option.some.inj (h1.symm.trans hcl)
        cases Option.some.inj (h2.symm.trans hc6)
        exact Or.inr ⟨hz0, _, hcl6, h3⟩) hx (Or.inr ⟨h0, c4, hcl5, hasg⟩)
  obtain ⟨t, a1, b1⟩ := kk (T.setVm vm') hT X'
  exact ⟨t, st.trans a1, b1⟩
end Rows
section Ends
variable {p : Program} {l : Launch} {e : Env} {R : Room} {s : State} {m : MethodId} {args : Array Value} {below : List Frame} {meth : Method} {c : Code} {H : Heap} {locs : List Loc} {cells slots : Nat} {Q : State → Prop}
variable {mc ms : Nat} {free : Addr → Prop} {A0 A1 : Nat → Prop} {H0 : Heap} {a : Array Value} {ls : Array Slot} {st0 rest : List Value}
variable {Qc : Array Value → State → Outcome → State → Prop} {XC : String → State → State → Prop}
/-- what a body that may throw owes at its end -/
def vx_MQ (below : List Frame) (Qc : Array Value → State → Outcome → State → Prop) (XC : String → State → State → Prop) (a : Array Value) (s : State) (mc ms : Nat) (free : Addr → Prop) : State → Prop := fun t =>
  ∃ o, t.status = .running ∧ Ended t below o ∧ vx_Q Qc XC mc ms free a s o t
theorem vx_ret {g : JFrame} {mc ms : Nat} (k : W p l e R s m args below meth c H locs cells slots (MQ below Qc args s mc ms free) g) : W p l e R s m args below meth c H locs cells slots (vx_MQ below Qc XC args s mc ms free) g := by
  intro T hT X
  obtain ⟨t, a1, o, b1, b2, b3, b4⟩ := k T hT X
  exact ⟨t, a1, o, b1, b2, Or.inl ⟨b3, b4⟩⟩
/-- not caught here: it goes on to the caller -/
theorem vx_widen {g : JFrame} {q : Addr} {k n : Nat} (h1 : cells ≤ k) (h2 : slots ≤ n) (kk : vx_W p l e R s m args below meth c H locs k n Q g q) : vx_W p l e R s m args below meth c H locs cells slots Q g q := fun T hT X => kk T hT (stand_widen X h1 h2)
theorem vx_out {pc : Nat} {E : String} {ce : Cell} {q : Addr} {mc ms : Nat} (hout : ∀ x ∈ c.exceptionTable.toList, covers x pc = false) (hlocks : meth.locks = false) (hcell : H[q]? = some ce) (hv : ce.vm = .none) (hcl : s.vm.findClass E = some ce.cls)
    (hx : ∀ t : State, t.heap = H → s.vm.Alike t.vm → XC E s t) (hf : ∀ z ∈ locs, free z.base) (hc : cells ≤ mc) (hs : slots ≤ ms) :
    vx_W p l e R s m args below meth c H locs cells slots (vx_MQ below Qc XC args s mc ms free) (F0 m pc ls rest) q := by
  intro T hT X
  obtain ⟨st1, hrun, hend, hW, hsm⟩ := X.leaveThrown q (g := F0 m pc ls rest) rfl rfl rfl hout hlocks
  have hcell9 : (T.setFrames (.throwing q :: below)).heap[q]? = some ce := by
    show T.heap[q]? = some ce
    rw [hT]; exact hcell
  exact ⟨_, st1, .threw q, hrun, hend, Or.inr ⟨q, rfl, E, ce, locs, hx _ hT hW.alike, hcell9, hv, hcl, hW, hsm.mono hc hs, hf⟩⟩
theorem vx_frame {U : State} {k n : Nat} (h : s.sameButNew ({ U with vm := s.vm } : State) locs k n) : s.heap.size ≤ U.heap.size ∧ ∀ q : Nat, q < s.heap.size → (∀ z ∈ locs, z.base ≠ q) → U.heap[q]? = s.heap[q]? := by
  obtain ⟨-, h2, -, -, -, h6⟩ := h
  refine ⟨h2, fun q hq hz => ?_⟩
  obtain ⟨c9, e1, e2, e3, e4⟩ := h6 q _ (Array.getElem?_eq_getElem hq)
  have hs : c9.slots = (s.heap[q]).slots := Array.ext_getElem? fun i => e4 i fun hm => hz _ hm rfl
  have h9 : c9 = s.heap[q] := by
    rw [hs] at e2
    exact e2
  have e5 : U.heap[q]? = some c9 := e1
  rw [e5, h9, Array.getElem?_eq_getElem hq]
/-- the words of a throw but the four that speak of the heap -/
def vx_no (w : Cond) : Bool := decide (w ≠ .isRef (.static Bundle.tN "UNASSIGNED_STACK" Bundle.steD)) && decide (w ≠ .isRef (.static Bundle.tN "SUPPRESSED_SENTINEL" Bundle.listD)) && decide (w ≠ .laysStatic Bundle.tN "UNASSIGNED_STACK" Bundle.steD) && decide (w ≠ .laysStatic Bundle.tN "SUPPRESSED_SENTINEL" Bundle.listD)
def vx_at0 (own : String) (ic : Nat) (X : String) (names : List String) : List Cond := (Bundle.ownAtoms0 own ic X names).filter vx_no
def vx_atS (own : String) (ic : Nat) (X : String) (names : List String) : List Cond := (Bundle.ownAtoms own ic X names).filter vx_no
/-- a word that the tables alone decide, or a good one -/
def vx_ot (w : Cond) : Bool := w.onTables || goodWord w
theorem vx_ot_at {args a' : Array Value} {s U : State} {w : Cond} (hW : s.WarmedH U.vm) (hvm : s.vm = U.vm) (hg : vx_ot w = true) (h : w.before args s = true) : w.before a' U = true := by
  simp only [vx_ot, Bool.or_eq_true] at hg
  rcases hg with hg | hg
  · exact va_tabs hg hvm h
  · exact word_at hW (good_of_word hg) h
/-- a list's words: the good ones out of the method's own list, the others by premises of their own -/
theorem vx_hat {args : Array Value} {s : State} {L B : List Cond} (h1 : ∀ w ∈ L.filter goodWord, w.before args s = true) (h2 : ∀ w ∈ L.filter (fun w => !goodWord w), w ∈ B) (h3 : ∀ w ∈ B, w.before args s = true) : ∀ w ∈ L, w.before args s = true := by
  intro w hw
  by_cases g : goodWord w = true
  · exact h1 w (List.mem_filter.mpr ⟨hw, g⟩)
  · refine h3 w (h2 w (List.mem_filter.mpr ⟨hw, ?_⟩))
    show (!goodWord w) = true
    cases hgw : goodWord w
    · rfl
    · exact absurd hgw g
theorem vx_c {args : Array Value} {s : State} {w : Cond} {B : List Cond} (h : w.before args s = true) (t : ∀ w ∈ B, w.before args s = true) : ∀ w' ∈ w :: B, w'.before args s = true := fun w' h' => (List.mem_cons.mp h').elim (fun e => by rw [e]; exact h) (t w')
theorem vx_n {args : Array Value} {s : State} : ∀ w ∈ ([] : List Cond), w.before args s = true := fun _ h => nomatch h
theorem vx_own {args : Array Value} {s : State} {L : List Cond} (h1 : ∀ w ∈ L.filter vx_no, w.before args s = true)
    (hU : (Cond.isRef (.static Bundle.tN "UNASSIGNED_STACK" Bundle.steD)).before args s = true) (hN : (Cond.isRef (.static Bundle.tN "SUPPRESSED_SENTINEL" Bundle.listD)).before args s = true)
    (lU : (Cond.laysStatic Bundle.tN "UNASSIGNED_STACK" Bundle.steD).before args s = true) (lN : (Cond.laysStatic Bundle.tN "SUPPRESSED_SENTINEL" Bundle.listD).before args s = true) : ∀ w ∈ L, w.before args s = true := by
  intro w hw
  by_cases e1 : w = .isRef (.static Bundle.tN "UNASSIGNED_STACK" Bundle.steD)
  · rw [e1]; exact hU
  · by_cases e2 : w = .isRef (.static Bundle.tN "SUPPRESSED_SENTINEL" Bundle.listD)
    · rw [e2]; exact hN
    · by_cases e3 : w = .laysStatic Bundle.tN "UNASSIGNED_STACK" Bundle.steD
      · rw [e3]; exact lU
      · by_cases e4 : w = .laysStatic Bundle.tN "SUPPRESSED_SENTINEL" Bundle.listD
        · rw [e4]; exact lN
        · exact h1 w (List.mem_filter.mpr ⟨hw, by unfold vx_no; rw [decide_eq_true e1, decide_eq_true e2, decide_eq_true e3, decide_eq_true e4]; rfl⟩)
/-- where a static field lies, its class's statics cell in H -/
def vx_L (C n d : String) (A : Nat → Prop) (U : State) (H : Heap) : Prop := ∃ (c : ClassId) (k : Class) (i : Nat) (f : Field) (a : Nat) (cell : Cell), U.vm.findClass C = some c ∧ U.fieldFound? C n d = some (c, k, i, f) ∧ f.isStatic = true ∧ k.statics = some a ∧ H[a]? = some cell ∧ cell.vm.isStatics = true ∧ cell.cls = c ∧ f.slot < cell.slots.size ∧ k.staticTypes[f.slot]? = some f.type ∧ ¬ A a
theorem vx_L.moved {C n d : String} {A : Nat → Prop} {u U : State} {H : Heap} (hvm : u.vm.Alike U.vm) (h : vx_L C n d A u H) : vx_L C n d A U H := by
  obtain ⟨c, k, i, f, a, cell, h1, h2, h3, h4, h5, h6, h7, h8, h9, h10⟩ := h
  obtain ⟨k', hi', he⟩ := State.fieldFound?_setVm hvm h2
  exact ⟨c, k', i, f, a, cell, by rw [hvm.findClass]; exact h1, hi', h3, by rw [he]; exact h4, h5, h6, h7, h8, by rw [he]; exact h9, h10⟩
theorem vx_L.kept {C n d : String} {A : Nat → Prop} {U : State} {H H1 : Heap} (h : vx_L C n d A U H) (hq : ∀ a : Nat, a < H.size → ¬ A a → H1[a]? = H[a]?) : vx_L C n d A U H1 := by
  obtain ⟨c, k, i, f, a, cell, h1, h2, h3, h4, h5, h6, h7, h8, h9, h10⟩ := h
  exact ⟨c, k, i, f, a, cell, h1, h2, h3, h4, by rw [hq a (Array.getElem?_eq_some_iff.mp h5).1 h10]; exact h5, h6, h7, h8, h9, h10⟩
theorem vx_L.narrow {C n d : String} {A B : Nat → Prop} {U : State} {H : Heap} (h : vx_L C n d A U H) (hAB : ∀ q, B q → A q) : vx_L C n d B U H := by
  obtain ⟨c, k, i, f, a, cell, h1, h2, h3, h4, h5, h6, h7, h8, h9, h10⟩ := h
  exact ⟨c, k, i, f, a, cell, h1, h2, h3, h4, h5, h6, h7, h8, h9, fun z => h10 (hAB _ z)⟩
theorem vx_L.word {C n d : String} {A : Nat → Prop} {s : State} {args : Array Value} (h : vx_L C n d A s s.heap) : (Cond.laysStatic C n d).before args s = true := by
  obtain ⟨c, k, i, f, a, cell, h1, h2, h3, h4, h5, h6, h7, h8, h9, -⟩ := h
  show (Cond.laysStatic C n d).holds args s none s [] = true
  exact Cond.laysStatic_of h1 h2 h3 h4 h5 h6 h7 h8 h9
/-- .. and what it holds: null or some reference -/
def vx_Zq (C n d : String) (A : Nat → Prop) (U : State) (H : Heap) : Prop := va_Zq C n d A U H ∧ vx_L C n d A U H
theorem vx_Zq.moved {C n d : String} {A : Nat → Prop} {u U : State} {H : Heap} (hvm : u.vm.Alike U.vm) (h : vx_Zq C n d A u H) : vx_Zq C n d A U H := ⟨va_Zq.moved hvm h.1, vx_L.moved hvm h.2⟩
theorem vx_Zq.kept {C n d : String} {A : Nat → Prop} {U : State} {H H1 : Heap} (h : vx_Zq C n d A U H) (hq : ∀ a : Nat, a < H.size → ¬ A a → H1[a]? = H[a]?) : vx_Zq C n d A U H1 := ⟨va_Zq.kept h.1 hq, vx_L.kept h.2 hq⟩
theorem vx_Zq.narrow {C n d : String} {A B : Nat → Prop} {U : State} {H : Heap} (h : vx_Zq C n d A U H) (hAB : ∀ q, B q → A q) : vx_Zq C n d B U H := ⟨va_Zq.narrow h.1 hAB, vx_L.narrow h.2 hAB⟩
theorem vx_Zqof {args : Array Value} {s : State} {C n d : String} {A : Nat → Prop} (hl : (Cond.laysStatic C n d).before args s = true) (hini : (Cond.initialized C).before args s = true) (h : (Cond.isRef (.static C n d)).before args s = true) (hA : ∀ a : Nat, a < s.heap.size → ¬ A a) : vx_Zq C n d A s s.heap := by
  refine ⟨va_Zqof hl hini h hA, ?_⟩
  obtain ⟨c, k, i, f, a, cell, h1, h2, h3, h4, h5, h6, h7, h8, h9⟩ := Cond.laysStatic_spec hl
  exact ⟨c, k, i, f, a, cell, h1, h2, h3, h4, h5, h6, h7, h8, h9, hA a (Array.getElem?_eq_some_iff.mp h5).1⟩
theorem vx_isRef {C n d : String} {v : Value} {A : Nat → Prop} {s : State} {args : Array Value} (h : va_Z C n d v A s s.heap) (hv : v.isRef = true) : (Cond.isRef (.static C n d)).before args s = true := by
  obtain ⟨cf, kf, fi, f, a, cell, h1, h2, h3, h4, h5, h6, h7, -⟩ := h
  have he : (Term.static C n d).eval args s none [] s = some v := by
    simp [Term.eval, State.fieldNamed?, h1, h2, h4, h5, h6, h7]
  simp only [Cond.before, Cond.holds, Cond.value, he]
  cases v <;> simp_all [Value.isRef]
theorem vx_isRefq {C n d : String} {A : Nat → Prop} {s : State} {args : Array Value} (h : va_Zq C n d A s s.heap) : (Cond.isRef (.static C n d)).before args s = true := by
  rcases h with h | ⟨t, h⟩
  · exact vx_isRef h rfl
  · exact vx_isRef h rfl
/-- the same frame, seen from here: as if the method were called anew in this heap -/
theorem vx_rebase {T : State} (X : Stand p l e R s m args below meth c T locs cells slots) {R' : Room} (hf : R'.frames ≤ R.frames) (hl : R'.locals ≤ R.locals) (hc : cells + R'.cells ≤ R.cells) (hs : slots + R'.slots ≤ R.slots) :
    Stand p l e R' ((T.setVm s.vm).setFrames (.invoking m args :: below)) m args below meth c T [] 0 0 := by
  have htop : (T.setVm s.vm).topJava?.isSome := X.here.top
  have hF : ((T.setVm s.vm).setFrames (.invoking m args :: below)).frames = .invoking m args :: below := State.frames_setFrames _ (State.cur_lt_of_top htop)
  obtain ⟨g₀, hg0⟩ := Option.isSome_iff_exists.mp htop
  obtain ⟨r, hr⟩ := State.topJava?_eq_some.mp hg0
  have hl9 : e.platform.stackLimits (T.setVm s.vm).me = e.platform.stackLimits s.me := X.limits
  have hb9 : (T.setVm s.vm).me.stackBytes = s.me.stackBytes := X.bytes
  refine ⟨X.admits, X.cas, X.clock, hF, ?_, X.hears, X.method, X.code, X.here, X.tail, X.warmed, ?_, ?_, ?_⟩
  · have h := X.room
    have hU : ((T.setVm s.vm).setFrames (.invoking m args :: below)).localsInUse = s.localsInUse := by
      rw [State.localsInUse_invoking hF (meth := meth) (c := c) X.method X.code, State.localsInUse_invoking X.frames X.method X.code]
    simp only [State.hasRoom, Bool.and_eq_true, decide_eq_true_eq] at h ⊢
    obtain ⟨⟨⟨⟨h1, h2, h3, h4, h5, h6⟩, h7⟩, h8⟩, h9⟩ := h
    rw [X.frames, List.length_cons] at h2 h3
    have q1 := X.heapSize
    have q2 := X.used
    simp only [hF, hU, List.length_cons, State.stackLimits_setFrames, State.stackBytes_setFrames, hl9, hb9]
    refine ⟨⟨⟨⟨by omega, by omega, by omega, by omega, by omega, h6⟩, ?_⟩, ?_⟩, X.book⟩
    · show T.heap.size + R'.cells ≤ e.platform.maxCells
      omega
    · show T.slotsUsed + R'.slots ≤ e.platform.maxSlots
      omega
  · rw [State.stackLimits_setFrames]; rfl
  · rw [State.stackBytes_setFrames]; rfl
  · refine ⟨?_, Nat.le_refl _, Nat.le_refl _, ?_, ?_, fun a c9 h9 => ⟨c9, h9, rfl, rfl, fun _ _ => rfl⟩⟩
    · obtain ⟨t, ht, -⟩ := State.frames_cons hr
      show T.setVm s.vm = { ((T.setVm s.vm).setFrames (.invoking m args :: below)).setFrames (T.setVm s.vm).frames with heap := T.heap, slotsUsed := T.slotsUsed }
      rw [State.setFrames_setFrames, State.setFrames_self ht]
      rfl
    · show T.slotsUsed = T.slotsUsed + ((T.heap.toList.drop T.heap.size).map (·.slots.size)).sum
      rw [List.drop_eq_nil_of_le (Nat.le_of_eq Array.length_toList)]
      rfl
    · show ((T.heap.toList.drop T.heap.size).map (·.slots.size)).sum ≤ 0
      rw [List.drop_eq_nil_of_le (Nat.le_of_eq Array.length_toList)]
      exact Nat.le_refl _
/-- 'throw new E()': new; dup; invokespecial; athrow -/
theorem vx_throw0 {cc : ByteArray} {pc : Nat} (hexec : p.tables.exec = Jvm.exec) (hb : c.code = cc) (hl : l.stackTraces = false) {own cls : String} {names : List String} {ik ic mc ms : Nat} {A : Nat → Prop}
    (hown : s.vm.findClass own = some m.cls) (hcls : Bundle.fit cls = true) (hnames : ∀ n ∈ names, Bundle.fit n = true)
    (hk : (Cond.classLink own ik cls).before args s = true) (hini : (Cond.initialized cls).before args s = true) (hat : ∀ w ∈ vx_at0 own ic cls names, w.before args s = true)
    (hgood : ∀ w ∈ Cond.classLink own ik cls :: Cond.initialized cls :: vx_at0 own ic cls names, vx_ot w = true)
    (hU : vx_Zq Bundle.tN "UNASSIGNED_STACK" Bundle.steD A s s.heap) (hN : vx_Zq Bundle.tN "SUPPRESSED_SENTINEL" Bundle.listD A s s.heap) (hS : va_S A s.heap H locs) (hsize : ls.size = c.maxLocals)
    (d0 : decode cc pc = .ok (.new ik, 3)) (d3 : decode cc (pc + 3) = .ok (.dup, 1)) (d4 : decode cc (pc + 4) = .ok (.invokespecial ic, 3)) (d7 : decode cc (pc + 7) = .ok (.athrow, 1))
    (hout : ∀ x ∈ c.exceptionTable.toList, covers x (pc + 7) = false)
    (hRframes : names.length + 3 < R.frames) (hRlocals : (rest.map fun v => v.category).sum + (13 * (names.length + 1) + 42) ≤ R.locals) (hRcells : cells + 1 ≤ R.cells) (hRslots : slots + 6 ≤ R.slots) (hlocks : meth.locks = false)
    (hx : ∀ t : State, s.vm.Alike t.vm → H.size ≤ t.heap.size → (∀ q : Nat, q < H.size → t.heap[q]? = H[q]?) → XC cls s t)
    (hf : ∀ z ∈ locs, free z.base) (hc : cells + 1 ≤ mc) (hs : slots + 6 ≤ ms) :
    W p l e R s m args below meth c H locs cells slots (vx_MQ below Qc XC args s mc ms free) (F0 m pc ls rest) := by
  intro T hT X
  have htr : e.platform.stackTraces = false := (show e.platform.stackTraces = l.stackTraces by rw [X.admits.platform]).trans hl
  have Y := vx_rebase X (R' := { frames := R.frames, locals := R.locals, cells := 1, slots := 6 }) (Nat.le_refl _) (Nat.le_refl _) hRcells hRslots
  obtain ⟨s', hA⟩ : ∃ z, z = (T.setVm s.vm).setFrames (.invoking m args :: below) := ⟨_, rfl⟩
  rw [← hA] at Y
  have hvm : s'.vm = s.vm := by rw [hA]; rfl
  have hhp : s'.heap = H := by rw [hA]; exact hT
  have hW0 : s.WarmedH s'.vm := by rw [hvm]; exact State.WarmedH.refl s
  have hat' : ∀ w ∈ vx_at0 own ic cls names, w.before args s' = true := fun w hw => vx_ot_at hW0 hvm.symm (hgood w (List.mem_cons_of_mem _ (List.mem_cons_of_mem _ hw))) (hat w hw)
  have hk' : (Cond.classLink own ik cls).before args s' = true := vx_ot_at hW0 hvm.symm (hgood _ List.mem_cons_self) hk
  have hini' : (Cond.initialized cls).before args s' = true := vx_ot_at hW0 hvm.symm (hgood _ (List.mem_cons_of_mem _ List.mem_cons_self)) hini
  have hU' : vx_Zq Bundle.tN "UNASSIGNED_STACK" Bundle.steD A s' s'.heap := by rw [hhp]; exact vx_Zq.moved hW0.alike (hU.kept hS.2.1)
  have hN' : vx_Zq Bundle.tN "SUPPRESSED_SENTINEL" Bundle.listD A s' s'.heap := by rw [hhp]; exact vx_Zq.moved hW0.alike (hN.kept hS.2.1)
  have h : ∀ w ∈ Bundle.ownAtoms0 own ic cls names, w.before args s' = true := vx_own hat' (vx_isRefq hU'.1) (vx_isRefq hN'.1) hU'.2.word hN'.2.word
  have hown' : s'.vm.findClass own = some m.cls := by rw [hvm]; exact hown
  have hins : (Cond.instantiable cls 6).before args s' = true := h _ (by simp [Bundle.ownAtoms0])
  obtain ⟨vm₁, cX, kX, hfX, hkX, -, -, X₁, st1⟩ := Y.newCold hexec (own := own) (C := cls) (index := ik) (n := 6) hown' hk' hins hini'
    (g := F0 m pc ls rest) rfl (by rw [hb]; exact d0) (Nat.le_refl _) (Nat.le_refl _)
  generalize hT1 : (T.setVm vm₁).pushCell { cls := cX, slots := kX.instanceTypes.map defaultValue, vm := .none } = T1 at X₁ st1
  have hcat : (Value.ref T.heap.size).category = 1 := rfl
  have hcellA : T1.heap[T.heap.size]? = some (freshCell cX kX) := by rw [← hT1]; exact State.heap_pushCell_size _ _
  have d3' : decode c.code (pc + 3) = .ok (.dup, 1) := by rw [hb]; exact d3
  obtain ⟨U, hsteps, hrun, hend, hW, hsame, ce, hce, hO⟩ := X₁.ctorThrow0 hexec htr (own := own) (cls := cls) (names := names) (ic := ic) hown' hcls hnames h (fun x hx => nomatch hx) hfX hkX hcellA (by rw [hhp, hT]; exact Nat.le_refl _)
    (g := { method := m, pc := pc + 4, locals := ls, stack := .ref T.heap.size :: .ref T.heap.size :: rest, locked := none }) rfl hsize rfl rfl (rest := rest) rfl
    (by rw [hb]; exact d4) (by rw [hb]; exact d7) hout hRframes (by simp only [List.map_cons, List.sum_cons, hcat]; omega) hlocks
  obtain ⟨f1, f2⟩ := vx_frame hsame
  rw [hhp] at f1 f2
  have hWs : s.WarmedH U.vm := State.WarmedH.trans hW0 hW
  have hcl : s.vm.findClass cls = some ce.cls := by
    have h9 := hO.cls
    rw [hvm] at h9
    exact h9
  have hall : s.sameButNew ({ U with vm := s.vm } : State) locs mc ms := by
    subst hA
    obtain ⟨e1, e2⟩ := hsame
    rw [State.setFrames_setFrames] at e1
    have h2 : (T.setVm s.vm).sameButNew ({ U with vm := s.vm } : State) [] (0 + 1) (0 + 6) := ⟨e1, e2⟩
    have h3 := X.same.trans h2
    rw [List.append_nil] at h3
    exact h3.mono hc hs
  refine ⟨U, ?_, .threw T.heap.size, hrun, hend, Or.inr ⟨T.heap.size, rfl, cls, ce, locs, hx U hWs.alike f1 (fun q hq => f2 q hq (fun z hz => nomatch hz)), hce, hO.vm, hcl, hWs, hall, hf⟩⟩
  refine st1 _ ?_
  show Steps p.tables e below (T1.setTop { method := m, pc := pc + 3, locals := ls, stack := .ref T.heap.size :: rest, locked := none }) _
  jvm_step X₁.here [X₁.here.top, hexec, d3', Value.category]
  exact hsteps
/-- 'throw new E("text")': new; dup; ldc; invokespecial; athrow -/
theorem vx_throwS {cc : ByteArray} {pc : Nat} (hexec : p.tables.exec = Jvm.exec) (hb : c.code = cc) (hl : l.stackTraces = false) {own cls text : String} {names : List String} {ik is ic mc ms sa : Nat} {A : Nat → Prop}
    (hown : s.vm.findClass own = some m.cls) (hcls : Bundle.fit cls = true) (hnames : ∀ n ∈ names, Bundle.fit n = true)
    (hk : (Cond.classLink own ik cls).before args s = true) (hini : (Cond.initialized cls).before args s = true) (hstr : vk_R own is text sa s) (hat : ∀ w ∈ vx_atS own ic cls names, w.before args s = true)
    (hgood : ∀ w ∈ Cond.classLink own ik cls :: Cond.initialized cls :: vx_atS own ic cls names, vx_ot w = true)
    (hU : vx_Zq Bundle.tN "UNASSIGNED_STACK" Bundle.steD A s s.heap) (hN : vx_Zq Bundle.tN "SUPPRESSED_SENTINEL" Bundle.listD A s s.heap) (hS : va_S A s.heap H locs) (hsize : ls.size = c.maxLocals)
    (d0 : decode cc pc = .ok (.new ik, 3)) (d3 : decode cc (pc + 3) = .ok (.dup, 1)) (d4 : decode cc (pc + 4) = .ok (.ldc is, 2)) (d6 : decode cc (pc + 6) = .ok (.invokespecial ic, 3)) (d9 : decode cc (pc + 9) = .ok (.athrow, 1))
    (hout : ∀ x ∈ c.exceptionTable.toList, covers x (pc + 9) = false)
    (hRframes : names.length + 3 < R.frames) (hRlocals : (rest.map fun v => v.category).sum + (13 * (names.length + 1) + 43) ≤ R.locals) (hRcells : cells + 1 ≤ R.cells) (hRslots : slots + 6 ≤ R.slots) (hlocks : meth.locks = false)
    (hx : ∀ t : State, s.vm.Alike t.vm → H.size ≤ t.heap.size → (∀ q : Nat, q < H.size → t.heap[q]? = H[q]?) → XC cls s t)
    (hf : ∀ z ∈ locs, free z.base) (hc : cells + 1 ≤ mc) (hs : slots + 6 ≤ ms) :
    W p l e R s m args below meth c H locs cells slots (vx_MQ below Qc XC args s mc ms free) (F0 m pc ls rest) := by
  intro T hT X
  have htr : e.platform.stackTraces = false := (show e.platform.stackTraces = l.stackTraces by rw [X.admits.platform]).trans hl
  have Y := vx_rebase X (R' := { frames := R.frames, locals := R.locals, cells := 1, slots := 6 }) (Nat.le_refl _) (Nat.le_refl _) hRcells hRslots
  obtain ⟨s', hA⟩ : ∃ z, z = (T.setVm s.vm).setFrames (.invoking m args :: below) := ⟨_, rfl⟩
  rw [← hA] at Y
  have hvm : s'.vm = s.vm := by rw [hA]; rfl
  have hhp : s'.heap = H := by rw [hA]; exact hT
  have hW0 : s.WarmedH s'.vm := by rw [hvm]; exact State.WarmedH.refl s
  have hat' : ∀ w ∈ vx_atS own ic cls names, w.before args s' = true := fun w hw => vx_ot_at hW0 hvm.symm (hgood w (List.mem_cons_of_mem _ (List.mem_cons_of_mem _ hw))) (hat w hw)
  have hk' : (Cond.classLink own ik cls).before args s' = true := vx_ot_at hW0 hvm.symm (hgood _ List.mem_cons_self) hk
  have hini' : (Cond.initialized cls).before args s' = true := vx_ot_at hW0 hvm.symm (hgood _ (List.mem_cons_of_mem _ List.mem_cons_self)) hini
  have hU' : vx_Zq Bundle.tN "UNASSIGNED_STACK" Bundle.steD A s' s'.heap := by rw [hhp]; exact vx_Zq.moved hW0.alike (hU.kept hS.2.1)
  have hN' : vx_Zq Bundle.tN "SUPPRESSED_SENTINEL" Bundle.listD A s' s'.heap := by rw [hhp]; exact vx_Zq.moved hW0.alike (hN.kept hS.2.1)
  have h : ∀ w ∈ Bundle.ownAtoms own ic cls names, w.before args s' = true := vx_own hat' (vx_isRefq hU'.1) (vx_isRefq hN'.1) hU'.2.word hN'.2.word
  have hown' : s'.vm.findClass own = some m.cls := by rw [hvm]; exact hown
  have hins : (Cond.instantiable cls 6).before args s' = true := h _ (by simp [Bundle.ownAtoms])
  obtain ⟨vm₁, cX, kX, hfX, hkX, -, -, X₁, st1⟩ := Y.newCold hexec (own := own) (C := cls) (index := ik) (n := 6) hown' hk' hins hini'
    (g := F0 m pc ls rest) rfl (by rw [hb]; exact d0) (Nat.le_refl _) (Nat.le_refl _)
  generalize hT1 : (T.setVm vm₁).pushCell { cls := cX, slots := kX.instanceTypes.map defaultValue, vm := .none } = T1 at X₁ st1
  have hcat : (Value.ref T.heap.size).category = 1 := rfl
  have hcellA : T1.heap[T.heap.size]? = some (freshCell cX kX) := by rw [← hT1]; exact State.heap_pushCell_size _ _
  have d3' : decode c.code (pc + 3) = .ok (.dup, 1) := by rw [hb]; exact d3
  have d4' : decode c.code (pc + 4) = .ok (.ldc is, 2) := by rw [hb]; exact d4
  have hstr' : vk_R own is text sa s' := vk_R.warm hW0 hstr
  obtain ⟨U, hsteps, hrun, hend, hW, hsame, ce, hce, hO⟩ := X₁.ctorThrowS hexec htr (own := own) (cls := cls) (names := names) (ic := ic) hown' hcls hnames h (fun x hx => nomatch hx) hfX hkX hcellA (by rw [hhp, hT]; exact Nat.le_refl _) (msg := .ref sa) rfl
    (g := { method := m, pc := pc + 6, locals := ls, stack := .ref sa :: .ref T.heap.size :: .ref T.heap.size :: rest, locked := none }) rfl hsize rfl rfl (rest := rest) rfl
    (by rw [hb]; exact d6) (by rw [hb]; exact d9) hout hRframes (by simp only [List.map_cons, List.sum_cons, hcat]; omega) hlocks
  obtain ⟨f1, f2⟩ := vx_frame hsame
  rw [hhp] at f1 f2
  have hWs : s.WarmedH U.vm := State.WarmedH.trans hW0 hW
  have hcl : s.vm.findClass cls = some ce.cls := by
    have h9 := hO.cls
    rw [hvm] at h9
    exact h9
  have hall : s.sameButNew ({ U with vm := s.vm } : State) locs mc ms := by
    subst hA
    obtain ⟨e1, e2⟩ := hsame
    rw [State.setFrames_setFrames] at e1
    have h2 : (T.setVm s.vm).sameButNew ({ U with vm := s.vm } : State) [] (0 + 1) (0 + 6) := ⟨e1, e2⟩
    have h3 := X.same.trans h2
    rw [List.append_nil] at h3
    exact h3.mono hc hs
  refine ⟨U, ?_, .threw T.heap.size, hrun, hend, Or.inr ⟨T.heap.size, rfl, cls, ce, locs, hx U hWs.alike f1 (fun q hq => f2 q hq (fun z hz => nomatch hz)), hce, hO.vm, hcl, hWs, hall, hf⟩⟩
  refine st1 _ ?_
  show Steps p.tables e below (T1.setTop { method := m, pc := pc + 3, locals := ls, stack := .ref T.heap.size :: rest, locked := none }) _
  jvm_step X₁.here [X₁.here.top, hexec, d3', Value.category]
  exact X₁.ldcString hexec (own := own) (text := text) (index := is) (a := sa) hown' hstr'.1 hstr'.2
    (g := { method := m, pc := pc + 4, locals := ls, stack := .ref T.heap.size :: .ref T.heap.size :: rest, locked := none }) rfl d4' _ hsteps
/-- 'throw new E("text")', the text by a wide index -/
theorem vx_throwSW {cc : ByteArray} {pc : Nat} (hexec : p.tables.exec = Jvm.exec) (hb : c.code = cc) (hl : l.stackTraces = false) {own cls text : String} {names : List String} {ik is ic mc ms sa : Nat} {A : Nat → Prop}
    (hown : s.vm.findClass own = some m.cls) (hcls : Bundle.fit cls = true) (hnames : ∀ n ∈ names, Bundle.fit n = true)
    (hk : (Cond.classLink own ik cls).before args s = true) (hini : (Cond.initialized cls).before args s = true) (hstr : vk_R own is text sa s) (hat : ∀ w ∈ vx_atS own ic cls names, w.before args s = true)
    (hgood : ∀ w ∈ Cond.classLink own ik cls :: Cond.initialized cls :: vx_atS own ic cls names, vx_ot w = true)
    (hU : vx_Zq Bundle.tN "UNASSIGNED_STACK" Bundle.steD A s s.heap) (hN : vx_Zq Bundle.tN "SUPPRESSED_SENTINEL" Bundle.listD A s s.heap) (hS : va_S A s.heap H locs) (hsize : ls.size = c.maxLocals)
    (d0 : decode cc pc = .ok (.new ik, 3)) (d3 : decode cc (pc + 3) = .ok (.dup, 1)) (d4 : decode cc (pc + 4) = .ok (.ldc_w is, 3)) (d7 : decode cc (pc + 7) = .ok (.invokespecial ic, 3)) (d10 : decode cc (pc + 10) = .ok (.athrow, 1))
    (hout : ∀ x ∈ c.exceptionTable.toList, covers x (pc + 10) = false)
    (hRframes : names.length + 3 < R.frames) (hRlocals : (rest.map fun v => v.category).sum + (13 * (names.length + 1) + 43) ≤ R.locals) (hRcells : cells + 1 ≤ R.cells) (hRslots : slots + 6 ≤ R.slots) (hlocks : meth.locks = false)
    (hx : ∀ t : State, s.vm.Alike t.vm → H.size ≤ t.heap.size → (∀ q : Nat, q < H.size → t.heap[q]? = H[q]?) → XC cls s t)
    (hf : ∀ z ∈ locs, free z.base) (hc : cells + 1 ≤ mc) (hs : slots + 6 ≤ ms) :
    W p l e R s m args below meth c H locs cells slots (vx_MQ below Qc XC args s mc ms free) (F0 m pc ls rest) := by
  intro T hT X
  have htr : e.platform.stackTraces = false := (show e.platform.stackTraces = l.stackTraces by rw [X.admits.platform]).trans hl
  have Y := vx_rebase X (R' := { frames := R.frames, locals := R.locals, cells := 1, slots := 6 }) (Nat.le_refl _) (Nat.le_refl _) hRcells hRslots
  obtain ⟨s', hA⟩ : ∃ z, z = (T.setVm s.vm).setFrames (.invoking m args :: below) := ⟨_, rfl⟩
  rw [← hA] at Y
  have hvm : s'.vm = s.vm := by rw [hA]; rfl
  have hhp : s'.heap = H := by rw [hA]; exact hT
  have hW0 : s.WarmedH s'.vm := by rw [hvm]; exact State.WarmedH.refl s
  have hat' : ∀ w ∈ vx_atS own ic cls names, w.before args s' = true := fun w hw => vx_ot_at hW0 hvm.symm (hgood w (List.mem_cons_of_mem _ (List.mem_cons_of_mem _ hw))) (hat w hw)
  have hk' : (Cond.classLink own ik cls).before args s' = true := vx_ot_at hW0 hvm.symm (hgood _ List.mem_cons_self) hk
  have hini' : (Cond.initialized cls).before args s' = true := vx_ot_at hW0 hvm.symm (hgood _ (List.mem_cons_of_mem _ List.mem_cons_self)) hini
  have hU' : vx_Zq Bundle.tN "UNASSIGNED_STACK" Bundle.steD A s' s'.heap := by rw [hhp]; exact vx_Zq.moved hW0.alike (hU.kept hS.2.1)
  have hN' : vx_Zq Bundle.tN "SUPPRESSED_SENTINEL" Bundle.listD A s' s'.heap := by rw [hhp]; exact vx_Zq.moved hW0.alike (hN.kept hS.2.1)
  have h : ∀ w ∈ Bundle.ownAtoms own ic cls names, w.before args s' = true := vx_own hat' (vx_isRefq hU'.1) (vx_isRefq hN'.1) hU'.2.word hN'.2.word
  have hown' : s'.vm.findClass own = some m.cls := by rw [hvm]; exact hown
  have hins : (Cond.instantiable cls 6).before args s' = true := h _ (by simp [Bundle.ownAtoms])
  obtain ⟨vm₁, cX, kX, hfX, hkX, -, -, X₁, st1⟩ := Y.newCold hexec (own := own) (C := cls) (index := ik) (n := 6) hown' hk' hins hini'
    (g := F0 m pc ls rest) rfl (by rw [hb]; exact d0) (Nat.le_refl _) (Nat.le_refl _)
  generalize hT1 : (T.setVm vm₁).pushCell { cls := cX, slots := kX.instanceTypes.map defaultValue, vm := .none } = T1 at X₁ st1
  have hcat : (Value.ref T.heap.size).category = 1 := rfl
  have hcellA : T1.heap[T.heap.size]? = some (freshCell cX kX) := by rw [← hT1]; exact State.heap_pushCell_size _ _
  have d3' : decode c.code (pc + 3) = .ok (.dup, 1) := by rw [hb]; exact d3
  have d4' : decode c.code (pc + 4) = .ok (.ldc_w is, 3) := by rw [hb]; exact d4
  have hstr' : vk_R own is text sa s' := vk_R.warm hW0 hstr
  obtain ⟨U, hsteps, hrun, hend, hW, hsame, ce, hce, hO⟩ := X₁.ctorThrowS hexec htr (own := own) (cls := cls) (names := names) (ic := ic) hown' hcls hnames h (fun x hx => nomatch hx) hfX hkX hcellA (by rw [hhp, hT]; exact Nat.le_refl _) (msg := .ref sa) rfl
    (g := { method := m, pc := pc + 7, locals := ls, stack := .ref sa :: .ref T.heap.size :: .ref T.heap.size :: rest, locked := none }) rfl hsize rfl rfl (rest := rest) rfl
    (by rw [hb]; exact d7) (by rw [hb]; exact d10) hout hRframes (by simp only [List.map_cons, List.sum_cons, hcat]; omega) hlocks
  obtain ⟨f1, f2⟩ := vx_frame hsame
  rw [hhp] at f1 f2
  have hWs : s.WarmedH U.vm := State.WarmedH.trans hW0 hW
  have hcl : s.vm.findClass cls = some ce.cls := by
    have h9 := hO.cls
    rw [hvm] at h9
    exact h9
  have hall : s.sameButNew ({ U with vm := s.vm } : State) locs mc ms := by
    subst hA
    obtain ⟨e1, e2⟩ := hsame
    rw [State.setFrames_setFrames] at e1
    have h2 : (T.setVm s.vm).sameButNew ({ U with vm := s.vm } : State) [] (0 + 1) (0 + 6) := ⟨e1, e2⟩
    have h3 := X.same.trans h2
    rw [List.append_nil] at h3
    exact h3.mono hc hs
  refine ⟨U, ?_, .threw T.heap.size, hrun, hend, Or.inr ⟨T.heap.size, rfl, cls, ce, locs, hx U hWs.alike f1 (fun q hq => f2 q hq (fun z hz => nomatch hz)), hce, hO.vm, hcl, hWs, hall, hf⟩⟩
  refine st1 _ ?_
  show Steps p.tables e below (T1.setTop { method := m, pc := pc + 3, locals := ls, stack := .ref T.heap.size :: rest, locked := none }) _
  jvm_step X₁.here [X₁.here.top, hexec, d3', Value.category]
  exact X₁.ldcStringW hexec (own := own) (text := text) (index := is) (a := sa) hown' hstr'.1 hstr'.2
    (g := { method := m, pc := pc + 4, locals := ls, stack := .ref T.heap.size :: .ref T.heap.size :: rest, locked := none }) rfl d4' _ hsteps
end Ends
section Bodies
variable {l : Launch}
theorem vx_ofW {y : MethodName} {ws ws' : List Cond} {rm : Room} {Pc : Array Value → State → Prop} {Qc : Array Value → State → Outcome → State → Prop} {XC : String → State → State → Prop} {mc ms : Nat} {free : Addr → Prop} {cc : ByteArray} {maxL : Nat} {ret : Option FieldType}
    (hy : plainName y.cls = true) (hw : ws = Cond.code y cc maxL ret :: ws')
    (body : ∀ p e s m args below meth c s₁, BodyLoose p l y (headSpec ws rm) cc maxL ret e s m args below meth c s₁ → c.maxLocals = maxL → (∀ x ∈ c.exceptionTable.toList, False) → Pc args s →
      W p l e (headSpec ws rm).room s m args below meth c s.heap [] 0 0 (vx_MQ below Qc XC args s mc ms free) (entryFrame m args maxL)) : vx_Met l y ws rm Pc Qc XC mc ms free := by
  refine MetFree.of_bodyS (code := cc) (maxLocals := maxL) (ret := ret) hy ?_ ?_
  · intro args s m h hn
    obtain ⟨meth, c, h1, h2, h3, h4, h5, h6, -, -⟩ := Cond.code_spec hn (atoms_spec (ws := ws) h _ (by rw [hw]; exact List.mem_cons_self))
    exact ⟨meth, c, h1, h2, h3, h4, h5, h6⟩
  · intro p e s m args below meth c s₁ B hml hP _
    have hh0 : s₁.heap = s.heap := by rw [B.state]; rfl
    have ht : ∀ x ∈ c.exceptionTable.toList, False := by
      obtain ⟨meth9, c9, h1, h2, -, -, -, -, h7, -⟩ := Cond.code_spec B.named (atoms_spec (ws := ws) B.pre _ (by rw [hw]; exact List.mem_cons_self))
      cases Option.some.inj (h1.symm.trans B.method)
      cases Option.some.inj (h2.symm.trans (Stand.of_body B).code)
      intro x hx
      rw [Array.isEmpty_iff.mp h7] at hx
      cases hx
    obtain ⟨t, a1, o, b1, b2, b3⟩ := body p e s m args below meth c s₁ B hml ht hP s₁ hh0 (Stand.of_body B)
    exact ⟨t, o, a1, b1, b2, b3⟩
/-- the table of a body with handlers -/
theorem vx_table {p : Program} {x y : MethodName} {S : Spec} {cc bytes : ByteArray} {maxL maxL' : Nat} {ret ret' : Option FieldType} {e : Env} {s s₁ : State} {m : MethodId} {args : Array Value} {below : List Frame} {meth : Method} {c : Code} {hh : List (Nat × Nat × Nat × Nat)}
    (B : BodyLoose p l y S cc maxL ret e s m args below meth c s₁) (h : (Cond.codeWith y bytes maxL' ret' hh).before args s = true) : c.exceptionTable.toList = tableOf hh := by
  obtain ⟨m9, meth9, c9, hn9, h1, h2, -, -, h6, -⟩ := Cond.codeWith_spec h
  cases Option.some.inj (hn9.symm.trans B.named)
  cases Option.some.inj (h1.symm.trans B.method)
  cases Option.some.inj (h2.symm.trans (Stand.of_body B).code)
  rw [← h6, table_eq]
end Bodies
end VXA
/-! ===== END ===== -/
/-! ===== BEGIN a static call of a method with an exception table ===== -/
section VXS
variable {p : Program} {l : Launch} {e : Env} {R : Room} {s : State} {m : MethodId} {args : Array Value} {below : List Frame} {meth : Method} {c : Code} {T : State} {H : Heap} {locs : List Loc} {cells slots : Nat}
abbrev vx_CSW (R : Room) (s : State) (args : Array Value) (own : String) (index : Nat) (y : MethodName) (bytes : ByteArray) (maxL : Nat) (ret : Option FieldType) (hh : List (Nat × Nat × Nat × Nat)) (ws : List Cond) (rm : Room) (mc ms n : Nat) : Prop :=
  (rm.cells = mc ∧ rm.slots = ms ∧ rm.frames + 1 ≤ R.frames ∧ 8 + (maxL + 11) + rm.locals ≤ R.locals ∧ (∀ w ∈ ws, ∀ (a' : Array Value) (U : State), s.WarmedH U.vm → w.before a' U = true) ∧ Cond.codeWith y bytes maxL ret hh ∈ ws) ∧
  (Cond.codeWith y bytes maxL ret hh).before args s = true ∧ (Cond.initialized y.cls).before args s = true ∧ (y.cls ≠ "java/lang/invoke/MethodHandle" ∧ y.cls ≠ "java/lang/invoke/VarHandle") ∧
  (∀ sig, parseMethodDescriptor y.desc = some sig → n = sig.parameters.length) ∧ (Cond.methodLink own index y).before args s = true ∧ (Cond.static y).before args s = true
theorem vx_cwSW {own : String} {index maxL mc ms : Nat} {y : MethodName} {bytes : ByteArray} {ret : Option FieldType} {hh : List (Nat × Nat × Nat × Nat)} {Ts ws ws' : List Cond} {rm : Room} (n : Nat) (ht : ∀ w ∈ Ts, w.before args s = true) (hT : GoodIn Ts (va_wsS own index y ws)) (hw : ws = Cond.codeWith y bytes maxL ret hh :: ws') (hrc : rm.cells = mc) (hrs : rm.slots = ms)
    (hd : y.cls ≠ "java/lang/invoke/MethodHandle" ∧ y.cls ≠ "java/lang/invoke/VarHandle" ∧ (parseMethodDescriptor y.desc).map (fun d => d.parameters.length) = some n) (hR : rm.frames + 1 ≤ R.frames ∧ 8 + (maxL + 11) + rm.locals ≤ R.locals) :
    vx_CSW R s args own index y bytes maxL ret hh ws rm mc ms n := by
  have ok : ∀ w ∈ va_wsS own index y ws, w.before args s = true := fun w h => ht w (hT w h).1
  have hG : GoodIn Ts ws := fun w h => hT w (by unfold va_wsS; exact List.mem_append_right _ h)
  have hc : Cond.codeWith y bytes maxL ret hh ∈ ws := by rw [hw]; exact List.mem_cons_self
  refine ⟨⟨hrc, hrs, hR.1, hR.2, pay_in ht hG, hc⟩, ht _ (hG _ hc).1, ok _ (by simp [va_wsS]), ⟨hd.1, hd.2.1⟩, fun sig h => ?_, ok _ (by simp [va_wsS]), ok _ (by simp [va_wsS])⟩
  have h2 := hd.2.2
  rw [h] at h2
  exact (Option.some.inj h2).symm
theorem vx_callSW (X : Stand p l e R s m args below meth c T locs cells slots) (hexec : p.tables.exec = Jvm.exec) {own : String} {index : Nat} {y : MethodName} {bytes : ByteArray} {maxL : Nat} {ret : Option FieldType} {hh : List (Nat × Nat × Nat × Nat)}
    (hown : s.vm.findClass own = some m.cls) (hlink : (Cond.methodLink own index y).before args s = true) (hstat : (Cond.static y).before args s = true) (hinit : (Cond.initialized y.cls).before args s = true)
    (hcode : (Cond.codeWith y bytes maxL ret hh).before args s = true) (hy : y.cls ≠ "java/lang/invoke/MethodHandle" ∧ y.cls ≠ "java/lang/invoke/VarHandle")
    {W9 : Nat} {Pre : Pt → Array Value → Prop} {Post : Pt → Array Value → Option Value → Pt → Prop} (hK : Back l R p e below s args y 3 W9 Pre Post)
    {g : JFrame} (hg : g.method = m) (hsize : g.locals.size = c.maxLocals) {argsL rest : List Value} (hlen : ∀ sig, parseMethodDescriptor y.desc = some sig → argsL.length = sig.parameters.length)
    (hstack : g.stack = argsL.reverse ++ rest) (hW : 2 * g.monitorRoom + (rest.map fun v => v.category).sum ≤ W9) (hdg : decode c.code g.pc = .ok (.invokestatic index, 3))
    (hpre : ∀ vm₁, s.WarmedH vm₁ → Pre ⟨T.setVm vm₁, locs, cells, slots⟩ argsL.toArray) :
    ∃ (v : Option Value) (vm₁ : Vm) (B : Pt), s.WarmedH vm₁ ∧ Stand p l e R s m args below meth c B.U B.locs B.cells B.slots ∧ Post ⟨T.setVm vm₁, locs, cells, slots⟩ argsL.toArray v B ∧
      ∀ target, Steps p.tables e below (B.U.setTop { g with pc := g.pc + 3, stack := v.toList ++ rest }) target → Steps p.tables e below (T.setTop g) target := by
  obtain ⟨mk, methM, cM, hnamed, hmethM, -, -, -, -, -, -, hsigM⟩ := Cond.codeWith_spec hcode
  have hstatic : methM.isStatic = true := Cond.static_spec hnamed hmethM hstat
  obtain ⟨kP, hkP, -⟩ := className_of_methodNamed hnamed
  have hinitP : kP.init = .initialized := Cond.initialized_spec (findClass_of_methodNamed hnamed) hkP hinit
  obtain ⟨vm₁, X₁, hstep₁⟩ := X.invokestatic hexec hown hlink hnamed hmethM hstatic hkP hinitP hy (g := g) hg (argsL := argsL) (rest := rest) (hlen _ hsigM) hstack hdg
  obtain ⟨v, B, X', hpost, hsteps⟩ := hK m meth c ⟨T.setVm vm₁, locs, cells, slots⟩ { g with stack := rest } (.invokestatic index) mk argsL.toArray X₁ hg hsize hdg hW (X₁.named hnamed) (hpre vm₁ X₁.warmed)
  exact ⟨v, vm₁, B, X₁.warmed, X', hpost, fun target h => hstep₁ _ fun acts => by rw [doInvoke_state]; exact hsteps.trans h⟩
theorem vx_runSW {y : MethodName} {bytes cc : ByteArray} {maxL nL mc ms n index : Nat} {ret : Option FieldType} {hh : List (Nat × Nat × Nat × Nat)} {ws : List Cond} {rm : Room} {Pc : Array Value → State → Prop} {Qc : Array Value → State → Outcome → State → Prop} {free : Addr → Prop} {Ts : List Cond} {own : String} {As rest : List Value} {g : JFrame}
    (S : CallFix p m c cc nL s args Ts own) (hM : Met l y ws rm Pc Qc mc ms free) (cw : vx_CSW R s args own index y bytes maxL ret hh ws rm mc ms n) (hp : PreS s H Pc As)
    (hg : g.method = m) (hn : As.length = n) (hsize : g.locals.size = nL) (hstack : g.stack = As.reverse ++ rest) (hW : 2 * g.monitorRoom + (rest.map fun v => v.category).sum ≤ 8) (hdg : decode cc g.pc = .ok (.invokestatic index, 3)) (hf : cells + mc ≤ R.cells ∧ slots + ms ≤ R.slots) :
    va_Run p l e R s m args below meth c H locs cells slots mc ms g rest (Qc As.toArray) (free) := by
  obtain ⟨⟨hrc, hrs, hfr, hlo, hws, hcw⟩, hcode, hini, hy, hlen, hl, hstt⟩ := cw
  have hK : Back l R p e below s args y 3 8 (PreOf R mc ms Pc) (PostOf Qc mc ms free) := va_backW (hh := hh) (bytes := bytes) (maxL := maxL) (ret := ret) hM hp.1 hrc hrs hfr hlo hws hcw (fun a' U hW => word_at hW (Or.inl (by first | rfl | simp [Cond.onTables, Cond.keeps, Cond.steady])) hini)
  obtain ⟨hx, hb, hml, ho, -⟩ := S
  intro T hT X
  obtain ⟨v, vm₁, ⟨U', l2, c2, s2⟩, hW₁, X', ⟨g', mk, t, L, e1, e2, hq, h1, hL, h2, h3⟩, st⟩ := vx_callSW X hx (hh := hh) (bytes := bytes) (maxL := maxL) (ret := ret) ho hl hstt hini hcode hy hK hg (hsize.trans hml.symm) (argsL := As) (rest := rest) (fun sig h => hn.trans (hlen sig h)) hstack hW (by rw [hb]; exact hdg)
    (fun vm₁ hW₁ => ⟨hf.1, hf.2, hp.2 (T.setVm vm₁) hT hW₁⟩)
  dsimp only [Pt.U, Pt.locs, Pt.cells, Pt.slots] at X' e1 e2 h1 h2 h3 st
  subst h1; subst h2; subst h3
  exact ⟨v, (T.setVm vm₁).calling g' mk As.toArray, t, U', L, hT, X', hL, e1, e2, hq, st⟩
/-- not caught here, past rows that name other classes: it goes on to the caller -/
theorem vx_outP {p : Program} {l : Launch} {e : Env} {R : Room} {s : State} {m : MethodId} {args : Array Value} {below : List Frame} {meth : Method} {c : Code} {H : Heap} {locs : List Loc} {cells slots : Nat} {free : Addr → Prop} {ls : Array Slot} {rest : List Value} {Qc : Array Value → State → Outcome → State → Prop} {XC : String → State → State → Prop}
    {pc : Nat} {own E : String} {ce : Cell} {q : Addr} {mc ms : Nat} (hown : s.vm.findClass own = some m.cls) (hlocks : meth.locks = false)
    (hpass : ∀ z ∈ c.exceptionTable.toList, covers z pc = false ∨ (z.catchType ≠ 0 ∧ ∃ nm : String, (Cond.classLink own z.catchType nm).before args s = true ∧ va_Nc E nm s)) (hcell : H[q]? = some ce) (hv : ce.vm = .none) (hcl : s.vm.findClass E = some ce.cls)
    (hx : ∀ t : State, t.heap = H → s.vm.Alike t.vm → XC E s t) (hf : ∀ z ∈ locs, free z.base) (hc : cells ≤ mc) (hs : slots ≤ ms) :
    vx_W p l e R s m args below meth c H locs cells slots (vx_MQ below Qc XC args s mc ms free) (F0 m pc ls rest) q := by
  intro T hT X
  have hpl : e.platform.magicAccessors = ({} : Platform).magicAccessors := by rw [X.admits.platform]
  obtain ⟨vm', hW', X', st⟩ := X.outThrough hlocks q (g := F0 m pc ls rest) rfl rfl rfl (cell := ce) (by rw [hT]; exact hcell) (by rw [hv]; rfl)
    (by obtain ⟨k9, h9, -⟩ := Vm.findClass_spec hcl; exact ⟨k9, h9⟩) (fun z hz => by
      rcases hpass z hz with h | ⟨hz0, nm, hl1, hn1⟩
      · exact Or.inl h
      · obtain ⟨c6, hc6, hcl6⟩ := Cond.classLink_spec hown hl1 e.platform hpl
        obtain ⟨a8, b8, h1, h2, h3⟩ := hn1
        cases Option.some.inj (h1.symm.trans hcl)
        cases Option.some.inj (h2.symm.trans hc6)
        exact Or.inr ⟨hz0, _, hcl6, h3⟩)
  obtain ⟨g₀, hfr⟩ := X'.frames_eq
  have hcell9 : ((T.setVm vm').setFrames (.throwing q :: below)).heap[q]? = some ce := by
    show T.heap[q]? = some ce
    rw [hT]; exact hcell
  have hend : Ended ((T.setVm vm').setFrames (.throwing q :: below)) below (.threw q) := State.frames_setFrames _ (State.cur_lt_of_frames hfr)
  refine ⟨(T.setVm vm').setFrames (.throwing q :: below), ?_, .threw q, X'.here.running, hend, Or.inr ⟨q, rfl, E, ce, locs, hx _ hT (X'.ends _).1.alike, hcell9, hv, hcl, (X'.ends _).1, (X'.ends _).2.mono hc hs, hf⟩⟩
  rw [X.pushThrowing_eq]
  exact st
/-- a thing of a world lies in the heap -/
theorem vx_lt {D : va_G} {cl : List vw_C} {ws : va_W} {H1 : Heap} (h : va_P D cl ws H1) {k : Nat} {q : Nat × va_E} (hk : ws[k]? = some q) : q.1 < H1.size := (h k q hk).lt
end VXS
/-! ===== END ===== -/
/-! ===== BEGIN methods with a table of their own: called by a name, returning or throwing ===== -/
section VXH
/-! vx_backW, vx_callVX, vx_callSX, vx_callVW, vx_runVW, vx_runVX, vx_runSX, vx_ofWH follow the same proofs as their sisters above (Free/Laws.lean, Shelf42/LK1.lean); vx_outP calls Shelf42/NT130.lean (outThrough). -/
section
variable {l : Launch} {R : Room} {p : Program} {e : Env} {below : List Frame} {s : State} {sargs : Array Value} {y : MethodName} {len W9 : Nat}
theorem vx_backW {ws : List Cond} {rm : Room} {Pc : Array Value → State → Prop} {Qc : Array Value → State → Outcome → State → Prop} {XC : String → State → State → Prop} {mc ms : Nat} {free : Addr → Prop} {bytes : ByteArray} {maxL : Nat} {ret : Option FieldType} {hh : List (Nat × Nat × Nat × Nat)}
    (hM : vx_Met l y ws rm Pc Qc XC mc ms free) (hblind : FrameBlind Pc) (hrc : rm.cells = mc) (hrs : rm.slots = ms)
    (hframes : rm.frames + 1 ≤ R.frames) (hlocals : W9 + (maxL + 11) + rm.locals ≤ R.locals)
    (hws : ∀ w ∈ ws, ∀ a' U, s.WarmedH U.vm → w.before a' U = true) (hcode : Cond.codeWith y bytes maxL ret hh ∈ ws) (hinit : ∀ a' U, s.WarmedH U.vm → (Cond.initialized y.cls).before a' U = true) :
    vx_Back l R p e below s sargs y len W9 (PreOf R mc ms Pc) (PostOf Qc mc ms free) (vx_Post XC mc ms free) := by
  intro m meth c A g ig mk a X hg hsize hdg hW hn hp
  have h1 : (headSpec ws rm).pre.before a A.U = true := atoms_intro fun w hw => hws w hw _ _ X.warmed
  have h2 : (Cond.codeWith y bytes maxL ret hh).before a A.U = true := hws _ hcode _ _ X.warmed
  have h3 : (Cond.initialized y.cls).before a A.U = true := hinit _ _ X.warmed
  have h4 : A.cells + (headSpec ws rm).room.cells ≤ R.cells := by rw [show (headSpec ws rm).room.cells = mc from hrc]; exact hp.1
  have h5 : A.slots + (headSpec ws rm).room.slots ≤ R.slots := by rw [show (headSpec ws rm).room.slots = ms from hrs]; exact hp.2.1
  have hPc : Pc a (A.U.calling g mk a) := hblind _ _ _ _ hp.2.2
  obtain ⟨U, Ls, c0, s0⟩ := A
  dsimp only [Pt.U, Pt.locs, Pt.cells, Pt.slots] at h1 h2 h3 h4 h5 X hn hPc ⊢
  obtain ⟨m9, methY, cY, hn9, hmY, hcY, -, hlY, -⟩ := Cond.codeWith_spec h2
  cases Option.some.inj (hn9.symm.trans hn)
  obtain ⟨kY, hkY, -⟩ := className_of_methodNamed hn
  have hinitY : kY.init = .initialized := Cond.initialized_spec (findClass_of_methodNamed hn) hkY h3
  have h : At U g.method c below := by rw [hg]; exact X.here
  have hlocals9 : W9 + (maxL + 11) + (headSpec ws rm).room.locals ≤ R.locals := hlocals
  have happ : (headSpec ws rm).appliesLoose y e.platform (U.calling g mk a) = true :=
    Spec.appliesLoose_calling (g := g) h hdg hn hkY hinitY
      (X.room_calling (g := g) (R' := (headSpec ws rm).room) hsize hmY hcY hframes (by rw [hlY]; omega) h4 h5) h1
  obtain ⟨mid, hmid⟩ := h.above
  have hfr : (U.setTop g).frames = (.java g :: mid) ++ below := by rw [State.frames_setTop' g h.top, hmid]; rfl
  obtain ⟨o, s₂, hsteps, -, hend, hq⟩ := Steps.callFree hM p X.admits X.cas X.clock (acts := []) hfr happ hPc trivial
  have hq' : vx_Q Qc XC mc ms free a (U.calling g mk a) o s₂ := hq
  rw [State.frames_setTop' g h.top] at hend
  obtain ⟨g₀, hg0⟩ := Option.isSome_iff_exists.mp h.top
  obtain ⟨r, hr⟩ := State.topJava?_eq_some.mp hg0
  have hr' : (({ U with heap := s₂.heap, slotsUsed := s₂.slotsUsed } : State).setVm s₂.vm).frames = .java g₀ :: r := hr
  rcases hq' with ⟨hqc, L, hfe, hL⟩ | ⟨q, rfl, E, ce, L, hx, hce, hcv, hcl, hW₂, hsm, hL⟩
  · obtain ⟨⟨v, rfl⟩, hW₂, e2, q2, q3, q4, q5, q6⟩ := id hfe
    have e3 : s₂ = ({ (U.calling g mk a).setFrames s₂.frames with heap := s₂.heap, slotsUsed := s₂.slotsUsed } : State).setVm s₂.vm := by
      have : s₂ = ({ s₂ with vm := (U.calling g mk a).vm } : State).setVm s₂.vm := rfl
      rw [e2] at this
      exact this
    obtain ⟨c₂, i₂, len₂, hc₂, hd₂, hf₂⟩ := hend
    have hW' : U.WarmedH s₂.vm := hW₂
    have hcc : c₂ = c := by
      have h1 : s₂.code? g.method = U.code? g.method := by
        rw [State.code?_eq, State.code?_eq, hW'.alike.method?]
      exact Option.some.inj (hc₂.symm.trans (h1.trans h.code))
    subst hcc
    have hlen : len₂ = len := by rw [hdg] at hd₂; cases hd₂; rfl
    subst hlen
    have hs₂ : s₂ = (({ U with heap := s₂.heap, slotsUsed := s₂.slotsUsed } : State).setVm s₂.vm).setTop { g with pc := g.pc + len₂, stack := v.toList ++ g.stack } := by
      refine e3.trans ?_
      rw [hf₂, State.calling_eq h.top, State.setFrames_setFrames, State.setTop_of_frames _ hr', hr]
      rfl
    have hsame : U.sameButNew ({ U with heap := s₂.heap, slotsUsed := s₂.slotsUsed } : State) L mc ms := by
      refine ⟨?_, q2, q3, q4, q5, q6⟩
      obtain ⟨t, ht, -⟩ := State.frames_cons hr
      show ({ U with heap := s₂.heap, slotsUsed := s₂.slotsUsed } : State) = { U.setFrames U.frames with heap := s₂.heap, slotsUsed := s₂.slotsUsed }
      rw [State.setFrames_self ht]
    subst hg
    refine Or.inl ⟨v, ⟨(({ U with heap := s₂.heap, slotsUsed := s₂.slotsUsed } : State).setVm s₂.vm), Ls ++ L, c0 + mc, s0 + ms⟩,
      ⟨X.admits, X.cas, X.clock, X.frames, X.room, X.hears, X.method, X.code, (X.here.setHeapUsed s₂.heap s₂.slotsUsed).setVm hW'.alike, X.tail, State.WarmedH.trans X.warmed hW', X.limits, X.bytes, X.same.trans (hsame.setVm s.vm)⟩,
      ⟨g, mk, s₂, L, rfl, rfl, hqc, rfl, hL, rfl, rfl⟩, ?_⟩
    show Steps p.tables e below _ ((({ U with heap := s₂.heap, slotsUsed := s₂.slotsUsed } : State).setVm s₂.vm).setTop { g with pc := g.pc + len₂, stack := v.toList ++ g.stack })
    rw [← hs₂]
    exact hsteps
  · obtain ⟨e2, q2, q3, q4, q5, q6⟩ := id hsm
    have e3 : s₂ = ({ (U.calling g mk a).setFrames s₂.frames with heap := s₂.heap, slotsUsed := s₂.slotsUsed } : State).setVm s₂.vm := by
      have : s₂ = ({ s₂ with vm := (U.calling g mk a).vm } : State).setVm s₂.vm := rfl
      rw [e2] at this
      exact this
    have hf₂ : s₂.frames = .throwing q :: .java g :: U.frames.tail := hend
    have hW' : U.WarmedH s₂.vm := hW₂
    have hs₂ : s₂ = ((({ U with heap := s₂.heap, slotsUsed := s₂.slotsUsed } : State).setVm s₂.vm).setTop g).pushFrame (.throwing q) := by
      refine e3.trans ?_
      rw [hf₂, State.calling_eq h.top, State.setFrames_setFrames, State.pushFrame, State.frames_setTop _ hr', State.setTop_of_frames _ hr', State.setFrames_setFrames, hr]
      rfl
    have hsame : U.sameButNew ({ U with heap := s₂.heap, slotsUsed := s₂.slotsUsed } : State) L mc ms := by
      refine ⟨?_, q2, q3, q4, q5, q6⟩
      obtain ⟨t, ht, -⟩ := State.frames_cons hr
      show ({ U with heap := s₂.heap, slotsUsed := s₂.slotsUsed } : State) = { U.setFrames U.frames with heap := s₂.heap, slotsUsed := s₂.slotsUsed }
      rw [State.setFrames_self ht]
    subst hg
    refine Or.inr ⟨q, ⟨(({ U with heap := s₂.heap, slotsUsed := s₂.slotsUsed } : State).setVm s₂.vm), Ls ++ L, c0 + mc, s0 + ms⟩,
      ⟨X.admits, X.cas, X.clock, X.frames, X.room, X.hears, X.method, X.code, (X.here.setHeapUsed s₂.heap s₂.slotsUsed).setVm hW'.alike, X.tail, State.WarmedH.trans X.warmed hW', X.limits, X.bytes, X.same.trans (hsame.setVm s.vm)⟩,
      ⟨g, mk, s₂, L, E, ce, rfl, rfl, hx, hce, hcv, hcl, rfl, hL, rfl, rfl⟩, ?_⟩
    show Steps p.tables e below _ (((({ U with heap := s₂.heap, slotsUsed := s₂.slotsUsed } : State).setVm s₂.vm).setTop g).pushFrame (.throwing q))
    rw [← hs₂]
    exact hsteps
end
variable {p : Program} {l : Launch} {e : Env} {R : Room} {s : State} {m : MethodId} {args : Array Value} {below : List Frame} {meth : Method} {c : Code} {T : State} {H : Heap} {locs : List Loc} {cells slots : Nat}
theorem vx_callVX (X : Stand p l e R s m args below meth c T locs cells slots) (hexec : p.tables.exec = Jvm.exec) {own C : String} {index : Nat} {y : MethodName} {bytes : ByteArray} {maxL : Nat} {ret : Option FieldType} {hh : List (Nat × Nat × Nat × Nat)}
    (hown : s.vm.findClass own = some m.cls) (hlink : (Cond.methodLink own index y).before args s = true) (hinst : (Cond.instanceMethod y).before args s = true) (hsel : (Cond.selects C y y).before args s = true)
    (hcode : (Cond.codeWith y bytes maxL ret hh).before args s = true) (hy : y.cls ≠ "java/lang/invoke/MethodHandle" ∧ y.cls ≠ "java/lang/invoke/VarHandle")
    {W9 : Nat} {Pre : Pt → Array Value → Prop} {Post : Pt → Array Value → Option Value → Pt → Prop} {PostX : Pt → Array Value → Addr → Pt → Prop} (hK : vx_Back l R p e below s args y 3 W9 Pre Post PostX)
    {b : Addr} {cellB : Cell} (hcell : T.heap[b]? = some cellB) (hobj : cellB.vm.isStatics = false) (hcls : s.vm.findClass C = some cellB.cls)
    {g : JFrame} (hg : g.method = m) (hsize : g.locals.size = c.maxLocals) {argsL rest : List Value} (hlen : ∀ sig, parseMethodDescriptor y.desc = some sig → argsL.length = sig.parameters.length)
    (hstack : g.stack = argsL.reverse ++ .ref b :: rest) (hW : 2 * g.monitorRoom + (rest.map fun v => v.category).sum ≤ W9) (hdg : decode c.code g.pc = .ok (.invokevirtual index, 3))
    (hpre : ∀ vm₁, s.WarmedH vm₁ → Pre ⟨T.setVm vm₁, locs, cells, slots⟩ (Value.ref b :: argsL).toArray) :
    (∃ (v : Option Value) (vm₁ : Vm) (B : Pt), s.WarmedH vm₁ ∧ Stand p l e R s m args below meth c B.U B.locs B.cells B.slots ∧ Post ⟨T.setVm vm₁, locs, cells, slots⟩ (Value.ref b :: argsL).toArray v B ∧
      ∀ target, Steps p.tables e below (B.U.setTop { g with pc := g.pc + 3, stack := v.toList ++ rest }) target → Steps p.tables e below (T.setTop g) target) ∨
    (∃ (q : Addr) (vm₁ : Vm) (B : Pt), s.WarmedH vm₁ ∧ Stand p l e R s m args below meth c B.U B.locs B.cells B.slots ∧ PostX ⟨T.setVm vm₁, locs, cells, slots⟩ (Value.ref b :: argsL).toArray q B ∧
      Steps p.tables e below (T.setTop g) ((B.U.setTop { g with stack := rest }).pushFrame (.throwing q))) := by
  obtain ⟨mk, methM, hnamed, hmethM, hstM, habM⟩ := Cond.instanceMethod_spec hinst
  obtain ⟨m8, methM', cM, hn8, hmethM', -, -, -, -, -, -, hsigM⟩ := Cond.codeWith_spec hcode
  cases Option.some.inj (hn8.symm.trans hnamed)
  cases hmethM.symm.trans hmethM'
  obtain ⟨c2, r2, m2, q1, q2, q3, q4, kP, hkP, hkPi⟩ := Cond.selects_spec hsel
  cases hcls.symm.trans q1
  cases (State.methodFound?_of_named hnamed hy).symm.trans q2
  cases hnamed.symm.trans q3
  have hselP : selectMethod e.platform s.vm cellB.cls mk = .method mk := by rw [Launch.admits_selectMethod X.admits]; exact q4
  obtain ⟨vm₁, X₁, hstep₁⟩ := X.invokevirtual hexec hown hlink hnamed hmethM hstM hkP hkPi hy (a := b) (cell := cellB) hcell
    (fun z h => by rw [h] at hobj; cases hobj) hselP hmethM habM hkP hkPi (g := g) hg (argsL := argsL) (rest := rest) (hlen _ hsigM) hstack hdg
  rcases hK m meth c ⟨T.setVm vm₁, locs, cells, slots⟩ { g with stack := rest } (.invokevirtual index) mk (Value.ref b :: argsL).toArray X₁ hg hsize hdg hW (X₁.named hnamed) (hpre vm₁ X₁.warmed) with ⟨v, B, X', hpost, hsteps⟩ | ⟨q, B, X', hpost, hsteps⟩
  · exact Or.inl ⟨v, vm₁, B, X₁.warmed, X', hpost, fun target h => hstep₁ _ fun acts => by rw [doInvoke_state]; exact hsteps.trans h⟩
  · exact Or.inr ⟨q, vm₁, B, X₁.warmed, X', hpost, hstep₁ _ fun acts => by rw [doInvoke_state]; exact hsteps⟩
theorem vx_callSX (X : Stand p l e R s m args below meth c T locs cells slots) (hexec : p.tables.exec = Jvm.exec) {own : String} {index : Nat} {y : MethodName} {bytes : ByteArray} {maxL : Nat} {ret : Option FieldType} {hh : List (Nat × Nat × Nat × Nat)}
    (hown : s.vm.findClass own = some m.cls) (hlink : (Cond.methodLink own index y).before args s = true) (hstat : (Cond.static y).before args s = true) (hinit : (Cond.initialized y.cls).before args s = true)
    (hcode : (Cond.codeWith y bytes maxL ret hh).before args s = true) (hy : y.cls ≠ "java/lang/invoke/MethodHandle" ∧ y.cls ≠ "java/lang/invoke/VarHandle")
    {W9 : Nat} {Pre : Pt → Array Value → Prop} {Post : Pt → Array Value → Option Value → Pt → Prop} {PostX : Pt → Array Value → Addr → Pt → Prop} (hK : vx_Back l R p e below s args y 3 W9 Pre Post PostX)
    {g : JFrame} (hg : g.method = m) (hsize : g.locals.size = c.maxLocals) {argsL rest : List Value} (hlen : ∀ sig, parseMethodDescriptor y.desc = some sig → argsL.length = sig.parameters.length)
    (hstack : g.stack = argsL.reverse ++ rest) (hW : 2 * g.monitorRoom + (rest.map fun v => v.category).sum ≤ W9) (hdg : decode c.code g.pc = .ok (.invokestatic index, 3))
    (hpre : ∀ vm₁, s.WarmedH vm₁ → Pre ⟨T.setVm vm₁, locs, cells, slots⟩ argsL.toArray) :
    (∃ (v : Option Value) (vm₁ : Vm) (B : Pt), s.WarmedH vm₁ ∧ Stand p l e R s m args below meth c B.U B.locs B.cells B.slots ∧ Post ⟨T.setVm vm₁, locs, cells, slots⟩ argsL.toArray v B ∧
      ∀ target, Steps p.tables e below (B.U.setTop { g with pc := g.pc + 3, stack := v.toList ++ rest }) target → Steps p.tables e below (T.setTop g) target) ∨
    (∃ (q : Addr) (vm₁ : Vm) (B : Pt), s.WarmedH vm₁ ∧ Stand p l e R s m args below meth c B.U B.locs B.cells B.slots ∧ PostX ⟨T.setVm vm₁, locs, cells, slots⟩ argsL.toArray q B ∧
      Steps p.tables e below (T.setTop g) ((B.U.setTop { g with stack := rest }).pushFrame (.throwing q))) := by
  obtain ⟨mk, methM, cM, hnamed, hmethM, -, -, -, -, -, -, hsigM⟩ := Cond.codeWith_spec hcode
  have hstatic : methM.isStatic = true := Cond.static_spec hnamed hmethM hstat
  obtain ⟨kP, hkP, -⟩ := className_of_methodNamed hnamed
  have hinitP : kP.init = .initialized := Cond.initialized_spec (findClass_of_methodNamed hnamed) hkP hinit
  obtain ⟨vm₁, X₁, hstep₁⟩ := X.invokestatic hexec hown hlink hnamed hmethM hstatic hkP hinitP hy (g := g) hg (argsL := argsL) (rest := rest) (hlen _ hsigM) hstack hdg
  rcases hK m meth c ⟨T.setVm vm₁, locs, cells, slots⟩ { g with stack := rest } (.invokestatic index) mk argsL.toArray X₁ hg hsize hdg hW (X₁.named hnamed) (hpre vm₁ X₁.warmed) with ⟨v, B, X', hpost, hsteps⟩ | ⟨q, B, X', hpost, hsteps⟩
  · exact Or.inl ⟨v, vm₁, B, X₁.warmed, X', hpost, fun target h => hstep₁ _ fun acts => by rw [doInvoke_state]; exact hsteps.trans h⟩
  · exact Or.inr ⟨q, vm₁, B, X₁.warmed, X', hpost, hstep₁ _ fun acts => by rw [doInvoke_state]; exact hsteps⟩
theorem vx_callVW (X : Stand p l e R s m args below meth c T locs cells slots) (hexec : p.tables.exec = Jvm.exec) {own C : String} {index : Nat} {y : MethodName} {bytes : ByteArray} {maxL : Nat} {ret : Option FieldType} {hh : List (Nat × Nat × Nat × Nat)}
    (hown : s.vm.findClass own = some m.cls) (hlink : (Cond.methodLink own index y).before args s = true) (hinst : (Cond.instanceMethod y).before args s = true) (hsel : (Cond.selects C y y).before args s = true)
    (hcode : (Cond.codeWith y bytes maxL ret hh).before args s = true) (hy : y.cls ≠ "java/lang/invoke/MethodHandle" ∧ y.cls ≠ "java/lang/invoke/VarHandle")
    {W9 : Nat} {Pre : Pt → Array Value → Prop} {Post : Pt → Array Value → Option Value → Pt → Prop} (hK : Back l R p e below s args y 3 W9 Pre Post)
    {b : Addr} {cellB : Cell} (hcell : T.heap[b]? = some cellB) (hobj : cellB.vm.isStatics = false) (hcls : s.vm.findClass C = some cellB.cls)
    {g : JFrame} (hg : g.method = m) (hsize : g.locals.size = c.maxLocals) {argsL rest : List Value} (hlen : ∀ sig, parseMethodDescriptor y.desc = some sig → argsL.length = sig.parameters.length)
    (hstack : g.stack = argsL.reverse ++ .ref b :: rest) (hW : 2 * g.monitorRoom + (rest.map fun v => v.category).sum ≤ W9) (hdg : decode c.code g.pc = .ok (.invokevirtual index, 3))
    (hpre : ∀ vm₁, s.WarmedH vm₁ → Pre ⟨T.setVm vm₁, locs, cells, slots⟩ (Value.ref b :: argsL).toArray) :
    ∃ (v : Option Value) (vm₁ : Vm) (B : Pt), s.WarmedH vm₁ ∧ Stand p l e R s m args below meth c B.U B.locs B.cells B.slots ∧ Post ⟨T.setVm vm₁, locs, cells, slots⟩ (Value.ref b :: argsL).toArray v B ∧
      ∀ target, Steps p.tables e below (B.U.setTop { g with pc := g.pc + 3, stack := v.toList ++ rest }) target → Steps p.tables e below (T.setTop g) target := by
  obtain ⟨mk, methM, hnamed, hmethM, hstM, habM⟩ := Cond.instanceMethod_spec hinst
  obtain ⟨m8, methM', cM, hn8, hmethM', -, -, -, -, -, -, hsigM⟩ := Cond.codeWith_spec hcode
  cases Option.some.inj (hn8.symm.trans hnamed)
  cases hmethM.symm.trans hmethM'
  obtain ⟨c2, r2, m2, q1, q2, q3, q4, kP, hkP, hkPi⟩ := Cond.selects_spec hsel
  cases hcls.symm.trans q1
  cases (State.methodFound?_of_named hnamed hy).symm.trans q2
  cases hnamed.symm.trans q3
  have hselP : selectMethod e.platform s.vm cellB.cls mk = .method mk := by rw [Launch.admits_selectMethod X.admits]; exact q4
  obtain ⟨vm₁, X₁, hstep₁⟩ := X.invokevirtual hexec hown hlink hnamed hmethM hstM hkP hkPi hy (a := b) (cell := cellB) hcell
    (fun z h => by rw [h] at hobj; cases hobj) hselP hmethM habM hkP hkPi (g := g) hg (argsL := argsL) (rest := rest) (hlen _ hsigM) hstack hdg
  obtain ⟨v, B, X', hpost, hsteps⟩ := hK m meth c ⟨T.setVm vm₁, locs, cells, slots⟩ { g with stack := rest } (.invokevirtual index) mk (Value.ref b :: argsL).toArray X₁ hg hsize hdg hW (X₁.named hnamed) (hpre vm₁ X₁.warmed)
  exact ⟨v, vm₁, B, X₁.warmed, X', hpost, fun target h => hstep₁ _ fun acts => by rw [doInvoke_state]; exact hsteps.trans h⟩
abbrev vx_CVW (R : Room) (s : State) (args : Array Value) (own C : String) (index : Nat) (y : MethodName) (bytes : ByteArray) (maxL : Nat) (ret : Option FieldType) (hh : List (Nat × Nat × Nat × Nat)) (ws : List Cond) (rm : Room) (mc ms n : Nat) : Prop :=
  (rm.cells = mc ∧ rm.slots = ms ∧ rm.frames + 1 ≤ R.frames ∧ 8 + (maxL + 11) + rm.locals ≤ R.locals ∧ (∀ w ∈ ws, ∀ (a' : Array Value) (U : State), s.WarmedH U.vm → w.before a' U = true) ∧ Cond.codeWith y bytes maxL ret hh ∈ ws) ∧
  (Cond.codeWith y bytes maxL ret hh).before args s = true ∧ (Cond.initialized y.cls).before args s = true ∧ (y.cls ≠ "java/lang/invoke/MethodHandle" ∧ y.cls ≠ "java/lang/invoke/VarHandle") ∧
  (∀ sig, parseMethodDescriptor y.desc = some sig → n = sig.parameters.length) ∧ (Cond.methodLink own index y).before args s = true ∧ (Cond.instanceMethod y).before args s = true ∧ (Cond.selects C y y).before args s = true
theorem vx_cwVW {own C : String} {index maxL mc ms : Nat} {y : MethodName} {bytes : ByteArray} {ret : Option FieldType} {hh : List (Nat × Nat × Nat × Nat)} {Ts ws ws' : List Cond} {rm : Room} (n : Nat) (ht : ∀ w ∈ Ts, w.before args s = true) (hT : GoodIn Ts (wsV own index C y ws)) (hw : ws = Cond.codeWith y bytes maxL ret hh :: ws') (hrc : rm.cells = mc) (hrs : rm.slots = ms)
    (hd : y.cls = C ∧ y.cls ≠ "java/lang/invoke/MethodHandle" ∧ y.cls ≠ "java/lang/invoke/VarHandle" ∧ (parseMethodDescriptor y.desc).map (fun d => d.parameters.length) = some n) (hR : rm.frames + 1 ≤ R.frames ∧ 8 + (maxL + 11) + rm.locals ≤ R.locals) :
    vx_CVW R s args own C index y bytes maxL ret hh ws rm mc ms n := by
  obtain ⟨hC, hd⟩ := hd
  subst hC
  have ok : ∀ w ∈ wsV own index y.cls y ws, w.before args s = true := fun w h => ht w (hT w h).1
  have hG : GoodIn Ts ws := fun w h => hT w (by unfold wsV; exact List.mem_append_right _ h)
  have hc : Cond.codeWith y bytes maxL ret hh ∈ ws := by rw [hw]; exact List.mem_cons_self
  refine ⟨⟨hrc, hrs, hR.1, hR.2, pay_in ht hG, hc⟩, ht _ (hG _ hc).1, ok _ (by simp [wsV]), ⟨hd.1, hd.2.1⟩, fun sig h => ?_, ok _ (by simp [wsV]), ok _ (by simp [wsV]), ok _ (by simp [wsV])⟩
  have h2 := hd.2.2
  rw [h] at h2
  exact (Option.some.inj h2).symm
theorem vx_runVW {y : MethodName} {bytes cc : ByteArray} {maxL nL mc ms n index : Nat} {ret : Option FieldType} {hh : List (Nat × Nat × Nat × Nat)} {ws : List Cond} {rm : Room} {Pc : Array Value → State → Prop} {Qc : Array Value → State → Outcome → State → Prop} {free : Addr → Prop} {Ts : List Cond} {own C : String} {b : Addr} {As rest : List Value} {g : JFrame}
    (S : CallFix p m c cc nL s args Ts own) (hM : Met l y ws rm Pc Qc mc ms free) (cw : vx_CVW R s args own C index y bytes maxL ret hh ws rm mc ms n) (hp : PreV s H C b Pc As)
    (hg : g.method = m) (hn : As.length = n) (hsize : g.locals.size = nL) (hstack : g.stack = As.reverse ++ .ref b :: rest) (hW : 2 * g.monitorRoom + (rest.map fun v => v.category).sum ≤ 8) (hdg : decode cc g.pc = .ok (.invokevirtual index, 3)) (hf : cells + mc ≤ R.cells ∧ slots + ms ≤ R.slots) :
    va_Run p l e R s m args below meth c H locs cells slots mc ms g rest (Qc (Value.ref b :: As).toArray) free := by
  obtain ⟨⟨hrc, hrs, hfr, hlo, hws, hcw⟩, hcode, hini, hy, hlen, hl, hin, hse⟩ := cw
  have hK : Back l R p e below s args y 3 8 (PreOf R mc ms Pc) (PostOf Qc mc ms free) := va_backW (hh := hh) (bytes := bytes) (maxL := maxL) (ret := ret) hM hp.1 hrc hrs hfr hlo hws hcw (fun a' U hW => word_at hW (Or.inl (by first | rfl | simp [Cond.onTables, Cond.keeps, Cond.steady])) hini)
  obtain ⟨hx, hb, hml, ho, -⟩ := S
  obtain ⟨-, ⟨cellB, hcB, hoB, hclB⟩, hPc⟩ := hp
  intro T hT X
  obtain ⟨v, vm₁, ⟨U', l2, c2, s2⟩, hW₁, X', ⟨g', mk, t, L, e1, e2, hq, h1, hL, h2, h3⟩, st⟩ := vx_callVW X hx (C := C) (hh := hh) (bytes := bytes) (maxL := maxL) (ret := ret) ho hl hin hse hcode hy hK (by rw [hT]; exact hcB) hoB hclB hg (hsize.trans hml.symm) (argsL := As) (rest := rest) (fun sig h => hn.trans (hlen sig h)) hstack hW (by rw [hb]; exact hdg)
    (fun vm₁ hW₁ => ⟨hf.1, hf.2, hPc (T.setVm vm₁) hT hW₁⟩)
  dsimp only [Pt.U, Pt.locs, Pt.cells, Pt.slots] at X' e1 e2 h1 h2 h3 st
  subst h1; subst h2; subst h3
  exact ⟨v, (T.setVm vm₁).calling g' mk (Value.ref b :: As).toArray, t, U', L, hT, X', hL, e1, e2, hq, st⟩
section
variable {y : MethodName} {bytes cc : ByteArray} {maxL nL mc ms n index : Nat} {ret : Option FieldType} {ws : List Cond} {rm : Room} {Pc : Array Value → State → Prop} {Qc : Array Value → State → Outcome → State → Prop} {XC : String → State → State → Prop} {free : Addr → Prop} {Ts : List Cond} {own C : String} {b : Addr} {As rest : List Value} {g : JFrame}
theorem vx_runVX {hh : List (Nat × Nat × Nat × Nat)} (S : CallFix p m c cc nL s args Ts own) (hM : vx_Met l y ws rm Pc Qc XC mc ms free) (cw : vx_CVW R s args own C index y bytes maxL ret hh ws rm mc ms n) (hp : PreV s H C b Pc As)
    (hg : g.method = m) (hn : As.length = n) (hsize : g.locals.size = nL) (hstack : g.stack = As.reverse ++ .ref b :: rest) (hW : 2 * g.monitorRoom + (rest.map fun v => v.category).sum ≤ 8) (hdg : decode cc g.pc = .ok (.invokevirtual index, 3)) (hf : cells + mc ≤ R.cells ∧ slots + ms ≤ R.slots) :
    vx_Run p l e R s m args below meth c H locs cells slots mc ms g rest (Qc (Value.ref b :: As).toArray) XC free := by
  obtain ⟨⟨hrc, hrs, hfr, hlo, hws, hcw⟩, hcode, hini, hy, hlen, hl, hin, hse⟩ := cw
  have hK : vx_Back l R p e below s args y 3 8 (PreOf R mc ms Pc) (PostOf Qc mc ms free) (vx_Post XC mc ms free) := vx_backW (hh := hh) (bytes := bytes) (maxL := maxL) (ret := ret) hM hp.1 hrc hrs hfr hlo hws hcw (fun a' U hW => word_at hW (Or.inl (by first | rfl | simp [Cond.onTables, Cond.keeps, Cond.steady])) hini)
  obtain ⟨hx, hb, hml, ho, -⟩ := S
  obtain ⟨-, ⟨cellB, hcB, hoB, hclB⟩, hPc⟩ := hp
  intro T hT X
  rcases vx_callVX X hx (C := C) (hh := hh) (bytes := bytes) (maxL := maxL) (ret := ret) ho hl hin hse hcode hy hK (by rw [hT]; exact hcB) hoB hclB hg (hsize.trans hml.symm) (argsL := As) (rest := rest) (fun sig h => hn.trans (hlen sig h)) hstack hW (by rw [hb]; exact hdg)
    (fun vm₁ hW₁ => ⟨hf.1, hf.2, hPc (T.setVm vm₁) hT hW₁⟩) with ⟨v, vm₁, ⟨U', l2, c2, s2⟩, hW₁, X', ⟨g', mk, t, L, e1, e2, hq, h1, hL, h2, h3⟩, st⟩ | ⟨q, vm₁, ⟨U', l2, c2, s2⟩, hW₁, X', ⟨g', mk, t, L, E, ce, e1, e2, hq, hce, hcv, hcl, h1, hL, h2, h3⟩, st⟩
  · dsimp only [Pt.U, Pt.locs, Pt.cells, Pt.slots] at X' e1 e2 h1 h2 h3 st
    subst h1; subst h2; subst h3
    exact Or.inl ⟨v, (T.setVm vm₁).calling g' mk (Value.ref b :: As).toArray, t, U', L, hT, X', hL, e1, e2, hq, st⟩
  · dsimp only [Pt.U, Pt.locs, Pt.cells, Pt.slots] at X' e1 e2 h1 h2 h3 st hcl
    subst h1; subst h2; subst h3
    exact Or.inr ⟨q, (T.setVm vm₁).calling g' mk (Value.ref b :: As).toArray, t, U', L, E, ce, hT, X', hL, e1, e2, hq, hce, hcv, vx_cls hW₁ hcl, st⟩
theorem vx_runSX {hh : List (Nat × Nat × Nat × Nat)} (S : CallFix p m c cc nL s args Ts own) (hM : vx_Met l y ws rm Pc Qc XC mc ms free) (cw : vx_CSW R s args own index y bytes maxL ret hh ws rm mc ms n) (hp : PreS s H Pc As)
    (hg : g.method = m) (hn : As.length = n) (hsize : g.locals.size = nL) (hstack : g.stack = As.reverse ++ rest) (hW : 2 * g.monitorRoom + (rest.map fun v => v.category).sum ≤ 8) (hdg : decode cc g.pc = .ok (.invokestatic index, 3)) (hf : cells + mc ≤ R.cells ∧ slots + ms ≤ R.slots) :
    vx_Run p l e R s m args below meth c H locs cells slots mc ms g rest (Qc As.toArray) XC free := by
  obtain ⟨⟨hrc, hrs, hfr, hlo, hws, hcw⟩, hcode, hini, hy, hlen, hl, hstt⟩ := cw
  have hK : vx_Back l R p e below s args y 3 8 (PreOf R mc ms Pc) (PostOf Qc mc ms free) (vx_Post XC mc ms free) := vx_backW (hh := hh) (bytes := bytes) (maxL := maxL) (ret := ret) hM hp.1 hrc hrs hfr hlo hws hcw (fun a' U hW => word_at hW (Or.inl (by first | rfl | simp [Cond.onTables, Cond.keeps, Cond.steady])) hini)
  obtain ⟨hx, hb, hml, ho, -⟩ := S
  intro T hT X
  rcases vx_callSX X hx (hh := hh) (bytes := bytes) (maxL := maxL) (ret := ret) ho hl hstt hini hcode hy hK hg (hsize.trans hml.symm) (argsL := As) (rest := rest) (fun sig h => hn.trans (hlen sig h)) hstack hW (by rw [hb]; exact hdg)
    (fun vm₁ hW₁ => ⟨hf.1, hf.2, hp.2 (T.setVm vm₁) hT hW₁⟩) with ⟨v, vm₁, ⟨U', l2, c2, s2⟩, hW₁, X', ⟨g', mk, t, L, e1, e2, hq, h1, hL, h2, h3⟩, st⟩ | ⟨q, vm₁, ⟨U', l2, c2, s2⟩, hW₁, X', ⟨g', mk, t, L, E, ce, e1, e2, hq, hce, hcv, hcl, h1, hL, h2, h3⟩, st⟩
  · dsimp only [Pt.U, Pt.locs, Pt.cells, Pt.slots] at X' e1 e2 h1 h2 h3 st
    subst h1; subst h2; subst h3
    exact Or.inl ⟨v, (T.setVm vm₁).calling g' mk As.toArray, t, U', L, hT, X', hL, e1, e2, hq, st⟩
  · dsimp only [Pt.U, Pt.locs, Pt.cells, Pt.slots] at X' e1 e2 h1 h2 h3 st hcl
    subst h1; subst h2; subst h3
    exact Or.inr ⟨q, (T.setVm vm₁).calling g' mk As.toArray, t, U', L, E, ce, hT, X', hL, e1, e2, hq, hce, hcv, vx_cls hW₁ hcl, st⟩
end
end VXH
theorem vx_ofWH {l : Launch} {y : MethodName} {ws ws' : List Cond} {rm : Room} {Pc : Array Value → State → Prop} {Qc : Array Value → State → Outcome → State → Prop} {XC : String → State → State → Prop} {mc ms : Nat} {free : Addr → Prop} {cc : ByteArray} {maxL : Nat} {ret : Option FieldType} {hh : List (Nat × Nat × Nat × Nat)}
    (hy : plainName y.cls = true) (hw : ws = Cond.codeWith y cc maxL ret hh :: ws')
    (body : ∀ p e s m args below meth c s₁, BodyLoose p l y (headSpec ws rm) cc maxL ret e s m args below meth c s₁ → c.maxLocals = maxL → Pc args s →
      W p l e (headSpec ws rm).room s m args below meth c s.heap [] 0 0 (vx_MQ below Qc XC args s mc ms free) (entryFrame m args maxL)) : vx_Met l y ws rm Pc Qc XC mc ms free := by
  refine MetFree.of_bodyS (code := cc) (maxLocals := maxL) (ret := ret) hy ?_ ?_
  · intro args s m h hn
    obtain ⟨m9, meth, c, hn9, h1, h2, h3, h4, -, h5, h6, -⟩ := Cond.codeWith_spec (atoms_spec (ws := ws) h _ (by rw [hw]; exact List.mem_cons_self))
    cases hn.symm.trans hn9
    exact ⟨meth, c, h1, h2, h3, h4, h5, h6⟩
  · intro p e s m args below meth c s₁ B hml hP _
    have hh0 : s₁.heap = s.heap := by rw [B.state]; rfl
    obtain ⟨t, a1, o, b1, b2, b3⟩ := body p e s m args below meth c s₁ B hml hP s₁ hh0 (Stand.of_body B)
    exact ⟨t, o, a1, b1, b2, b3⟩
/-! ===== END ===== -/
end
section
/-! ===== BEGIN printed: names, fields, word lists, decode rows ===== -/
def RX0 : String := "SignRows$Role"
def TX0 : u_T := fun k => match k with
  | 0 => ("SignRows$Role", "person", "I", true)
  | 1 => ("SignRows$Role", "number", "I", true)
  | 2 => ("SignRows$Role", "from", "J", true)
  | _ => ("SignRows$Role", "to", "J", true)
def tyX0 : Nat → FieldType := fun k => match k with
  | 0 => .int
  | 1 => .int
  | 2 => .long
  | _ => .long
abbrev wsX00 : List Cond := u_ws RX0 TX0 4
theorem nmX0 : ∀ a, a < 4 → ∀ b, b < 4 → a ≠ b → (TX0 a).2.1 ≠ (TX0 b).2.1 := by decide +kernel
theorem tyX0_ok : ∀ k, k < 4 → parseFieldDescriptor (TX0 k).2.2.1 = some (tyX0 k) := by decide +kernel
abbrev cX0_init : ByteArray := prog_2_method_1_code
def yX0_init : MethodName := ⟨RX0, "<init>", "(IIJJ)V"⟩
abbrev cX0_isHeldBy : ByteArray := prog_2_method_2_code
def yX0_isHeldBy : MethodName := ⟨RX0, "isHeldBy", "(IIJ)Z"⟩
def RX1 : String := "SignRows$Sha256"
def TX1 : u_T := fun k => match k with
  | 0 => ("SignRows$Sha256", "state", "[I", true)
  | _ => ("SignRows$Sha256", "schedule", "[I", true)
def tyX1 : Nat → FieldType := fun k => match k with
  | 0 => .array .int
  | _ => .array .int
abbrev wsX10 : List Cond := u_ws RX1 TX1 2
theorem nmX1 : ∀ a, a < 2 → ∀ b, b < 2 → a ≠ b → (TX1 a).2.1 ≠ (TX1 b).2.1 := by decide +kernel
theorem tyX1_ok : ∀ k, k < 2 → parseFieldDescriptor (TX1 k).2.2.1 = some (tyX1 k) := by decide +kernel
abbrev cX1_init : ByteArray := prog_3_method_1_code
def yX1_init : MethodName := ⟨RX1, "<init>", "()V"⟩
abbrev cX1_hashBytes : ByteArray := prog_3_method_2_code
def yX1_hashBytes : MethodName := ⟨RX1, "hashBytes", "([BI)V"⟩
abbrev cX1_loadBlock : ByteArray := prog_3_method_3_code
def yX1_loadBlock : MethodName := ⟨RX1, "loadBlock", "([BIII)V"⟩
abbrev cX1_paddedByte : ByteArray := prog_3_method_4_code
def yX1_paddedByte : MethodName := ⟨RX1, "paddedByte", "([BII)I"⟩
abbrev cX1_spreadBlock : ByteArray := prog_3_method_5_code
def yX1_spreadBlock : MethodName := ⟨RX1, "spreadBlock", "()V"⟩
abbrev cX1_mixBlock : ByteArray := prog_3_method_6_code
def yX1_mixBlock : MethodName := ⟨RX1, "mixBlock", "()V"⟩
abbrev cX1_turned : ByteArray := prog_3_method_7_code
def yX1_turned : MethodName := ⟨RX1, "turned", "(II)I"⟩
def RX2 : String := "SignRows$Signature"
def TX2 : u_T := fun k => match k with
  | 0 => ("SignRows$Signature", "thing", "LSignRows$Thing;", true)
  | 1 => ("SignRows$Signature", "person", "I", true)
  | 2 => ("SignRows$Signature", "meaning", "I", true)
  | 3 => ("SignRows$Signature", "digestWords", "[I", true)
  | _ => ("SignRows$Signature", "isWithdrawn", "Z", false)
def tyX2 : Nat → FieldType := fun k => match k with
  | 0 => .object "SignRows$Thing"
  | 1 => .int
  | 2 => .int
  | 3 => .array .int
  | _ => .boolean
abbrev wsX20 : List Cond := u_ws RX2 TX2 5
theorem nmX2 : ∀ a, a < 5 → ∀ b, b < 5 → a ≠ b → (TX2 a).2.1 ≠ (TX2 b).2.1 := by decide +kernel
theorem tyX2_ok : ∀ k, k < 5 → parseFieldDescriptor (TX2 k).2.2.1 = some (tyX2 k) := by decide +kernel
abbrev cX2_init : ByteArray := prog_4_method_1_code
def yX2_init : MethodName := ⟨RX2, "<init>", "(LSignRows$Thing;II)V"⟩
abbrev cX2_isOf : ByteArray := prog_4_method_2_code
def yX2_isOf : MethodName := ⟨RX2, "isOf", "(LSignRows$Thing;II)Z"⟩
def RX3 : String := "SignRows$Thing"
def TX3 : u_T := fun k => match k with
  | 0 => ("SignRows$Thing", "maker", "I", true)
  | 1 => ("SignRows$Thing", "bytes", "[B", true)
  | 2 => ("SignRows$Thing", "byteCount", "I", false)
  | 3 => ("SignRows$Thing", "digestWords", "[I", true)
  | 4 => ("SignRows$Thing", "digestStale", "Z", false)
  | 5 => ("SignRows$Thing", "comments", "[B", true)
  | 6 => ("SignRows$Thing", "commentCount", "I", false)
  | 7 => ("SignRows$Thing", "needed", "[I", true)
  | _ => ("SignRows$Thing", "neededCount", "I", false)
def tyX3 : Nat → FieldType := fun k => match k with
  | 0 => .int
  | 1 => .array .byte
  | 2 => .int
  | 3 => .array .int
  | 4 => .boolean
  | 5 => .array .byte
  | 6 => .int
  | 7 => .array .int
  | _ => .int
abbrev wsX30 : List Cond := u_ws RX3 TX3 9
theorem nmX3 : ∀ a, a < 9 → ∀ b, b < 9 → a ≠ b → (TX3 a).2.1 ≠ (TX3 b).2.1 := by decide +kernel
theorem tyX3_ok : ∀ k, k < 9 → parseFieldDescriptor (TX3 k).2.2.1 = some (tyX3 k) := by decide +kernel
abbrev cX3_init : ByteArray := prog_5_method_1_code
def yX3_init : MethodName := ⟨RX3, "<init>", "(I)V"⟩
def RX4 : String := "SignRows"
def TX4 : u_T := fun k => match k with
  | 0 => ("SignRows", "personCount", "I", false)
  | 1 => ("SignRows", "roles", "[LSignRows$Role;", true)
  | 2 => ("SignRows", "roleCount", "I", false)
  | 3 => ("SignRows", "things", "[LSignRows$Thing;", true)
  | 4 => ("SignRows", "thingCount", "I", false)
  | 5 => ("SignRows", "signatures", "[LSignRows$Signature;", true)
  | 6 => ("SignRows", "signatureCount", "I", false)
  | 7 => ("SignRows", "withdrawn", "[I", true)
  | 8 => ("SignRows", "withdrawnCount", "I", false)
  | 9 => ("SignRows", "toldBefore", "[I", true)
  | 10 => ("SignRows", "everBefore", "[I", true)
  | 11 => ("SignRows", "clock", "J", false)
  | _ => ("SignRows", "sha", "LSignRows$Sha256;", true)
def tyX4 : Nat → FieldType := fun k => match k with
  | 0 => .int
  | 1 => .array (.object "SignRows$Role")
  | 2 => .int
  | 3 => .array (.object "SignRows$Thing")
  | 4 => .int
  | 5 => .array (.object "SignRows$Signature")
  | 6 => .int
  | 7 => .array .int
  | 8 => .int
  | 9 => .array .int
  | 10 => .array .int
  | 11 => .long
  | _ => .object "SignRows$Sha256"
abbrev wsX40 : List Cond := u_ws RX4 TX4 13
theorem nmX4 : ∀ a, a < 13 → ∀ b, b < 13 → a ≠ b → (TX4 a).2.1 ≠ (TX4 b).2.1 := by decide +kernel
theorem tyX4_ok : ∀ k, k < 13 → parseFieldDescriptor (TX4 k).2.2.1 = some (tyX4 k) := by decide +kernel
abbrev cX4_init : ByteArray := prog_1_method_1_code
def yX4_init : MethodName := ⟨RX4, "<init>", "()V"⟩
abbrev cX4_person : ByteArray := prog_1_method_2_code
def yX4_person : MethodName := ⟨RX4, "person", "()I"⟩
abbrev cX4_role : ByteArray := prog_1_method_3_code
def yX4_role : MethodName := ⟨RX4, "role", "(IIJJ)Z"⟩
abbrev cX4_thing : ByteArray := prog_1_method_4_code
def yX4_thing : MethodName := ⟨RX4, "thing", "(I)I"⟩
abbrev cX4_byteOf : ByteArray := prog_1_method_5_code
def yX4_byteOf : MethodName := ⟨RX4, "byteOf", "(II)Z"⟩
abbrev cX4_sign : ByteArray := prog_1_method_6_code
def yX4_sign : MethodName := ⟨RX4, "sign", "(IIIJ)I"⟩
abbrev cX4_holds : ByteArray := prog_1_method_7_code
def yX4_holds : MethodName := ⟨RX4, "holds", "(I)Z"⟩
abbrev cX4_withdraw : ByteArray := prog_1_method_8_code
def yX4_withdraw : MethodName := ⟨RX4, "withdraw", "(I)Z"⟩
abbrev cX4_order : ByteArray := prog_1_method_9_code
def yX4_order : MethodName := ⟨RX4, "order", "(II)Z"⟩
abbrev cX4_complete : ByteArray := prog_1_method_10_code
def yX4_complete : MethodName := ⟨RX4, "complete", "(I)I"⟩
abbrev cX4_comment : ByteArray := prog_1_method_11_code
def yX4_comment : MethodName := ⟨RX4, "comment", "(IIJ)Z"⟩
abbrev cX4_digest : ByteArray := prog_1_method_12_code
def yX4_digest : MethodName := ⟨RX4, "digest", "(II)I"⟩
abbrev cX4_listed : ByteArray := prog_1_method_13_code
def yX4_listed : MethodName := ⟨RX4, "listed", "(I)I"⟩
abbrev cX4_needs : ByteArray := prog_1_method_14_code
def yX4_needs : MethodName := ⟨RX4, "needs", "(II)I"⟩
abbrev cX4_isPerson : ByteArray := prog_1_method_15_code
def yX4_isPerson : MethodName := ⟨RX4, "isPerson", "(I)Z"⟩
abbrev cX4_isMeaning : ByteArray := prog_1_method_16_code
def yX4_isMeaning : MethodName := ⟨RX4, "isMeaning", "(I)Z"⟩
abbrev cX4_isByte : ByteArray := prog_1_method_17_code
def yX4_isByte : MethodName := ⟨RX4, "isByte", "(I)Z"⟩
abbrev cX4_isLate : ByteArray := prog_1_method_18_code
def yX4_isLate : MethodName := ⟨RX4, "isLate", "(J)Z"⟩
abbrev cX4_hasBit : ByteArray := prog_1_method_19_code
def yX4_hasBit : MethodName := ⟨RX4, "hasBit", "(II)Z"⟩
abbrev cX4_thingAt : ByteArray := prog_1_method_20_code
def yX4_thingAt : MethodName := ⟨RX4, "thingAt", "(I)LSignRows$Thing;"⟩
abbrev cX4_signatureAt : ByteArray := prog_1_method_21_code
def yX4_signatureAt : MethodName := ⟨RX4, "signatureAt", "(I)LSignRows$Signature;"⟩
abbrev cX4_hasRole : ByteArray := prog_1_method_22_code
def yX4_hasRole : MethodName := ⟨RX4, "hasRole", "(IIJ)Z"⟩
abbrev cX4_meaningsThatHold : ByteArray := prog_1_method_23_code
def yX4_meaningsThatHold : MethodName := ⟨RX4, "meaningsThatHold", "(LSignRows$Thing;)I"⟩
abbrev cX4_isSignedBy : ByteArray := prog_1_method_24_code
def yX4_isSignedBy : MethodName := ⟨RX4, "isSignedBy", "(LSignRows$Thing;II)Z"⟩
abbrev cX4_isStanding : ByteArray := prog_1_method_25_code
def yX4_isStanding : MethodName := ⟨RX4, "isStanding", "(LSignRows$Signature;)Z"⟩
abbrev cX4_digestWordsOf : ByteArray := prog_1_method_26_code
def yX4_digestWordsOf : MethodName := ⟨RX4, "digestWordsOf", "(LSignRows$Thing;)[I"⟩
abbrev cX4_copyWords : ByteArray := prog_1_method_27_code
def yX4_copyWords : MethodName := ⟨RX4, "copyWords", "([I[I)V"⟩
abbrev cX4_areSameWords : ByteArray := prog_1_method_28_code
def yX4_areSameWords : MethodName := ⟨RX4, "areSameWords", "([I[I)Z"⟩
def RX5 : String := "SignRowsModel"
def TX5 : u_T := fun k => match k with
  | 0 => ("SignRowsModel", "persons", "I", false)
  | 1 => ("SignRowsModel", "roles", "I", false)
  | 2 => ("SignRowsModel", "rolePerson", "[I", true)
  | 3 => ("SignRowsModel", "roleKind", "[I", true)
  | 4 => ("SignRowsModel", "roleFrom", "[J", true)
  | 5 => ("SignRowsModel", "roleTo", "[J", true)
  | 6 => ("SignRowsModel", "things", "I", false)
  | 7 => ("SignRowsModel", "makers", "[I", true)
  | 8 => ("SignRowsModel", "lengths", "[I", true)
  | 9 => ("SignRowsModel", "digests", "[I", true)
  | 10 => ("SignRowsModel", "bytes", "[I", true)
  | 11 => ("SignRowsModel", "commentCounts", "[I", true)
  | 12 => ("SignRowsModel", "comments", "[I", true)
  | 13 => ("SignRowsModel", "needCounts", "[I", true)
  | 14 => ("SignRowsModel", "needs", "[I", true)
  | 15 => ("SignRowsModel", "signatures", "I", false)
  | 16 => ("SignRowsModel", "things2", "[I", true)
  | 17 => ("SignRowsModel", "signers", "[I", true)
  | 18 => ("SignRowsModel", "meanings", "[I", true)
  | 19 => ("SignRowsModel", "then", "[I", true)
  | 20 => ("SignRowsModel", "gone", "[Z", true)
  | 21 => ("SignRowsModel", "withdrawn", "I", false)
  | 22 => ("SignRowsModel", "list", "[I", true)
  | 23 => ("SignRowsModel", "behind", "[Z", true)
  | 24 => ("SignRowsModel", "clock", "J", false)
  | 25 => ("SignRowsModel", "thrown", "I", false)
  | 26 => ("SignRowsModel", "ready", "Z", false)
  | 27 => ("SignRowsModel", "constants", "[I", true)
  | 28 => ("SignRowsModel", "firsts", "[I", true)
  | 29 => ("SignRowsModel", "words", "[I", true)
  | 30 => ("SignRowsModel", "hash", "[I", true)
  | _ => ("SignRowsModel", "now", "[I", true)
def tyX5 : Nat → FieldType := fun k => match k with
  | 0 => .int
  | 1 => .int
  | 2 => .array .int
  | 3 => .array .int
  | 4 => .array .long
  | 5 => .array .long
  | 6 => .int
  | 7 => .array .int
  | 8 => .array .int
  | 9 => .array .int
  | 10 => .array .int
  | 11 => .array .int
  | 12 => .array .int
  | 13 => .array .int
  | 14 => .array .int
  | 15 => .int
  | 16 => .array .int
  | 17 => .array .int
  | 18 => .array .int
  | 19 => .array .int
  | 20 => .array .boolean
  | 21 => .int
  | 22 => .array .int
  | 23 => .array .boolean
  | 24 => .long
  | 25 => .int
  | 26 => .boolean
  | 27 => .array .int
  | 28 => .array .int
  | 29 => .array .int
  | 30 => .array .int
  | _ => .array .int
abbrev wsX50 : List Cond := u_ws RX5 TX5 32
theorem nmX5 : ∀ a, a < 32 → ∀ b, b < 32 → a ≠ b → (TX5 a).2.1 ≠ (TX5 b).2.1 := by decide +kernel
theorem tyX5_ok : ∀ k, k < 32 → parseFieldDescriptor (TX5 k).2.2.1 = some (tyX5 k) := by decide +kernel
abbrev cX5_init : ByteArray := prog_7_method_1_code
def yX5_init : MethodName := ⟨RX5, "<init>", "()V"⟩
abbrev cX5_thrown : ByteArray := prog_7_method_2_code
def yX5_thrown : MethodName := ⟨RX5, "thrown", "()I"⟩
abbrev cX5_person : ByteArray := prog_7_method_3_code
def yX5_person : MethodName := ⟨RX5, "person", "()I"⟩
abbrev cX5_isPerson : ByteArray := prog_7_method_4_code
def yX5_isPerson : MethodName := ⟨RX5, "isPerson", "(I)Z"⟩
abbrev cX5_isThing : ByteArray := prog_7_method_5_code
def yX5_isThing : MethodName := ⟨RX5, "isThing", "(I)Z"⟩
abbrev cX5_isTen : ByteArray := prog_7_method_6_code
def yX5_isTen : MethodName := ⟨RX5, "isTen", "(I)Z"⟩
abbrev cX5_isSecond : ByteArray := prog_7_method_7_code
def yX5_isSecond : MethodName := ⟨RX5, "isSecond", "(J)Z"⟩
abbrev cX5_role : ByteArray := prog_7_method_8_code
def yX5_role : MethodName := ⟨RX5, "role", "(IIJJ)Z"⟩
abbrev cX5_thing : ByteArray := prog_7_method_9_code
def yX5_thing : MethodName := ⟨RX5, "thing", "(I)I"⟩
abbrev cX5_byteOf : ByteArray := prog_7_method_10_code
def yX5_byteOf : MethodName := ⟨RX5, "byteOf", "(II)Z"⟩
abbrev cX5_stands : ByteArray := prog_7_method_11_code
def yX5_stands : MethodName := ⟨RX5, "stands", "(I)Z"⟩
abbrev cX5_has : ByteArray := prog_7_method_12_code
def yX5_has : MethodName := ⟨RX5, "has", "(III)Z"⟩
abbrev cX5_sign : ByteArray := prog_7_method_13_code
def yX5_sign : MethodName := ⟨RX5, "sign", "(IIIJ)I"⟩
abbrev cX5_holds : ByteArray := prog_7_method_14_code
def yX5_holds : MethodName := ⟨RX5, "holds", "(I)Z"⟩
abbrev cX5_withdraw : ByteArray := prog_7_method_15_code
def yX5_withdraw : MethodName := ⟨RX5, "withdraw", "(I)Z"⟩
abbrev cX5_comes : ByteArray := prog_7_method_16_code
def yX5_comes : MethodName := ⟨RX5, "comes", "(III)Z"⟩
abbrev cX5_order : ByteArray := prog_7_method_17_code
def yX5_order : MethodName := ⟨RX5, "order", "(II)Z"⟩
abbrev cX5_complete : ByteArray := prog_7_method_18_code
def yX5_complete : MethodName := ⟨RX5, "complete", "(I)I"⟩
abbrev cX5_comment : ByteArray := prog_7_method_19_code
def yX5_comment : MethodName := ⟨RX5, "comment", "(IIJ)Z"⟩
abbrev cX5_root : ByteArray := prog_7_method_20_code
def yX5_root : MethodName := ⟨RX5, "root", "(IZ)I"⟩
abbrev cX5_prepare : ByteArray := prog_7_method_21_code
def yX5_prepare : MethodName := ⟨RX5, "prepare", "()V"⟩
abbrev cX5_turn : ByteArray := prog_7_method_22_code
def yX5_turn : MethodName := ⟨RX5, "turn", "(II)I"⟩
abbrev cX5_padded : ByteArray := prog_7_method_23_code
def yX5_padded : MethodName := ⟨RX5, "padded", "(III)I"⟩
abbrev cX5_reckon : ByteArray := prog_7_method_24_code
def yX5_reckon : MethodName := ⟨RX5, "reckon", "(I)V"⟩
abbrev cX5_block : ByteArray := prog_7_method_25_code
def yX5_block : MethodName := ⟨RX5, "block", "()V"⟩
abbrev cX5_digest : ByteArray := prog_7_method_26_code
def yX5_digest : MethodName := ⟨RX5, "digest", "(II)I"⟩
abbrev cX5_listed : ByteArray := prog_7_method_27_code
def yX5_listed : MethodName := ⟨RX5, "listed", "(I)I"⟩
abbrev cX5_needs : ByteArray := prog_7_method_28_code
def yX5_needs : MethodName := ⟨RX5, "needs", "(II)I"⟩
def RJ0 : String := "java/lang/String"
def TJ0 : u_T := fun k => match k with
  | _ => ("", "", "", false)
def tyJ0 : Nat → FieldType := fun k => match k with
  | _ => .int
abbrev wsJ00 : List Cond := u_ws RJ0 TJ0 0
theorem nmJ0 : ∀ a, a < 0 → ∀ b, b < 0 → a ≠ b → (TJ0 a).2.1 ≠ (TJ0 b).2.1 := by decide +kernel
theorem tyJ0_ok : ∀ k, k < 0 → parseFieldDescriptor (TJ0 k).2.2.1 = some (tyJ0 k) := by decide +kernel
def RJ10 : String := "java/lang/System"
def TJ10 : u_T := fun k => match k with
  | _ => ("", "", "", false)
def tyJ10 : Nat → FieldType := fun k => match k with
  | _ => .int
abbrev wsJ100 : List Cond := u_ws RJ10 TJ10 0
theorem nmJ10 : ∀ a, a < 0 → ∀ b, b < 0 → a ≠ b → (TJ10 a).2.1 ≠ (TJ10 b).2.1 := by decide +kernel
theorem tyJ10_ok : ∀ k, k < 0 → parseFieldDescriptor (TJ10 k).2.2.1 = some (tyJ10 k) := by decide +kernel
def RL : String := "SignRowsLaw"
abbrev cL_sign : ByteArray := method_3_code
def yL_sign : MethodName := ⟨RL, "sign", "(LSignRows;IIIJ[J)I"⟩
abbrev cL_law : ByteArray := code
def yL_law : MethodName := ⟨RL, "law", "([I)Z"⟩
abbrev vwCl : List vw_C := [(RX0, TX0, 4), (RX1, TX1, 2), (RX2, TX2, 5), (RX3, TX3, 9), (RX4, TX4, 13), (RX5, TX5, 32)]
end
section
theorem dX0_init_0 : decode cX0_init 0 = .ok (.aload_n 0, 1) := by decide +kernel
theorem dX0_init_1 : decode cX0_init 1 = .ok (.invokespecial 1, 3) := by decide +kernel
theorem dX0_init_4 : decode cX0_init 4 = .ok (.aload_n 0, 1) := by decide +kernel
theorem dX0_init_5 : decode cX0_init 5 = .ok (.iload_n 1, 1) := by decide +kernel
theorem dX0_init_6 : decode cX0_init 6 = .ok (.putfield 7, 3) := by decide +kernel
theorem dX0_init_9 : decode cX0_init 9 = .ok (.aload_n 0, 1) := by decide +kernel
theorem dX0_init_10 : decode cX0_init 10 = .ok (.iload_n 2, 1) := by decide +kernel
theorem dX0_init_11 : decode cX0_init 11 = .ok (.putfield 13, 3) := by decide +kernel
theorem dX0_init_14 : decode cX0_init 14 = .ok (.aload_n 0, 1) := by decide +kernel
theorem dX0_init_15 : decode cX0_init 15 = .ok (.lload_n 3, 1) := by decide +kernel
theorem dX0_init_16 : decode cX0_init 16 = .ok (.putfield 16, 3) := by decide +kernel
theorem dX0_init_19 : decode cX0_init 19 = .ok (.aload_n 0, 1) := by decide +kernel
theorem dX0_init_20 : decode cX0_init 20 = .ok (.lload 5, 2) := by decide +kernel
theorem dX0_init_22 : decode cX0_init 22 = .ok (.putfield 20, 3) := by decide +kernel
theorem dX0_init_25 : decode cX0_init 25 = .ok (.return_, 1) := by decide +kernel
theorem dX0_isHeldBy_0 : decode cX0_isHeldBy 0 = .ok (.aload_n 0, 1) := by decide +kernel
theorem dX0_isHeldBy_1 : decode cX0_isHeldBy 1 = .ok (.getfield 7, 3) := by decide +kernel
theorem dX0_isHeldBy_4 : decode cX0_isHeldBy 4 = .ok (.iload_n 1, 1) := by decide +kernel
theorem dX0_isHeldBy_5 : decode cX0_isHeldBy 5 = .ok (.if_icmp .ne 33, 3) := by decide +kernel
theorem dX0_isHeldBy_8 : decode cX0_isHeldBy 8 = .ok (.aload_n 0, 1) := by decide +kernel
theorem dX0_isHeldBy_9 : decode cX0_isHeldBy 9 = .ok (.getfield 13, 3) := by decide +kernel
theorem dX0_isHeldBy_12 : decode cX0_isHeldBy 12 = .ok (.iload_n 2, 1) := by decide +kernel
theorem dX0_isHeldBy_13 : decode cX0_isHeldBy 13 = .ok (.if_icmp .ne 25, 3) := by decide +kernel
theorem dX0_isHeldBy_16 : decode cX0_isHeldBy 16 = .ok (.aload_n 0, 1) := by decide +kernel
theorem dX0_isHeldBy_17 : decode cX0_isHeldBy 17 = .ok (.getfield 16, 3) := by decide +kernel
theorem dX0_isHeldBy_20 : decode cX0_isHeldBy 20 = .ok (.lload_n 3, 1) := by decide +kernel
theorem dX0_isHeldBy_21 : decode cX0_isHeldBy 21 = .ok (.lcmp, 1) := by decide +kernel
theorem dX0_isHeldBy_22 : decode cX0_isHeldBy 22 = .ok (.ifCond .gt 16, 3) := by decide +kernel
theorem dX0_isHeldBy_25 : decode cX0_isHeldBy 25 = .ok (.lload_n 3, 1) := by decide +kernel
theorem dX0_isHeldBy_26 : decode cX0_isHeldBy 26 = .ok (.aload_n 0, 1) := by decide +kernel
theorem dX0_isHeldBy_27 : decode cX0_isHeldBy 27 = .ok (.getfield 20, 3) := by decide +kernel
theorem dX0_isHeldBy_30 : decode cX0_isHeldBy 30 = .ok (.lcmp, 1) := by decide +kernel
theorem dX0_isHeldBy_31 : decode cX0_isHeldBy 31 = .ok (.ifCond .gt 7, 3) := by decide +kernel
theorem dX0_isHeldBy_34 : decode cX0_isHeldBy 34 = .ok (.iconst 1, 1) := by decide +kernel
theorem dX0_isHeldBy_35 : decode cX0_isHeldBy 35 = .ok (.goto 4, 3) := by decide +kernel
theorem dX0_isHeldBy_38 : decode cX0_isHeldBy 38 = .ok (.iconst 0, 1) := by decide +kernel
theorem dX0_isHeldBy_39 : decode cX0_isHeldBy 39 = .ok (.ireturn, 1) := by decide +kernel
theorem dX1_init_0 : decode cX1_init 0 = .ok (.aload_n 0, 1) := by decide +kernel
theorem dX1_init_1 : decode cX1_init 1 = .ok (.invokespecial 3, 3) := by decide +kernel
theorem dX1_init_4 : decode cX1_init 4 = .ok (.aload_n 0, 1) := by decide +kernel
theorem dX1_init_5 : decode cX1_init 5 = .ok (.bipush 8, 2) := by decide +kernel
theorem dX1_init_7 : decode cX1_init 7 = .ok (.newarray .int, 2) := by decide +kernel
theorem dX1_init_9 : decode cX1_init 9 = .ok (.putfield 9, 3) := by decide +kernel
theorem dX1_init_12 : decode cX1_init 12 = .ok (.aload_n 0, 1) := by decide +kernel
theorem dX1_init_13 : decode cX1_init 13 = .ok (.bipush 64, 2) := by decide +kernel
theorem dX1_init_15 : decode cX1_init 15 = .ok (.newarray .int, 2) := by decide +kernel
theorem dX1_init_17 : decode cX1_init 17 = .ok (.putfield 15, 3) := by decide +kernel
theorem dX1_init_20 : decode cX1_init 20 = .ok (.return_, 1) := by decide +kernel
theorem dX1_hashBytes_0 : decode cX1_hashBytes 0 = .ok (.getstatic 18, 3) := by decide +kernel
theorem dX1_hashBytes_3 : decode cX1_hashBytes 3 = .ok (.aload_n 0, 1) := by decide +kernel
theorem dX1_hashBytes_4 : decode cX1_hashBytes 4 = .ok (.getfield 9, 3) := by decide +kernel
theorem dX1_hashBytes_7 : decode cX1_hashBytes 7 = .ok (.invokestatic 21, 3) := by decide +kernel
theorem dX1_hashBytes_10 : decode cX1_hashBytes 10 = .ok (.iload_n 2, 1) := by decide +kernel
theorem dX1_hashBytes_11 : decode cX1_hashBytes 11 = .ok (.bipush 8, 2) := by decide +kernel
theorem dX1_hashBytes_13 : decode cX1_hashBytes 13 = .ok (.iadd, 1) := by decide +kernel
theorem dX1_hashBytes_14 : decode cX1_hashBytes 14 = .ok (.bipush 64, 2) := by decide +kernel
theorem dX1_hashBytes_16 : decode cX1_hashBytes 16 = .ok (.idiv, 1) := by decide +kernel
theorem dX1_hashBytes_17 : decode cX1_hashBytes 17 = .ok (.iconst 1, 1) := by decide +kernel
theorem dX1_hashBytes_18 : decode cX1_hashBytes 18 = .ok (.iadd, 1) := by decide +kernel
theorem dX1_hashBytes_19 : decode cX1_hashBytes 19 = .ok (.istore_n 3, 1) := by decide +kernel
theorem dX1_hashBytes_20 : decode cX1_hashBytes 20 = .ok (.iconst 0, 1) := by decide +kernel
theorem dX1_hashBytes_21 : decode cX1_hashBytes 21 = .ok (.istore 4, 2) := by decide +kernel
theorem dX1_hashBytes_23 : decode cX1_hashBytes 23 = .ok (.iload 4, 2) := by decide +kernel
theorem dX1_hashBytes_25 : decode cX1_hashBytes 25 = .ok (.iload_n 3, 1) := by decide +kernel
theorem dX1_hashBytes_26 : decode cX1_hashBytes 26 = .ok (.if_icmp .ge 26, 3) := by decide +kernel
theorem dX1_hashBytes_29 : decode cX1_hashBytes 29 = .ok (.aload_n 0, 1) := by decide +kernel
theorem dX1_hashBytes_30 : decode cX1_hashBytes 30 = .ok (.aload_n 1, 1) := by decide +kernel
theorem dX1_hashBytes_31 : decode cX1_hashBytes 31 = .ok (.iload_n 2, 1) := by decide +kernel
theorem dX1_hashBytes_32 : decode cX1_hashBytes 32 = .ok (.iload 4, 2) := by decide +kernel
theorem dX1_hashBytes_34 : decode cX1_hashBytes 34 = .ok (.iload_n 3, 1) := by decide +kernel
theorem dX1_hashBytes_35 : decode cX1_hashBytes 35 = .ok (.invokevirtual 25, 3) := by decide +kernel
theorem dX1_hashBytes_38 : decode cX1_hashBytes 38 = .ok (.aload_n 0, 1) := by decide +kernel
theorem dX1_hashBytes_39 : decode cX1_hashBytes 39 = .ok (.invokevirtual 29, 3) := by decide +kernel
theorem dX1_hashBytes_42 : decode cX1_hashBytes 42 = .ok (.aload_n 0, 1) := by decide +kernel
theorem dX1_hashBytes_43 : decode cX1_hashBytes 43 = .ok (.invokevirtual 32, 3) := by decide +kernel
theorem dX1_hashBytes_46 : decode cX1_hashBytes 46 = .ok (.iinc 4 1, 3) := by decide +kernel
theorem dX1_hashBytes_49 : decode cX1_hashBytes 49 = .ok (.goto (-26), 3) := by decide +kernel
theorem dX1_hashBytes_52 : decode cX1_hashBytes 52 = .ok (.return_, 1) := by decide +kernel
theorem dX1_loadBlock_0 : decode cX1_loadBlock 0 = .ok (.iconst 0, 1) := by decide +kernel
theorem dX1_loadBlock_1 : decode cX1_loadBlock 1 = .ok (.istore 5, 2) := by decide +kernel
theorem dX1_loadBlock_3 : decode cX1_loadBlock 3 = .ok (.iload 5, 2) := by decide +kernel
theorem dX1_loadBlock_5 : decode cX1_loadBlock 5 = .ok (.bipush 16, 2) := by decide +kernel
theorem dX1_loadBlock_7 : decode cX1_loadBlock 7 = .ok (.if_icmp .ge 73, 3) := by decide +kernel
theorem dX1_loadBlock_10 : decode cX1_loadBlock 10 = .ok (.iload_n 3, 1) := by decide +kernel
theorem dX1_loadBlock_11 : decode cX1_loadBlock 11 = .ok (.bipush 64, 2) := by decide +kernel
theorem dX1_loadBlock_13 : decode cX1_loadBlock 13 = .ok (.imul, 1) := by decide +kernel
theorem dX1_loadBlock_14 : decode cX1_loadBlock 14 = .ok (.iconst 4, 1) := by decide +kernel
theorem dX1_loadBlock_15 : decode cX1_loadBlock 15 = .ok (.iload 5, 2) := by decide +kernel
theorem dX1_loadBlock_17 : decode cX1_loadBlock 17 = .ok (.imul, 1) := by decide +kernel
theorem dX1_loadBlock_18 : decode cX1_loadBlock 18 = .ok (.iadd, 1) := by decide +kernel
theorem dX1_loadBlock_19 : decode cX1_loadBlock 19 = .ok (.istore 6, 2) := by decide +kernel
theorem dX1_loadBlock_21 : decode cX1_loadBlock 21 = .ok (.aload_n 0, 1) := by decide +kernel
theorem dX1_loadBlock_22 : decode cX1_loadBlock 22 = .ok (.getfield 15, 3) := by decide +kernel
theorem dX1_loadBlock_25 : decode cX1_loadBlock 25 = .ok (.iload 5, 2) := by decide +kernel
theorem dX1_loadBlock_27 : decode cX1_loadBlock 27 = .ok (.aload_n 1, 1) := by decide +kernel
theorem dX1_loadBlock_28 : decode cX1_loadBlock 28 = .ok (.iload_n 2, 1) := by decide +kernel
theorem dX1_loadBlock_29 : decode cX1_loadBlock 29 = .ok (.iload 6, 2) := by decide +kernel
theorem dX1_loadBlock_31 : decode cX1_loadBlock 31 = .ok (.invokestatic 35, 3) := by decide +kernel
theorem dX1_loadBlock_34 : decode cX1_loadBlock 34 = .ok (.bipush 24, 2) := by decide +kernel
theorem dX1_loadBlock_36 : decode cX1_loadBlock 36 = .ok (.ishl, 1) := by decide +kernel
theorem dX1_loadBlock_37 : decode cX1_loadBlock 37 = .ok (.aload_n 1, 1) := by decide +kernel
theorem dX1_loadBlock_38 : decode cX1_loadBlock 38 = .ok (.iload_n 2, 1) := by decide +kernel
theorem dX1_loadBlock_39 : decode cX1_loadBlock 39 = .ok (.iload 6, 2) := by decide +kernel
theorem dX1_loadBlock_41 : decode cX1_loadBlock 41 = .ok (.iconst 1, 1) := by decide +kernel
theorem dX1_loadBlock_42 : decode cX1_loadBlock 42 = .ok (.iadd, 1) := by decide +kernel
theorem dX1_loadBlock_43 : decode cX1_loadBlock 43 = .ok (.invokestatic 35, 3) := by decide +kernel
theorem dX1_loadBlock_46 : decode cX1_loadBlock 46 = .ok (.bipush 16, 2) := by decide +kernel
theorem dX1_loadBlock_48 : decode cX1_loadBlock 48 = .ok (.ishl, 1) := by decide +kernel
theorem dX1_loadBlock_49 : decode cX1_loadBlock 49 = .ok (.ior, 1) := by decide +kernel
theorem dX1_loadBlock_50 : decode cX1_loadBlock 50 = .ok (.aload_n 1, 1) := by decide +kernel
theorem dX1_loadBlock_51 : decode cX1_loadBlock 51 = .ok (.iload_n 2, 1) := by decide +kernel
theorem dX1_loadBlock_52 : decode cX1_loadBlock 52 = .ok (.iload 6, 2) := by decide +kernel
theorem dX1_loadBlock_54 : decode cX1_loadBlock 54 = .ok (.iconst 2, 1) := by decide +kernel
theorem dX1_loadBlock_55 : decode cX1_loadBlock 55 = .ok (.iadd, 1) := by decide +kernel
theorem dX1_loadBlock_56 : decode cX1_loadBlock 56 = .ok (.invokestatic 35, 3) := by decide +kernel
theorem dX1_loadBlock_59 : decode cX1_loadBlock 59 = .ok (.bipush 8, 2) := by decide +kernel
theorem dX1_loadBlock_61 : decode cX1_loadBlock 61 = .ok (.ishl, 1) := by decide +kernel
theorem dX1_loadBlock_62 : decode cX1_loadBlock 62 = .ok (.ior, 1) := by decide +kernel
theorem dX1_loadBlock_63 : decode cX1_loadBlock 63 = .ok (.aload_n 1, 1) := by decide +kernel
theorem dX1_loadBlock_64 : decode cX1_loadBlock 64 = .ok (.iload_n 2, 1) := by decide +kernel
theorem dX1_loadBlock_65 : decode cX1_loadBlock 65 = .ok (.iload 6, 2) := by decide +kernel
theorem dX1_loadBlock_67 : decode cX1_loadBlock 67 = .ok (.iconst 3, 1) := by decide +kernel
theorem dX1_loadBlock_68 : decode cX1_loadBlock 68 = .ok (.iadd, 1) := by decide +kernel
theorem dX1_loadBlock_69 : decode cX1_loadBlock 69 = .ok (.invokestatic 35, 3) := by decide +kernel
theorem dX1_loadBlock_72 : decode cX1_loadBlock 72 = .ok (.ior, 1) := by decide +kernel
theorem dX1_loadBlock_73 : decode cX1_loadBlock 73 = .ok (.iastore, 1) := by decide +kernel
theorem dX1_loadBlock_74 : decode cX1_loadBlock 74 = .ok (.iinc 5 1, 3) := by decide +kernel
theorem dX1_loadBlock_77 : decode cX1_loadBlock 77 = .ok (.goto (-74), 3) := by decide +kernel
theorem dX1_loadBlock_80 : decode cX1_loadBlock 80 = .ok (.iload_n 3, 1) := by decide +kernel
theorem dX1_loadBlock_81 : decode cX1_loadBlock 81 = .ok (.iload 4, 2) := by decide +kernel
theorem dX1_loadBlock_83 : decode cX1_loadBlock 83 = .ok (.iconst 1, 1) := by decide +kernel
theorem dX1_loadBlock_84 : decode cX1_loadBlock 84 = .ok (.isub, 1) := by decide +kernel
theorem dX1_loadBlock_85 : decode cX1_loadBlock 85 = .ok (.if_icmp .ne 14, 3) := by decide +kernel
theorem dX1_loadBlock_88 : decode cX1_loadBlock 88 = .ok (.aload_n 0, 1) := by decide +kernel
theorem dX1_loadBlock_89 : decode cX1_loadBlock 89 = .ok (.getfield 15, 3) := by decide +kernel
theorem dX1_loadBlock_92 : decode cX1_loadBlock 92 = .ok (.bipush 15, 2) := by decide +kernel
theorem dX1_loadBlock_94 : decode cX1_loadBlock 94 = .ok (.iload_n 2, 1) := by decide +kernel
theorem dX1_loadBlock_95 : decode cX1_loadBlock 95 = .ok (.bipush 8, 2) := by decide +kernel
theorem dX1_loadBlock_97 : decode cX1_loadBlock 97 = .ok (.imul, 1) := by decide +kernel
theorem dX1_loadBlock_98 : decode cX1_loadBlock 98 = .ok (.iastore, 1) := by decide +kernel
theorem dX1_loadBlock_99 : decode cX1_loadBlock 99 = .ok (.return_, 1) := by decide +kernel
theorem dX1_paddedByte_0 : decode cX1_paddedByte 0 = .ok (.iload_n 2, 1) := by decide +kernel
theorem dX1_paddedByte_1 : decode cX1_paddedByte 1 = .ok (.ifCond .lt 22, 3) := by decide +kernel
theorem dX1_paddedByte_4 : decode cX1_paddedByte 4 = .ok (.iload_n 2, 1) := by decide +kernel
theorem dX1_paddedByte_5 : decode cX1_paddedByte 5 = .ok (.iload_n 1, 1) := by decide +kernel
theorem dX1_paddedByte_6 : decode cX1_paddedByte 6 = .ok (.if_icmp .ge 17, 3) := by decide +kernel
theorem dX1_paddedByte_9 : decode cX1_paddedByte 9 = .ok (.iload_n 2, 1) := by decide +kernel
theorem dX1_paddedByte_10 : decode cX1_paddedByte 10 = .ok (.aload_n 0, 1) := by decide +kernel
theorem dX1_paddedByte_11 : decode cX1_paddedByte 11 = .ok (.arraylength, 1) := by decide +kernel
theorem dX1_paddedByte_12 : decode cX1_paddedByte 12 = .ok (.if_icmp .ge 11, 3) := by decide +kernel
theorem dX1_paddedByte_15 : decode cX1_paddedByte 15 = .ok (.aload_n 0, 1) := by decide +kernel
theorem dX1_paddedByte_16 : decode cX1_paddedByte 16 = .ok (.iload_n 2, 1) := by decide +kernel
theorem dX1_paddedByte_17 : decode cX1_paddedByte 17 = .ok (.baload, 1) := by decide +kernel
theorem dX1_paddedByte_18 : decode cX1_paddedByte 18 = .ok (.sipush 255, 3) := by decide +kernel
theorem dX1_paddedByte_21 : decode cX1_paddedByte 21 = .ok (.iand, 1) := by decide +kernel
theorem dX1_paddedByte_22 : decode cX1_paddedByte 22 = .ok (.ireturn, 1) := by decide +kernel
theorem dX1_paddedByte_23 : decode cX1_paddedByte 23 = .ok (.iload_n 2, 1) := by decide +kernel
theorem dX1_paddedByte_24 : decode cX1_paddedByte 24 = .ok (.iload_n 1, 1) := by decide +kernel
theorem dX1_paddedByte_25 : decode cX1_paddedByte 25 = .ok (.if_icmp .ne 9, 3) := by decide +kernel
theorem dX1_paddedByte_28 : decode cX1_paddedByte 28 = .ok (.sipush 128, 3) := by decide +kernel
theorem dX1_paddedByte_31 : decode cX1_paddedByte 31 = .ok (.goto 4, 3) := by decide +kernel
theorem dX1_paddedByte_34 : decode cX1_paddedByte 34 = .ok (.iconst 0, 1) := by decide +kernel
theorem dX1_paddedByte_35 : decode cX1_paddedByte 35 = .ok (.ireturn, 1) := by decide +kernel
theorem dX1_spreadBlock_0 : decode cX1_spreadBlock 0 = .ok (.bipush 16, 2) := by decide +kernel
theorem dX1_spreadBlock_2 : decode cX1_spreadBlock 2 = .ok (.istore_n 1, 1) := by decide +kernel
theorem dX1_spreadBlock_3 : decode cX1_spreadBlock 3 = .ok (.iload_n 1, 1) := by decide +kernel
theorem dX1_spreadBlock_4 : decode cX1_spreadBlock 4 = .ok (.bipush 64, 2) := by decide +kernel
theorem dX1_spreadBlock_6 : decode cX1_spreadBlock 6 = .ok (.if_icmp .ge 98, 3) := by decide +kernel
theorem dX1_spreadBlock_9 : decode cX1_spreadBlock 9 = .ok (.aload_n 0, 1) := by decide +kernel
theorem dX1_spreadBlock_10 : decode cX1_spreadBlock 10 = .ok (.getfield 15, 3) := by decide +kernel
theorem dX1_spreadBlock_13 : decode cX1_spreadBlock 13 = .ok (.iload_n 1, 1) := by decide +kernel
theorem dX1_spreadBlock_14 : decode cX1_spreadBlock 14 = .ok (.iconst 2, 1) := by decide +kernel
theorem dX1_spreadBlock_15 : decode cX1_spreadBlock 15 = .ok (.isub, 1) := by decide +kernel
theorem dX1_spreadBlock_16 : decode cX1_spreadBlock 16 = .ok (.iaload, 1) := by decide +kernel
theorem dX1_spreadBlock_17 : decode cX1_spreadBlock 17 = .ok (.istore_n 2, 1) := by decide +kernel
theorem dX1_spreadBlock_18 : decode cX1_spreadBlock 18 = .ok (.aload_n 0, 1) := by decide +kernel
theorem dX1_spreadBlock_19 : decode cX1_spreadBlock 19 = .ok (.getfield 15, 3) := by decide +kernel
theorem dX1_spreadBlock_22 : decode cX1_spreadBlock 22 = .ok (.iload_n 1, 1) := by decide +kernel
theorem dX1_spreadBlock_23 : decode cX1_spreadBlock 23 = .ok (.bipush 15, 2) := by decide +kernel
theorem dX1_spreadBlock_25 : decode cX1_spreadBlock 25 = .ok (.isub, 1) := by decide +kernel
theorem dX1_spreadBlock_26 : decode cX1_spreadBlock 26 = .ok (.iaload, 1) := by decide +kernel
theorem dX1_spreadBlock_27 : decode cX1_spreadBlock 27 = .ok (.istore_n 3, 1) := by decide +kernel
theorem dX1_spreadBlock_28 : decode cX1_spreadBlock 28 = .ok (.iload_n 2, 1) := by decide +kernel
theorem dX1_spreadBlock_29 : decode cX1_spreadBlock 29 = .ok (.bipush 17, 2) := by decide +kernel
theorem dX1_spreadBlock_31 : decode cX1_spreadBlock 31 = .ok (.invokestatic 39, 3) := by decide +kernel
theorem dX1_spreadBlock_34 : decode cX1_spreadBlock 34 = .ok (.iload_n 2, 1) := by decide +kernel
theorem dX1_spreadBlock_35 : decode cX1_spreadBlock 35 = .ok (.bipush 19, 2) := by decide +kernel
theorem dX1_spreadBlock_37 : decode cX1_spreadBlock 37 = .ok (.invokestatic 39, 3) := by decide +kernel
theorem dX1_spreadBlock_40 : decode cX1_spreadBlock 40 = .ok (.ixor, 1) := by decide +kernel
theorem dX1_spreadBlock_41 : decode cX1_spreadBlock 41 = .ok (.iload_n 2, 1) := by decide +kernel
theorem dX1_spreadBlock_42 : decode cX1_spreadBlock 42 = .ok (.bipush 10, 2) := by decide +kernel
theorem dX1_spreadBlock_44 : decode cX1_spreadBlock 44 = .ok (.iushr, 1) := by decide +kernel
theorem dX1_spreadBlock_45 : decode cX1_spreadBlock 45 = .ok (.ixor, 1) := by decide +kernel
theorem dX1_spreadBlock_46 : decode cX1_spreadBlock 46 = .ok (.istore 4, 2) := by decide +kernel
theorem dX1_spreadBlock_48 : decode cX1_spreadBlock 48 = .ok (.iload_n 3, 1) := by decide +kernel
theorem dX1_spreadBlock_49 : decode cX1_spreadBlock 49 = .ok (.bipush 7, 2) := by decide +kernel
theorem dX1_spreadBlock_51 : decode cX1_spreadBlock 51 = .ok (.invokestatic 39, 3) := by decide +kernel
theorem dX1_spreadBlock_54 : decode cX1_spreadBlock 54 = .ok (.iload_n 3, 1) := by decide +kernel
theorem dX1_spreadBlock_55 : decode cX1_spreadBlock 55 = .ok (.bipush 18, 2) := by decide +kernel
theorem dX1_spreadBlock_57 : decode cX1_spreadBlock 57 = .ok (.invokestatic 39, 3) := by decide +kernel
theorem dX1_spreadBlock_60 : decode cX1_spreadBlock 60 = .ok (.ixor, 1) := by decide +kernel
theorem dX1_spreadBlock_61 : decode cX1_spreadBlock 61 = .ok (.iload_n 3, 1) := by decide +kernel
theorem dX1_spreadBlock_62 : decode cX1_spreadBlock 62 = .ok (.iconst 3, 1) := by decide +kernel
theorem dX1_spreadBlock_63 : decode cX1_spreadBlock 63 = .ok (.iushr, 1) := by decide +kernel
theorem dX1_spreadBlock_64 : decode cX1_spreadBlock 64 = .ok (.ixor, 1) := by decide +kernel
theorem dX1_spreadBlock_65 : decode cX1_spreadBlock 65 = .ok (.istore 5, 2) := by decide +kernel
theorem dX1_spreadBlock_67 : decode cX1_spreadBlock 67 = .ok (.aload_n 0, 1) := by decide +kernel
theorem dX1_spreadBlock_68 : decode cX1_spreadBlock 68 = .ok (.getfield 15, 3) := by decide +kernel
theorem dX1_spreadBlock_71 : decode cX1_spreadBlock 71 = .ok (.iload_n 1, 1) := by decide +kernel
theorem dX1_spreadBlock_72 : decode cX1_spreadBlock 72 = .ok (.iload 4, 2) := by decide +kernel
theorem dX1_spreadBlock_74 : decode cX1_spreadBlock 74 = .ok (.aload_n 0, 1) := by decide +kernel
theorem dX1_spreadBlock_75 : decode cX1_spreadBlock 75 = .ok (.getfield 15, 3) := by decide +kernel
theorem dX1_spreadBlock_78 : decode cX1_spreadBlock 78 = .ok (.iload_n 1, 1) := by decide +kernel
theorem dX1_spreadBlock_79 : decode cX1_spreadBlock 79 = .ok (.bipush 7, 2) := by decide +kernel
theorem dX1_spreadBlock_81 : decode cX1_spreadBlock 81 = .ok (.isub, 1) := by decide +kernel
theorem dX1_spreadBlock_82 : decode cX1_spreadBlock 82 = .ok (.iaload, 1) := by decide +kernel
theorem dX1_spreadBlock_83 : decode cX1_spreadBlock 83 = .ok (.iadd, 1) := by decide +kernel
theorem dX1_spreadBlock_84 : decode cX1_spreadBlock 84 = .ok (.iload 5, 2) := by decide +kernel
theorem dX1_spreadBlock_86 : decode cX1_spreadBlock 86 = .ok (.iadd, 1) := by decide +kernel
theorem dX1_spreadBlock_87 : decode cX1_spreadBlock 87 = .ok (.aload_n 0, 1) := by decide +kernel
theorem dX1_spreadBlock_88 : decode cX1_spreadBlock 88 = .ok (.getfield 15, 3) := by decide +kernel
theorem dX1_spreadBlock_91 : decode cX1_spreadBlock 91 = .ok (.iload_n 1, 1) := by decide +kernel
theorem dX1_spreadBlock_92 : decode cX1_spreadBlock 92 = .ok (.bipush 16, 2) := by decide +kernel
theorem dX1_spreadBlock_94 : decode cX1_spreadBlock 94 = .ok (.isub, 1) := by decide +kernel
theorem dX1_spreadBlock_95 : decode cX1_spreadBlock 95 = .ok (.iaload, 1) := by decide +kernel
theorem dX1_spreadBlock_96 : decode cX1_spreadBlock 96 = .ok (.iadd, 1) := by decide +kernel
theorem dX1_spreadBlock_97 : decode cX1_spreadBlock 97 = .ok (.iastore, 1) := by decide +kernel
theorem dX1_spreadBlock_98 : decode cX1_spreadBlock 98 = .ok (.iinc 1 1, 3) := by decide +kernel
theorem dX1_spreadBlock_101 : decode cX1_spreadBlock 101 = .ok (.goto (-98), 3) := by decide +kernel
theorem dX1_spreadBlock_104 : decode cX1_spreadBlock 104 = .ok (.return_, 1) := by decide +kernel
theorem dX1_mixBlock_0 : decode cX1_mixBlock 0 = .ok (.aload_n 0, 1) := by decide +kernel
theorem dX1_mixBlock_1 : decode cX1_mixBlock 1 = .ok (.getfield 9, 3) := by decide +kernel
theorem dX1_mixBlock_4 : decode cX1_mixBlock 4 = .ok (.iconst 0, 1) := by decide +kernel
theorem dX1_mixBlock_5 : decode cX1_mixBlock 5 = .ok (.iaload, 1) := by decide +kernel
theorem dX1_mixBlock_6 : decode cX1_mixBlock 6 = .ok (.istore_n 1, 1) := by decide +kernel
theorem dX1_mixBlock_7 : decode cX1_mixBlock 7 = .ok (.aload_n 0, 1) := by decide +kernel
theorem dX1_mixBlock_8 : decode cX1_mixBlock 8 = .ok (.getfield 9, 3) := by decide +kernel
theorem dX1_mixBlock_11 : decode cX1_mixBlock 11 = .ok (.iconst 1, 1) := by decide +kernel
theorem dX1_mixBlock_12 : decode cX1_mixBlock 12 = .ok (.iaload, 1) := by decide +kernel
theorem dX1_mixBlock_13 : decode cX1_mixBlock 13 = .ok (.istore_n 2, 1) := by decide +kernel
theorem dX1_mixBlock_14 : decode cX1_mixBlock 14 = .ok (.aload_n 0, 1) := by decide +kernel
theorem dX1_mixBlock_15 : decode cX1_mixBlock 15 = .ok (.getfield 9, 3) := by decide +kernel
theorem dX1_mixBlock_18 : decode cX1_mixBlock 18 = .ok (.iconst 2, 1) := by decide +kernel
theorem dX1_mixBlock_19 : decode cX1_mixBlock 19 = .ok (.iaload, 1) := by decide +kernel
theorem dX1_mixBlock_20 : decode cX1_mixBlock 20 = .ok (.istore_n 3, 1) := by decide +kernel
theorem dX1_mixBlock_21 : decode cX1_mixBlock 21 = .ok (.aload_n 0, 1) := by decide +kernel
theorem dX1_mixBlock_22 : decode cX1_mixBlock 22 = .ok (.getfield 9, 3) := by decide +kernel
theorem dX1_mixBlock_25 : decode cX1_mixBlock 25 = .ok (.iconst 3, 1) := by decide +kernel
theorem dX1_mixBlock_26 : decode cX1_mixBlock 26 = .ok (.iaload, 1) := by decide +kernel
theorem dX1_mixBlock_27 : decode cX1_mixBlock 27 = .ok (.istore 4, 2) := by decide +kernel
theorem dX1_mixBlock_29 : decode cX1_mixBlock 29 = .ok (.aload_n 0, 1) := by decide +kernel
theorem dX1_mixBlock_30 : decode cX1_mixBlock 30 = .ok (.getfield 9, 3) := by decide +kernel
theorem dX1_mixBlock_33 : decode cX1_mixBlock 33 = .ok (.iconst 4, 1) := by decide +kernel
theorem dX1_mixBlock_34 : decode cX1_mixBlock 34 = .ok (.iaload, 1) := by decide +kernel
theorem dX1_mixBlock_35 : decode cX1_mixBlock 35 = .ok (.istore 5, 2) := by decide +kernel
theorem dX1_mixBlock_37 : decode cX1_mixBlock 37 = .ok (.aload_n 0, 1) := by decide +kernel
theorem dX1_mixBlock_38 : decode cX1_mixBlock 38 = .ok (.getfield 9, 3) := by decide +kernel
theorem dX1_mixBlock_41 : decode cX1_mixBlock 41 = .ok (.iconst 5, 1) := by decide +kernel
theorem dX1_mixBlock_42 : decode cX1_mixBlock 42 = .ok (.iaload, 1) := by decide +kernel
theorem dX1_mixBlock_43 : decode cX1_mixBlock 43 = .ok (.istore 6, 2) := by decide +kernel
theorem dX1_mixBlock_45 : decode cX1_mixBlock 45 = .ok (.aload_n 0, 1) := by decide +kernel
theorem dX1_mixBlock_46 : decode cX1_mixBlock 46 = .ok (.getfield 9, 3) := by decide +kernel
theorem dX1_mixBlock_49 : decode cX1_mixBlock 49 = .ok (.bipush 6, 2) := by decide +kernel
theorem dX1_mixBlock_51 : decode cX1_mixBlock 51 = .ok (.iaload, 1) := by decide +kernel
theorem dX1_mixBlock_52 : decode cX1_mixBlock 52 = .ok (.istore 7, 2) := by decide +kernel
theorem dX1_mixBlock_54 : decode cX1_mixBlock 54 = .ok (.aload_n 0, 1) := by decide +kernel
theorem dX1_mixBlock_55 : decode cX1_mixBlock 55 = .ok (.getfield 9, 3) := by decide +kernel
theorem dX1_mixBlock_58 : decode cX1_mixBlock 58 = .ok (.bipush 7, 2) := by decide +kernel
theorem dX1_mixBlock_60 : decode cX1_mixBlock 60 = .ok (.iaload, 1) := by decide +kernel
theorem dX1_mixBlock_61 : decode cX1_mixBlock 61 = .ok (.istore 8, 2) := by decide +kernel
theorem dX1_mixBlock_63 : decode cX1_mixBlock 63 = .ok (.iconst 0, 1) := by decide +kernel
theorem dX1_mixBlock_64 : decode cX1_mixBlock 64 = .ok (.istore 9, 2) := by decide +kernel
theorem dX1_mixBlock_66 : decode cX1_mixBlock 66 = .ok (.iload 9, 2) := by decide +kernel
theorem dX1_mixBlock_68 : decode cX1_mixBlock 68 = .ok (.bipush 64, 2) := by decide +kernel
theorem dX1_mixBlock_70 : decode cX1_mixBlock 70 = .ok (.if_icmp .ge 143, 3) := by decide +kernel
theorem dX1_mixBlock_73 : decode cX1_mixBlock 73 = .ok (.iload 5, 2) := by decide +kernel
theorem dX1_mixBlock_75 : decode cX1_mixBlock 75 = .ok (.bipush 6, 2) := by decide +kernel
theorem dX1_mixBlock_77 : decode cX1_mixBlock 77 = .ok (.invokestatic 39, 3) := by decide +kernel
theorem dX1_mixBlock_80 : decode cX1_mixBlock 80 = .ok (.iload 5, 2) := by decide +kernel
theorem dX1_mixBlock_82 : decode cX1_mixBlock 82 = .ok (.bipush 11, 2) := by decide +kernel
theorem dX1_mixBlock_84 : decode cX1_mixBlock 84 = .ok (.invokestatic 39, 3) := by decide +kernel
theorem dX1_mixBlock_87 : decode cX1_mixBlock 87 = .ok (.ixor, 1) := by decide +kernel
theorem dX1_mixBlock_88 : decode cX1_mixBlock 88 = .ok (.iload 5, 2) := by decide +kernel
theorem dX1_mixBlock_90 : decode cX1_mixBlock 90 = .ok (.bipush 25, 2) := by decide +kernel
theorem dX1_mixBlock_92 : decode cX1_mixBlock 92 = .ok (.invokestatic 39, 3) := by decide +kernel
theorem dX1_mixBlock_95 : decode cX1_mixBlock 95 = .ok (.ixor, 1) := by decide +kernel
theorem dX1_mixBlock_96 : decode cX1_mixBlock 96 = .ok (.istore 10, 2) := by decide +kernel
theorem dX1_mixBlock_98 : decode cX1_mixBlock 98 = .ok (.iload_n 1, 1) := by decide +kernel
theorem dX1_mixBlock_99 : decode cX1_mixBlock 99 = .ok (.iconst 2, 1) := by decide +kernel
theorem dX1_mixBlock_100 : decode cX1_mixBlock 100 = .ok (.invokestatic 39, 3) := by decide +kernel
theorem dX1_mixBlock_103 : decode cX1_mixBlock 103 = .ok (.iload_n 1, 1) := by decide +kernel
theorem dX1_mixBlock_104 : decode cX1_mixBlock 104 = .ok (.bipush 13, 2) := by decide +kernel
theorem dX1_mixBlock_106 : decode cX1_mixBlock 106 = .ok (.invokestatic 39, 3) := by decide +kernel
theorem dX1_mixBlock_109 : decode cX1_mixBlock 109 = .ok (.ixor, 1) := by decide +kernel
theorem dX1_mixBlock_110 : decode cX1_mixBlock 110 = .ok (.iload_n 1, 1) := by decide +kernel
theorem dX1_mixBlock_111 : decode cX1_mixBlock 111 = .ok (.bipush 22, 2) := by decide +kernel
theorem dX1_mixBlock_113 : decode cX1_mixBlock 113 = .ok (.invokestatic 39, 3) := by decide +kernel
theorem dX1_mixBlock_116 : decode cX1_mixBlock 116 = .ok (.ixor, 1) := by decide +kernel
theorem dX1_mixBlock_117 : decode cX1_mixBlock 117 = .ok (.istore 11, 2) := by decide +kernel
theorem dX1_mixBlock_119 : decode cX1_mixBlock 119 = .ok (.iload 5, 2) := by decide +kernel
theorem dX1_mixBlock_121 : decode cX1_mixBlock 121 = .ok (.iload 6, 2) := by decide +kernel
theorem dX1_mixBlock_123 : decode cX1_mixBlock 123 = .ok (.iand, 1) := by decide +kernel
theorem dX1_mixBlock_124 : decode cX1_mixBlock 124 = .ok (.iload 5, 2) := by decide +kernel
theorem dX1_mixBlock_126 : decode cX1_mixBlock 126 = .ok (.iconst (-1), 1) := by decide +kernel
theorem dX1_mixBlock_127 : decode cX1_mixBlock 127 = .ok (.ixor, 1) := by decide +kernel
theorem dX1_mixBlock_128 : decode cX1_mixBlock 128 = .ok (.iload 7, 2) := by decide +kernel
theorem dX1_mixBlock_130 : decode cX1_mixBlock 130 = .ok (.iand, 1) := by decide +kernel
theorem dX1_mixBlock_131 : decode cX1_mixBlock 131 = .ok (.ixor, 1) := by decide +kernel
theorem dX1_mixBlock_132 : decode cX1_mixBlock 132 = .ok (.istore 12, 2) := by decide +kernel
theorem dX1_mixBlock_134 : decode cX1_mixBlock 134 = .ok (.iload_n 1, 1) := by decide +kernel
theorem dX1_mixBlock_135 : decode cX1_mixBlock 135 = .ok (.iload_n 2, 1) := by decide +kernel
theorem dX1_mixBlock_136 : decode cX1_mixBlock 136 = .ok (.iand, 1) := by decide +kernel
theorem dX1_mixBlock_137 : decode cX1_mixBlock 137 = .ok (.iload_n 1, 1) := by decide +kernel
theorem dX1_mixBlock_138 : decode cX1_mixBlock 138 = .ok (.iload_n 3, 1) := by decide +kernel
theorem dX1_mixBlock_139 : decode cX1_mixBlock 139 = .ok (.iand, 1) := by decide +kernel
theorem dX1_mixBlock_140 : decode cX1_mixBlock 140 = .ok (.ixor, 1) := by decide +kernel
theorem dX1_mixBlock_141 : decode cX1_mixBlock 141 = .ok (.iload_n 2, 1) := by decide +kernel
theorem dX1_mixBlock_142 : decode cX1_mixBlock 142 = .ok (.iload_n 3, 1) := by decide +kernel
theorem dX1_mixBlock_143 : decode cX1_mixBlock 143 = .ok (.iand, 1) := by decide +kernel
theorem dX1_mixBlock_144 : decode cX1_mixBlock 144 = .ok (.ixor, 1) := by decide +kernel
theorem dX1_mixBlock_145 : decode cX1_mixBlock 145 = .ok (.istore 13, 2) := by decide +kernel
theorem dX1_mixBlock_147 : decode cX1_mixBlock 147 = .ok (.iload 8, 2) := by decide +kernel
theorem dX1_mixBlock_149 : decode cX1_mixBlock 149 = .ok (.iload 10, 2) := by decide +kernel
theorem dX1_mixBlock_151 : decode cX1_mixBlock 151 = .ok (.iadd, 1) := by decide +kernel
theorem dX1_mixBlock_152 : decode cX1_mixBlock 152 = .ok (.iload 12, 2) := by decide +kernel
theorem dX1_mixBlock_154 : decode cX1_mixBlock 154 = .ok (.iadd, 1) := by decide +kernel
theorem dX1_mixBlock_155 : decode cX1_mixBlock 155 = .ok (.getstatic 43, 3) := by decide +kernel
theorem dX1_mixBlock_158 : decode cX1_mixBlock 158 = .ok (.iload 9, 2) := by decide +kernel
theorem dX1_mixBlock_160 : decode cX1_mixBlock 160 = .ok (.iaload, 1) := by decide +kernel
theorem dX1_mixBlock_161 : decode cX1_mixBlock 161 = .ok (.iadd, 1) := by decide +kernel
theorem dX1_mixBlock_162 : decode cX1_mixBlock 162 = .ok (.aload_n 0, 1) := by decide +kernel
theorem dX1_mixBlock_163 : decode cX1_mixBlock 163 = .ok (.getfield 15, 3) := by decide +kernel
theorem dX1_mixBlock_166 : decode cX1_mixBlock 166 = .ok (.iload 9, 2) := by decide +kernel
theorem dX1_mixBlock_168 : decode cX1_mixBlock 168 = .ok (.iaload, 1) := by decide +kernel
theorem dX1_mixBlock_169 : decode cX1_mixBlock 169 = .ok (.iadd, 1) := by decide +kernel
theorem dX1_mixBlock_170 : decode cX1_mixBlock 170 = .ok (.istore 14, 2) := by decide +kernel
theorem dX1_mixBlock_172 : decode cX1_mixBlock 172 = .ok (.iload 7, 2) := by decide +kernel
theorem dX1_mixBlock_174 : decode cX1_mixBlock 174 = .ok (.istore 8, 2) := by decide +kernel
theorem dX1_mixBlock_176 : decode cX1_mixBlock 176 = .ok (.iload 6, 2) := by decide +kernel
theorem dX1_mixBlock_178 : decode cX1_mixBlock 178 = .ok (.istore 7, 2) := by decide +kernel
theorem dX1_mixBlock_180 : decode cX1_mixBlock 180 = .ok (.iload 5, 2) := by decide +kernel
theorem dX1_mixBlock_182 : decode cX1_mixBlock 182 = .ok (.istore 6, 2) := by decide +kernel
theorem dX1_mixBlock_184 : decode cX1_mixBlock 184 = .ok (.iload 4, 2) := by decide +kernel
theorem dX1_mixBlock_186 : decode cX1_mixBlock 186 = .ok (.iload 14, 2) := by decide +kernel
theorem dX1_mixBlock_188 : decode cX1_mixBlock 188 = .ok (.iadd, 1) := by decide +kernel
theorem dX1_mixBlock_189 : decode cX1_mixBlock 189 = .ok (.istore 5, 2) := by decide +kernel
theorem dX1_mixBlock_191 : decode cX1_mixBlock 191 = .ok (.iload_n 3, 1) := by decide +kernel
theorem dX1_mixBlock_192 : decode cX1_mixBlock 192 = .ok (.istore 4, 2) := by decide +kernel
theorem dX1_mixBlock_194 : decode cX1_mixBlock 194 = .ok (.iload_n 2, 1) := by decide +kernel
theorem dX1_mixBlock_195 : decode cX1_mixBlock 195 = .ok (.istore_n 3, 1) := by decide +kernel
theorem dX1_mixBlock_196 : decode cX1_mixBlock 196 = .ok (.iload_n 1, 1) := by decide +kernel
theorem dX1_mixBlock_197 : decode cX1_mixBlock 197 = .ok (.istore_n 2, 1) := by decide +kernel
theorem dX1_mixBlock_198 : decode cX1_mixBlock 198 = .ok (.iload 14, 2) := by decide +kernel
theorem dX1_mixBlock_200 : decode cX1_mixBlock 200 = .ok (.iload 11, 2) := by decide +kernel
theorem dX1_mixBlock_202 : decode cX1_mixBlock 202 = .ok (.iadd, 1) := by decide +kernel
theorem dX1_mixBlock_203 : decode cX1_mixBlock 203 = .ok (.iload 13, 2) := by decide +kernel
theorem dX1_mixBlock_205 : decode cX1_mixBlock 205 = .ok (.iadd, 1) := by decide +kernel
theorem dX1_mixBlock_206 : decode cX1_mixBlock 206 = .ok (.istore_n 1, 1) := by decide +kernel
theorem dX1_mixBlock_207 : decode cX1_mixBlock 207 = .ok (.iinc 9 1, 3) := by decide +kernel
theorem dX1_mixBlock_210 : decode cX1_mixBlock 210 = .ok (.goto (-144), 3) := by decide +kernel
theorem dX1_mixBlock_213 : decode cX1_mixBlock 213 = .ok (.aload_n 0, 1) := by decide +kernel
theorem dX1_mixBlock_214 : decode cX1_mixBlock 214 = .ok (.getfield 9, 3) := by decide +kernel
theorem dX1_mixBlock_217 : decode cX1_mixBlock 217 = .ok (.iconst 0, 1) := by decide +kernel
theorem dX1_mixBlock_218 : decode cX1_mixBlock 218 = .ok (.dup2, 1) := by decide +kernel
theorem dX1_mixBlock_219 : decode cX1_mixBlock 219 = .ok (.iaload, 1) := by decide +kernel
theorem dX1_mixBlock_220 : decode cX1_mixBlock 220 = .ok (.iload_n 1, 1) := by decide +kernel
theorem dX1_mixBlock_221 : decode cX1_mixBlock 221 = .ok (.iadd, 1) := by decide +kernel
theorem dX1_mixBlock_222 : decode cX1_mixBlock 222 = .ok (.iastore, 1) := by decide +kernel
theorem dX1_mixBlock_223 : decode cX1_mixBlock 223 = .ok (.aload_n 0, 1) := by decide +kernel
theorem dX1_mixBlock_224 : decode cX1_mixBlock 224 = .ok (.getfield 9, 3) := by decide +kernel
theorem dX1_mixBlock_227 : decode cX1_mixBlock 227 = .ok (.iconst 1, 1) := by decide +kernel
theorem dX1_mixBlock_228 : decode cX1_mixBlock 228 = .ok (.dup2, 1) := by decide +kernel
theorem dX1_mixBlock_229 : decode cX1_mixBlock 229 = .ok (.iaload, 1) := by decide +kernel
theorem dX1_mixBlock_230 : decode cX1_mixBlock 230 = .ok (.iload_n 2, 1) := by decide +kernel
theorem dX1_mixBlock_231 : decode cX1_mixBlock 231 = .ok (.iadd, 1) := by decide +kernel
theorem dX1_mixBlock_232 : decode cX1_mixBlock 232 = .ok (.iastore, 1) := by decide +kernel
theorem dX1_mixBlock_233 : decode cX1_mixBlock 233 = .ok (.aload_n 0, 1) := by decide +kernel
theorem dX1_mixBlock_234 : decode cX1_mixBlock 234 = .ok (.getfield 9, 3) := by decide +kernel
theorem dX1_mixBlock_237 : decode cX1_mixBlock 237 = .ok (.iconst 2, 1) := by decide +kernel
theorem dX1_mixBlock_238 : decode cX1_mixBlock 238 = .ok (.dup2, 1) := by decide +kernel
theorem dX1_mixBlock_239 : decode cX1_mixBlock 239 = .ok (.iaload, 1) := by decide +kernel
theorem dX1_mixBlock_240 : decode cX1_mixBlock 240 = .ok (.iload_n 3, 1) := by decide +kernel
theorem dX1_mixBlock_241 : decode cX1_mixBlock 241 = .ok (.iadd, 1) := by decide +kernel
theorem dX1_mixBlock_242 : decode cX1_mixBlock 242 = .ok (.iastore, 1) := by decide +kernel
theorem dX1_mixBlock_243 : decode cX1_mixBlock 243 = .ok (.aload_n 0, 1) := by decide +kernel
theorem dX1_mixBlock_244 : decode cX1_mixBlock 244 = .ok (.getfield 9, 3) := by decide +kernel
theorem dX1_mixBlock_247 : decode cX1_mixBlock 247 = .ok (.iconst 3, 1) := by decide +kernel
theorem dX1_mixBlock_248 : decode cX1_mixBlock 248 = .ok (.dup2, 1) := by decide +kernel
theorem dX1_mixBlock_249 : decode cX1_mixBlock 249 = .ok (.iaload, 1) := by decide +kernel
theorem dX1_mixBlock_250 : decode cX1_mixBlock 250 = .ok (.iload 4, 2) := by decide +kernel
theorem dX1_mixBlock_252 : decode cX1_mixBlock 252 = .ok (.iadd, 1) := by decide +kernel
theorem dX1_mixBlock_253 : decode cX1_mixBlock 253 = .ok (.iastore, 1) := by decide +kernel
theorem dX1_mixBlock_254 : decode cX1_mixBlock 254 = .ok (.aload_n 0, 1) := by decide +kernel
theorem dX1_mixBlock_255 : decode cX1_mixBlock 255 = .ok (.getfield 9, 3) := by decide +kernel
theorem dX1_mixBlock_258 : decode cX1_mixBlock 258 = .ok (.iconst 4, 1) := by decide +kernel
theorem dX1_mixBlock_259 : decode cX1_mixBlock 259 = .ok (.dup2, 1) := by decide +kernel
theorem dX1_mixBlock_260 : decode cX1_mixBlock 260 = .ok (.iaload, 1) := by decide +kernel
theorem dX1_mixBlock_261 : decode cX1_mixBlock 261 = .ok (.iload 5, 2) := by decide +kernel
theorem dX1_mixBlock_263 : decode cX1_mixBlock 263 = .ok (.iadd, 1) := by decide +kernel
theorem dX1_mixBlock_264 : decode cX1_mixBlock 264 = .ok (.iastore, 1) := by decide +kernel
theorem dX1_mixBlock_265 : decode cX1_mixBlock 265 = .ok (.aload_n 0, 1) := by decide +kernel
theorem dX1_mixBlock_266 : decode cX1_mixBlock 266 = .ok (.getfield 9, 3) := by decide +kernel
theorem dX1_mixBlock_269 : decode cX1_mixBlock 269 = .ok (.iconst 5, 1) := by decide +kernel
theorem dX1_mixBlock_270 : decode cX1_mixBlock 270 = .ok (.dup2, 1) := by decide +kernel
theorem dX1_mixBlock_271 : decode cX1_mixBlock 271 = .ok (.iaload, 1) := by decide +kernel
theorem dX1_mixBlock_272 : decode cX1_mixBlock 272 = .ok (.iload 6, 2) := by decide +kernel
theorem dX1_mixBlock_274 : decode cX1_mixBlock 274 = .ok (.iadd, 1) := by decide +kernel
theorem dX1_mixBlock_275 : decode cX1_mixBlock 275 = .ok (.iastore, 1) := by decide +kernel
theorem dX1_mixBlock_276 : decode cX1_mixBlock 276 = .ok (.aload_n 0, 1) := by decide +kernel
theorem dX1_mixBlock_277 : decode cX1_mixBlock 277 = .ok (.getfield 9, 3) := by decide +kernel
theorem dX1_mixBlock_280 : decode cX1_mixBlock 280 = .ok (.bipush 6, 2) := by decide +kernel
theorem dX1_mixBlock_282 : decode cX1_mixBlock 282 = .ok (.dup2, 1) := by decide +kernel
theorem dX1_mixBlock_283 : decode cX1_mixBlock 283 = .ok (.iaload, 1) := by decide +kernel
theorem dX1_mixBlock_284 : decode cX1_mixBlock 284 = .ok (.iload 7, 2) := by decide +kernel
theorem dX1_mixBlock_286 : decode cX1_mixBlock 286 = .ok (.iadd, 1) := by decide +kernel
theorem dX1_mixBlock_287 : decode cX1_mixBlock 287 = .ok (.iastore, 1) := by decide +kernel
theorem dX1_mixBlock_288 : decode cX1_mixBlock 288 = .ok (.aload_n 0, 1) := by decide +kernel
theorem dX1_mixBlock_289 : decode cX1_mixBlock 289 = .ok (.getfield 9, 3) := by decide +kernel
theorem dX1_mixBlock_292 : decode cX1_mixBlock 292 = .ok (.bipush 7, 2) := by decide +kernel
theorem dX1_mixBlock_294 : decode cX1_mixBlock 294 = .ok (.dup2, 1) := by decide +kernel
theorem dX1_mixBlock_295 : decode cX1_mixBlock 295 = .ok (.iaload, 1) := by decide +kernel
theorem dX1_mixBlock_296 : decode cX1_mixBlock 296 = .ok (.iload 8, 2) := by decide +kernel
theorem dX1_mixBlock_298 : decode cX1_mixBlock 298 = .ok (.iadd, 1) := by decide +kernel
theorem dX1_mixBlock_299 : decode cX1_mixBlock 299 = .ok (.iastore, 1) := by decide +kernel
theorem dX1_mixBlock_300 : decode cX1_mixBlock 300 = .ok (.return_, 1) := by decide +kernel
theorem dX1_turned_0 : decode cX1_turned 0 = .ok (.iload_n 0, 1) := by decide +kernel
theorem dX1_turned_1 : decode cX1_turned 1 = .ok (.iload_n 1, 1) := by decide +kernel
theorem dX1_turned_2 : decode cX1_turned 2 = .ok (.iushr, 1) := by decide +kernel
theorem dX1_turned_3 : decode cX1_turned 3 = .ok (.iload_n 0, 1) := by decide +kernel
theorem dX1_turned_4 : decode cX1_turned 4 = .ok (.bipush 32, 2) := by decide +kernel
theorem dX1_turned_6 : decode cX1_turned 6 = .ok (.iload_n 1, 1) := by decide +kernel
theorem dX1_turned_7 : decode cX1_turned 7 = .ok (.isub, 1) := by decide +kernel
theorem dX1_turned_8 : decode cX1_turned 8 = .ok (.ishl, 1) := by decide +kernel
theorem dX1_turned_9 : decode cX1_turned 9 = .ok (.ior, 1) := by decide +kernel
theorem dX1_turned_10 : decode cX1_turned 10 = .ok (.ireturn, 1) := by decide +kernel
theorem dX2_init_0 : decode cX2_init 0 = .ok (.aload_n 0, 1) := by decide +kernel
theorem dX2_init_1 : decode cX2_init 1 = .ok (.invokespecial 3, 3) := by decide +kernel
theorem dX2_init_4 : decode cX2_init 4 = .ok (.aload_n 0, 1) := by decide +kernel
theorem dX2_init_5 : decode cX2_init 5 = .ok (.bipush 8, 2) := by decide +kernel
theorem dX2_init_7 : decode cX2_init 7 = .ok (.newarray .int, 2) := by decide +kernel
theorem dX2_init_9 : decode cX2_init 9 = .ok (.putfield 9, 3) := by decide +kernel
theorem dX2_init_12 : decode cX2_init 12 = .ok (.aload_n 0, 1) := by decide +kernel
theorem dX2_init_13 : decode cX2_init 13 = .ok (.aload_n 1, 1) := by decide +kernel
theorem dX2_init_14 : decode cX2_init 14 = .ok (.putfield 15, 3) := by decide +kernel
theorem dX2_init_17 : decode cX2_init 17 = .ok (.aload_n 0, 1) := by decide +kernel
theorem dX2_init_18 : decode cX2_init 18 = .ok (.iload_n 2, 1) := by decide +kernel
theorem dX2_init_19 : decode cX2_init 19 = .ok (.putfield 19, 3) := by decide +kernel
theorem dX2_init_22 : decode cX2_init 22 = .ok (.aload_n 0, 1) := by decide +kernel
theorem dX2_init_23 : decode cX2_init 23 = .ok (.iload_n 3, 1) := by decide +kernel
theorem dX2_init_24 : decode cX2_init 24 = .ok (.putfield 23, 3) := by decide +kernel
theorem dX2_init_27 : decode cX2_init 27 = .ok (.return_, 1) := by decide +kernel
theorem dX2_isOf_0 : decode cX2_isOf 0 = .ok (.aload_n 0, 1) := by decide +kernel
theorem dX2_isOf_1 : decode cX2_isOf 1 = .ok (.getfield 15, 3) := by decide +kernel
theorem dX2_isOf_4 : decode cX2_isOf 4 = .ok (.aload_n 1, 1) := by decide +kernel
theorem dX2_isOf_5 : decode cX2_isOf 5 = .ok (.if_acmp .ne 23, 3) := by decide +kernel
theorem dX2_isOf_8 : decode cX2_isOf 8 = .ok (.aload_n 0, 1) := by decide +kernel
theorem dX2_isOf_9 : decode cX2_isOf 9 = .ok (.getfield 19, 3) := by decide +kernel
theorem dX2_isOf_12 : decode cX2_isOf 12 = .ok (.iload_n 2, 1) := by decide +kernel
theorem dX2_isOf_13 : decode cX2_isOf 13 = .ok (.if_icmp .ne 15, 3) := by decide +kernel
theorem dX2_isOf_16 : decode cX2_isOf 16 = .ok (.aload_n 0, 1) := by decide +kernel
theorem dX2_isOf_17 : decode cX2_isOf 17 = .ok (.getfield 23, 3) := by decide +kernel
theorem dX2_isOf_20 : decode cX2_isOf 20 = .ok (.iload_n 3, 1) := by decide +kernel
theorem dX2_isOf_21 : decode cX2_isOf 21 = .ok (.if_icmp .ne 7, 3) := by decide +kernel
theorem dX2_isOf_24 : decode cX2_isOf 24 = .ok (.iconst 1, 1) := by decide +kernel
theorem dX2_isOf_25 : decode cX2_isOf 25 = .ok (.goto 4, 3) := by decide +kernel
theorem dX2_isOf_28 : decode cX2_isOf 28 = .ok (.iconst 0, 1) := by decide +kernel
theorem dX2_isOf_29 : decode cX2_isOf 29 = .ok (.ireturn, 1) := by decide +kernel
theorem dX3_init_0 : decode cX3_init 0 = .ok (.aload_n 0, 1) := by decide +kernel
theorem dX3_init_1 : decode cX3_init 1 = .ok (.invokespecial 3, 3) := by decide +kernel
theorem dX3_init_4 : decode cX3_init 4 = .ok (.aload_n 0, 1) := by decide +kernel
theorem dX3_init_5 : decode cX3_init 5 = .ok (.sipush 1000, 3) := by decide +kernel
theorem dX3_init_8 : decode cX3_init 8 = .ok (.newarray .byte, 2) := by decide +kernel
theorem dX3_init_10 : decode cX3_init 10 = .ok (.putfield 9, 3) := by decide +kernel
theorem dX3_init_13 : decode cX3_init 13 = .ok (.aload_n 0, 1) := by decide +kernel
theorem dX3_init_14 : decode cX3_init 14 = .ok (.bipush 8, 2) := by decide +kernel
theorem dX3_init_16 : decode cX3_init 16 = .ok (.newarray .int, 2) := by decide +kernel
theorem dX3_init_18 : decode cX3_init 18 = .ok (.putfield 15, 3) := by decide +kernel
theorem dX3_init_21 : decode cX3_init 21 = .ok (.aload_n 0, 1) := by decide +kernel
theorem dX3_init_22 : decode cX3_init 22 = .ok (.iconst 1, 1) := by decide +kernel
theorem dX3_init_23 : decode cX3_init 23 = .ok (.putfield 19, 3) := by decide +kernel
theorem dX3_init_26 : decode cX3_init 26 = .ok (.aload_n 0, 1) := by decide +kernel
theorem dX3_init_27 : decode cX3_init 27 = .ok (.sipush 200, 3) := by decide +kernel
theorem dX3_init_30 : decode cX3_init 30 = .ok (.newarray .byte, 2) := by decide +kernel
theorem dX3_init_32 : decode cX3_init 32 = .ok (.putfield 23, 3) := by decide +kernel
theorem dX3_init_35 : decode cX3_init 35 = .ok (.aload_n 0, 1) := by decide +kernel
theorem dX3_init_36 : decode cX3_init 36 = .ok (.bipush 10, 2) := by decide +kernel
theorem dX3_init_38 : decode cX3_init 38 = .ok (.newarray .int, 2) := by decide +kernel
theorem dX3_init_40 : decode cX3_init 40 = .ok (.putfield 26, 3) := by decide +kernel
theorem dX3_init_43 : decode cX3_init 43 = .ok (.aload_n 0, 1) := by decide +kernel
theorem dX3_init_44 : decode cX3_init 44 = .ok (.iload_n 1, 1) := by decide +kernel
theorem dX3_init_45 : decode cX3_init 45 = .ok (.putfield 29, 3) := by decide +kernel
theorem dX3_init_48 : decode cX3_init 48 = .ok (.return_, 1) := by decide +kernel
theorem dX4_init_0 : decode cX4_init 0 = .ok (.aload_n 0, 1) := by decide +kernel
theorem dX4_init_1 : decode cX4_init 1 = .ok (.invokespecial 1, 3) := by decide +kernel
theorem dX4_init_4 : decode cX4_init 4 = .ok (.aload_n 0, 1) := by decide +kernel
theorem dX4_init_5 : decode cX4_init 5 = .ok (.bipush 100, 2) := by decide +kernel
theorem dX4_init_7 : decode cX4_init 7 = .ok (.anewarray 9, 3) := by decide +kernel
theorem dX4_init_10 : decode cX4_init 10 = .ok (.putfield 11, 3) := by decide +kernel
theorem dX4_init_13 : decode cX4_init 13 = .ok (.aload_n 0, 1) := by decide +kernel
theorem dX4_init_14 : decode cX4_init 14 = .ok (.bipush 16, 2) := by decide +kernel
theorem dX4_init_16 : decode cX4_init 16 = .ok (.anewarray 15, 3) := by decide +kernel
theorem dX4_init_19 : decode cX4_init 19 = .ok (.putfield 17, 3) := by decide +kernel
theorem dX4_init_22 : decode cX4_init 22 = .ok (.aload_n 0, 1) := by decide +kernel
theorem dX4_init_23 : decode cX4_init 23 = .ok (.sipush 400, 3) := by decide +kernel
theorem dX4_init_26 : decode cX4_init 26 = .ok (.anewarray 21, 3) := by decide +kernel
theorem dX4_init_29 : decode cX4_init 29 = .ok (.putfield 23, 3) := by decide +kernel
theorem dX4_init_32 : decode cX4_init 32 = .ok (.aload_n 0, 1) := by decide +kernel
theorem dX4_init_33 : decode cX4_init 33 = .ok (.sipush 400, 3) := by decide +kernel
theorem dX4_init_36 : decode cX4_init 36 = .ok (.newarray .int, 2) := by decide +kernel
theorem dX4_init_38 : decode cX4_init 38 = .ok (.putfield 27, 3) := by decide +kernel
theorem dX4_init_41 : decode cX4_init 41 = .ok (.aload_n 0, 1) := by decide +kernel
theorem dX4_init_42 : decode cX4_init 42 = .ok (.bipush 10, 2) := by decide +kernel
theorem dX4_init_44 : decode cX4_init 44 = .ok (.newarray .int, 2) := by decide +kernel
theorem dX4_init_46 : decode cX4_init 46 = .ok (.putfield 31, 3) := by decide +kernel
theorem dX4_init_49 : decode cX4_init 49 = .ok (.aload_n 0, 1) := by decide +kernel
theorem dX4_init_50 : decode cX4_init 50 = .ok (.bipush 10, 2) := by decide +kernel
theorem dX4_init_52 : decode cX4_init 52 = .ok (.newarray .int, 2) := by decide +kernel
theorem dX4_init_54 : decode cX4_init 54 = .ok (.putfield 34, 3) := by decide +kernel
theorem dX4_init_57 : decode cX4_init 57 = .ok (.aload_n 0, 1) := by decide +kernel
theorem dX4_init_58 : decode cX4_init 58 = .ok (.new 37, 3) := by decide +kernel
theorem dX4_init_61 : decode cX4_init 61 = .ok (.dup, 1) := by decide +kernel
theorem dX4_init_62 : decode cX4_init 62 = .ok (.invokespecial 39, 3) := by decide +kernel
theorem dX4_init_65 : decode cX4_init 65 = .ok (.putfield 40, 3) := by decide +kernel
theorem dX4_init_68 : decode cX4_init 68 = .ok (.return_, 1) := by decide +kernel
theorem dX4_person_0 : decode cX4_person 0 = .ok (.aload_n 0, 1) := by decide +kernel
theorem dX4_person_1 : decode cX4_person 1 = .ok (.getfield 44, 3) := by decide +kernel
theorem dX4_person_4 : decode cX4_person 4 = .ok (.bipush 24, 2) := by decide +kernel
theorem dX4_person_6 : decode cX4_person 6 = .ok (.if_icmp .lt 6, 3) := by decide +kernel
theorem dX4_person_9 : decode cX4_person 9 = .ok (.bipush (-2), 2) := by decide +kernel
theorem dX4_person_11 : decode cX4_person 11 = .ok (.ireturn, 1) := by decide +kernel
theorem dX4_person_12 : decode cX4_person 12 = .ok (.aload_n 0, 1) := by decide +kernel
theorem dX4_person_13 : decode cX4_person 13 = .ok (.dup, 1) := by decide +kernel
theorem dX4_person_14 : decode cX4_person 14 = .ok (.getfield 44, 3) := by decide +kernel
theorem dX4_person_17 : decode cX4_person 17 = .ok (.dup_x1, 1) := by decide +kernel
theorem dX4_person_18 : decode cX4_person 18 = .ok (.iconst 1, 1) := by decide +kernel
theorem dX4_person_19 : decode cX4_person 19 = .ok (.iadd, 1) := by decide +kernel
theorem dX4_person_20 : decode cX4_person 20 = .ok (.putfield 44, 3) := by decide +kernel
theorem dX4_person_23 : decode cX4_person 23 = .ok (.ireturn, 1) := by decide +kernel
theorem dX4_role_0 : decode cX4_role 0 = .ok (.aload_n 0, 1) := by decide +kernel
theorem dX4_role_1 : decode cX4_role 1 = .ok (.iload_n 1, 1) := by decide +kernel
theorem dX4_role_2 : decode cX4_role 2 = .ok (.invokevirtual 48, 3) := by decide +kernel
theorem dX4_role_5 : decode cX4_role 5 = .ok (.ifCond .eq 10, 3) := by decide +kernel
theorem dX4_role_8 : decode cX4_role 8 = .ok (.iload_n 2, 1) := by decide +kernel
theorem dX4_role_9 : decode cX4_role 9 = .ok (.invokestatic 52, 3) := by decide +kernel
theorem dX4_role_12 : decode cX4_role 12 = .ok (.ifCond .ne 5, 3) := by decide +kernel
theorem dX4_role_15 : decode cX4_role 15 = .ok (.iconst 0, 1) := by decide +kernel
theorem dX4_role_16 : decode cX4_role 16 = .ok (.ireturn, 1) := by decide +kernel
theorem dX4_role_17 : decode cX4_role 17 = .ok (.lload_n 3, 1) := by decide +kernel
theorem dX4_role_18 : decode cX4_role 18 = .ok (.lconst 0, 1) := by decide +kernel
theorem dX4_role_19 : decode cX4_role 19 = .ok (.lcmp, 1) := by decide +kernel
theorem dX4_role_20 : decode cX4_role 20 = .ok (.ifCond .lt 28, 3) := by decide +kernel
theorem dX4_role_23 : decode cX4_role 23 = .ok (.lload 5, 2) := by decide +kernel
theorem dX4_role_25 : decode cX4_role 25 = .ok (.ldc2_w 55, 3) := by decide +kernel
theorem dX4_role_28 : decode cX4_role 28 = .ok (.lcmp, 1) := by decide +kernel
theorem dX4_role_29 : decode cX4_role 29 = .ok (.ifCond .gt 19, 3) := by decide +kernel
theorem dX4_role_32 : decode cX4_role 32 = .ok (.lload_n 3, 1) := by decide +kernel
theorem dX4_role_33 : decode cX4_role 33 = .ok (.lload 5, 2) := by decide +kernel
theorem dX4_role_35 : decode cX4_role 35 = .ok (.lcmp, 1) := by decide +kernel
theorem dX4_role_36 : decode cX4_role 36 = .ok (.ifCond .gt 12, 3) := by decide +kernel
theorem dX4_role_39 : decode cX4_role 39 = .ok (.aload_n 0, 1) := by decide +kernel
theorem dX4_role_40 : decode cX4_role 40 = .ok (.getfield 57, 3) := by decide +kernel
theorem dX4_role_43 : decode cX4_role 43 = .ok (.bipush 100, 2) := by decide +kernel
theorem dX4_role_45 : decode cX4_role 45 = .ok (.if_icmp .lt 5, 3) := by decide +kernel
theorem dX4_role_48 : decode cX4_role 48 = .ok (.iconst 0, 1) := by decide +kernel
theorem dX4_role_49 : decode cX4_role 49 = .ok (.ireturn, 1) := by decide +kernel
theorem dX4_role_50 : decode cX4_role 50 = .ok (.aload_n 0, 1) := by decide +kernel
theorem dX4_role_51 : decode cX4_role 51 = .ok (.getfield 11, 3) := by decide +kernel
theorem dX4_role_54 : decode cX4_role 54 = .ok (.aload_n 0, 1) := by decide +kernel
theorem dX4_role_55 : decode cX4_role 55 = .ok (.getfield 57, 3) := by decide +kernel
theorem dX4_role_58 : decode cX4_role 58 = .ok (.new 9, 3) := by decide +kernel
theorem dX4_role_61 : decode cX4_role 61 = .ok (.dup, 1) := by decide +kernel
theorem dX4_role_62 : decode cX4_role 62 = .ok (.iload_n 1, 1) := by decide +kernel
theorem dX4_role_63 : decode cX4_role 63 = .ok (.iload_n 2, 1) := by decide +kernel
theorem dX4_role_64 : decode cX4_role 64 = .ok (.lload_n 3, 1) := by decide +kernel
theorem dX4_role_65 : decode cX4_role 65 = .ok (.lload 5, 2) := by decide +kernel
theorem dX4_role_67 : decode cX4_role 67 = .ok (.invokespecial 60, 3) := by decide +kernel
theorem dX4_role_70 : decode cX4_role 70 = .ok (.aastore, 1) := by decide +kernel
theorem dX4_role_71 : decode cX4_role 71 = .ok (.aload_n 0, 1) := by decide +kernel
theorem dX4_role_72 : decode cX4_role 72 = .ok (.dup, 1) := by decide +kernel
theorem dX4_role_73 : decode cX4_role 73 = .ok (.getfield 57, 3) := by decide +kernel
theorem dX4_role_76 : decode cX4_role 76 = .ok (.iconst 1, 1) := by decide +kernel
theorem dX4_role_77 : decode cX4_role 77 = .ok (.iadd, 1) := by decide +kernel
theorem dX4_role_78 : decode cX4_role 78 = .ok (.putfield 57, 3) := by decide +kernel
theorem dX4_role_81 : decode cX4_role 81 = .ok (.iconst 1, 1) := by decide +kernel
theorem dX4_role_82 : decode cX4_role 82 = .ok (.ireturn, 1) := by decide +kernel
theorem dX4_thing_0 : decode cX4_thing 0 = .ok (.aload_n 0, 1) := by decide +kernel
theorem dX4_thing_1 : decode cX4_thing 1 = .ok (.iload_n 1, 1) := by decide +kernel
theorem dX4_thing_2 : decode cX4_thing 2 = .ok (.invokevirtual 48, 3) := by decide +kernel
theorem dX4_thing_5 : decode cX4_thing 5 = .ok (.ifCond .ne 5, 3) := by decide +kernel
theorem dX4_thing_8 : decode cX4_thing 8 = .ok (.iconst (-1), 1) := by decide +kernel
theorem dX4_thing_9 : decode cX4_thing 9 = .ok (.ireturn, 1) := by decide +kernel
theorem dX4_thing_10 : decode cX4_thing 10 = .ok (.aload_n 0, 1) := by decide +kernel
theorem dX4_thing_11 : decode cX4_thing 11 = .ok (.getfield 63, 3) := by decide +kernel
theorem dX4_thing_14 : decode cX4_thing 14 = .ok (.bipush 16, 2) := by decide +kernel
theorem dX4_thing_16 : decode cX4_thing 16 = .ok (.if_icmp .lt 6, 3) := by decide +kernel
theorem dX4_thing_19 : decode cX4_thing 19 = .ok (.bipush (-2), 2) := by decide +kernel
theorem dX4_thing_21 : decode cX4_thing 21 = .ok (.ireturn, 1) := by decide +kernel
theorem dX4_thing_22 : decode cX4_thing 22 = .ok (.aload_n 0, 1) := by decide +kernel
theorem dX4_thing_23 : decode cX4_thing 23 = .ok (.getfield 17, 3) := by decide +kernel
theorem dX4_thing_26 : decode cX4_thing 26 = .ok (.aload_n 0, 1) := by decide +kernel
theorem dX4_thing_27 : decode cX4_thing 27 = .ok (.getfield 63, 3) := by decide +kernel
theorem dX4_thing_30 : decode cX4_thing 30 = .ok (.new 15, 3) := by decide +kernel
theorem dX4_thing_33 : decode cX4_thing 33 = .ok (.dup, 1) := by decide +kernel
theorem dX4_thing_34 : decode cX4_thing 34 = .ok (.iload_n 1, 1) := by decide +kernel
theorem dX4_thing_35 : decode cX4_thing 35 = .ok (.invokespecial 66, 3) := by decide +kernel
theorem dX4_thing_38 : decode cX4_thing 38 = .ok (.aastore, 1) := by decide +kernel
theorem dX4_thing_39 : decode cX4_thing 39 = .ok (.aload_n 0, 1) := by decide +kernel
theorem dX4_thing_40 : decode cX4_thing 40 = .ok (.dup, 1) := by decide +kernel
theorem dX4_thing_41 : decode cX4_thing 41 = .ok (.getfield 63, 3) := by decide +kernel
theorem dX4_thing_44 : decode cX4_thing 44 = .ok (.dup_x1, 1) := by decide +kernel
theorem dX4_thing_45 : decode cX4_thing 45 = .ok (.iconst 1, 1) := by decide +kernel
theorem dX4_thing_46 : decode cX4_thing 46 = .ok (.iadd, 1) := by decide +kernel
theorem dX4_thing_47 : decode cX4_thing 47 = .ok (.putfield 63, 3) := by decide +kernel
theorem dX4_thing_50 : decode cX4_thing 50 = .ok (.ireturn, 1) := by decide +kernel
theorem dX4_byteOf_0 : decode cX4_byteOf 0 = .ok (.aload_n 0, 1) := by decide +kernel
theorem dX4_byteOf_1 : decode cX4_byteOf 1 = .ok (.iload_n 1, 1) := by decide +kernel
theorem dX4_byteOf_2 : decode cX4_byteOf 2 = .ok (.invokevirtual 69, 3) := by decide +kernel
theorem dX4_byteOf_5 : decode cX4_byteOf 5 = .ok (.astore_n 3, 1) := by decide +kernel
theorem dX4_byteOf_6 : decode cX4_byteOf 6 = .ok (.aload_n 3, 1) := by decide +kernel
theorem dX4_byteOf_7 : decode cX4_byteOf 7 = .ok (.ifnull 20, 3) := by decide +kernel
theorem dX4_byteOf_10 : decode cX4_byteOf 10 = .ok (.iload_n 2, 1) := by decide +kernel
theorem dX4_byteOf_11 : decode cX4_byteOf 11 = .ok (.invokestatic 73, 3) := by decide +kernel
theorem dX4_byteOf_14 : decode cX4_byteOf 14 = .ok (.ifCond .eq 13, 3) := by decide +kernel
theorem dX4_byteOf_17 : decode cX4_byteOf 17 = .ok (.aload_n 3, 1) := by decide +kernel
theorem dX4_byteOf_18 : decode cX4_byteOf 18 = .ok (.getfield 76, 3) := by decide +kernel
theorem dX4_byteOf_21 : decode cX4_byteOf 21 = .ok (.sipush 1000, 3) := by decide +kernel
theorem dX4_byteOf_24 : decode cX4_byteOf 24 = .ok (.if_icmp .lt 5, 3) := by decide +kernel
theorem dX4_byteOf_27 : decode cX4_byteOf 27 = .ok (.iconst 0, 1) := by decide +kernel
theorem dX4_byteOf_28 : decode cX4_byteOf 28 = .ok (.ireturn, 1) := by decide +kernel
theorem dX4_byteOf_29 : decode cX4_byteOf 29 = .ok (.aload_n 3, 1) := by decide +kernel
theorem dX4_byteOf_30 : decode cX4_byteOf 30 = .ok (.getfield 79, 3) := by decide +kernel
theorem dX4_byteOf_33 : decode cX4_byteOf 33 = .ok (.aload_n 3, 1) := by decide +kernel
theorem dX4_byteOf_34 : decode cX4_byteOf 34 = .ok (.getfield 76, 3) := by decide +kernel
theorem dX4_byteOf_37 : decode cX4_byteOf 37 = .ok (.iload_n 2, 1) := by decide +kernel
theorem dX4_byteOf_38 : decode cX4_byteOf 38 = .ok (.i2b, 1) := by decide +kernel
theorem dX4_byteOf_39 : decode cX4_byteOf 39 = .ok (.bastore, 1) := by decide +kernel
theorem dX4_byteOf_40 : decode cX4_byteOf 40 = .ok (.aload_n 3, 1) := by decide +kernel
theorem dX4_byteOf_41 : decode cX4_byteOf 41 = .ok (.dup, 1) := by decide +kernel
theorem dX4_byteOf_42 : decode cX4_byteOf 42 = .ok (.getfield 76, 3) := by decide +kernel
theorem dX4_byteOf_45 : decode cX4_byteOf 45 = .ok (.iconst 1, 1) := by decide +kernel
theorem dX4_byteOf_46 : decode cX4_byteOf 46 = .ok (.iadd, 1) := by decide +kernel
theorem dX4_byteOf_47 : decode cX4_byteOf 47 = .ok (.putfield 76, 3) := by decide +kernel
theorem dX4_byteOf_50 : decode cX4_byteOf 50 = .ok (.aload_n 3, 1) := by decide +kernel
theorem dX4_byteOf_51 : decode cX4_byteOf 51 = .ok (.iconst 1, 1) := by decide +kernel
theorem dX4_byteOf_52 : decode cX4_byteOf 52 = .ok (.putfield 83, 3) := by decide +kernel
theorem dX4_byteOf_55 : decode cX4_byteOf 55 = .ok (.iconst 1, 1) := by decide +kernel
theorem dX4_byteOf_56 : decode cX4_byteOf 56 = .ok (.ireturn, 1) := by decide +kernel
theorem dX4_sign_0 : decode cX4_sign 0 = .ok (.aload_n 0, 1) := by decide +kernel
theorem dX4_sign_1 : decode cX4_sign 1 = .ok (.iload_n 1, 1) := by decide +kernel
theorem dX4_sign_2 : decode cX4_sign 2 = .ok (.invokevirtual 69, 3) := by decide +kernel
theorem dX4_sign_5 : decode cX4_sign 5 = .ok (.astore 6, 2) := by decide +kernel
theorem dX4_sign_7 : decode cX4_sign 7 = .ok (.aload 6, 2) := by decide +kernel
theorem dX4_sign_9 : decode cX4_sign 9 = .ok (.ifnull 18, 3) := by decide +kernel
theorem dX4_sign_12 : decode cX4_sign 12 = .ok (.aload_n 0, 1) := by decide +kernel
theorem dX4_sign_13 : decode cX4_sign 13 = .ok (.iload_n 2, 1) := by decide +kernel
theorem dX4_sign_14 : decode cX4_sign 14 = .ok (.invokevirtual 48, 3) := by decide +kernel
theorem dX4_sign_17 : decode cX4_sign 17 = .ok (.ifCond .eq 10, 3) := by decide +kernel
theorem dX4_sign_20 : decode cX4_sign 20 = .ok (.iload_n 3, 1) := by decide +kernel
theorem dX4_sign_21 : decode cX4_sign 21 = .ok (.invokestatic 52, 3) := by decide +kernel
theorem dX4_sign_24 : decode cX4_sign 24 = .ok (.ifCond .ne 5, 3) := by decide +kernel
theorem dX4_sign_27 : decode cX4_sign 27 = .ok (.iconst (-1), 1) := by decide +kernel
theorem dX4_sign_28 : decode cX4_sign 28 = .ok (.ireturn, 1) := by decide +kernel
theorem dX4_sign_29 : decode cX4_sign 29 = .ok (.aload_n 0, 1) := by decide +kernel
theorem dX4_sign_30 : decode cX4_sign 30 = .ok (.lload 4, 2) := by decide +kernel
theorem dX4_sign_32 : decode cX4_sign 32 = .ok (.invokevirtual 87, 3) := by decide +kernel
theorem dX4_sign_35 : decode cX4_sign 35 = .ok (.ifCond .eq 6, 3) := by decide +kernel
theorem dX4_sign_38 : decode cX4_sign 38 = .ok (.bipush (-3), 2) := by decide +kernel
theorem dX4_sign_40 : decode cX4_sign 40 = .ok (.ireturn, 1) := by decide +kernel
theorem dX4_sign_41 : decode cX4_sign 41 = .ok (.aload_n 0, 1) := by decide +kernel
theorem dX4_sign_42 : decode cX4_sign 42 = .ok (.iload_n 2, 1) := by decide +kernel
theorem dX4_sign_43 : decode cX4_sign 43 = .ok (.iload_n 3, 1) := by decide +kernel
theorem dX4_sign_44 : decode cX4_sign 44 = .ok (.lload 4, 2) := by decide +kernel
theorem dX4_sign_46 : decode cX4_sign 46 = .ok (.invokevirtual 91, 3) := by decide +kernel
theorem dX4_sign_49 : decode cX4_sign 49 = .ok (.ifCond .ne 13, 3) := by decide +kernel
theorem dX4_sign_52 : decode cX4_sign 52 = .ok (.new 95, 3) := by decide +kernel
theorem dX4_sign_55 : decode cX4_sign 55 = .ok (.dup, 1) := by decide +kernel
theorem dX4_sign_56 : decode cX4_sign 56 = .ok (.ldc 97, 2) := by decide +kernel
theorem dX4_sign_58 : decode cX4_sign 58 = .ok (.invokespecial 99, 3) := by decide +kernel
theorem dX4_sign_61 : decode cX4_sign 61 = .ok (.athrow, 1) := by decide +kernel
theorem dX4_sign_62 : decode cX4_sign 62 = .ok (.aload 6, 2) := by decide +kernel
theorem dX4_sign_64 : decode cX4_sign 64 = .ok (.getfield 102, 3) := by decide +kernel
theorem dX4_sign_67 : decode cX4_sign 67 = .ok (.iload_n 2, 1) := by decide +kernel
theorem dX4_sign_68 : decode cX4_sign 68 = .ok (.if_icmp .ne 6, 3) := by decide +kernel
theorem dX4_sign_71 : decode cX4_sign 71 = .ok (.bipush (-4), 2) := by decide +kernel
theorem dX4_sign_73 : decode cX4_sign 73 = .ok (.ireturn, 1) := by decide +kernel
theorem dX4_sign_74 : decode cX4_sign 74 = .ok (.aload_n 0, 1) := by decide +kernel
theorem dX4_sign_75 : decode cX4_sign 75 = .ok (.getfield 31, 3) := by decide +kernel
theorem dX4_sign_78 : decode cX4_sign 78 = .ok (.iload_n 3, 1) := by decide +kernel
theorem dX4_sign_79 : decode cX4_sign 79 = .ok (.iaload, 1) := by decide +kernel
theorem dX4_sign_80 : decode cX4_sign 80 = .ok (.aload_n 0, 1) := by decide +kernel
theorem dX4_sign_81 : decode cX4_sign 81 = .ok (.aload 6, 2) := by decide +kernel
theorem dX4_sign_83 : decode cX4_sign 83 = .ok (.invokevirtual 105, 3) := by decide +kernel
theorem dX4_sign_86 : decode cX4_sign 86 = .ok (.iconst (-1), 1) := by decide +kernel
theorem dX4_sign_87 : decode cX4_sign 87 = .ok (.ixor, 1) := by decide +kernel
theorem dX4_sign_88 : decode cX4_sign 88 = .ok (.iand, 1) := by decide +kernel
theorem dX4_sign_89 : decode cX4_sign 89 = .ok (.ifCond .eq 6, 3) := by decide +kernel
theorem dX4_sign_92 : decode cX4_sign 92 = .ok (.bipush (-5), 2) := by decide +kernel
theorem dX4_sign_94 : decode cX4_sign 94 = .ok (.ireturn, 1) := by decide +kernel
theorem dX4_sign_95 : decode cX4_sign 95 = .ok (.aload_n 0, 1) := by decide +kernel
theorem dX4_sign_96 : decode cX4_sign 96 = .ok (.aload 6, 2) := by decide +kernel
theorem dX4_sign_98 : decode cX4_sign 98 = .ok (.iload_n 2, 1) := by decide +kernel
theorem dX4_sign_99 : decode cX4_sign 99 = .ok (.iload_n 3, 1) := by decide +kernel
theorem dX4_sign_100 : decode cX4_sign 100 = .ok (.invokevirtual 109, 3) := by decide +kernel
theorem dX4_sign_103 : decode cX4_sign 103 = .ok (.ifCond .eq 6, 3) := by decide +kernel
theorem dX4_sign_106 : decode cX4_sign 106 = .ok (.bipush (-6), 2) := by decide +kernel
theorem dX4_sign_108 : decode cX4_sign 108 = .ok (.ireturn, 1) := by decide +kernel
theorem dX4_sign_109 : decode cX4_sign 109 = .ok (.aload_n 0, 1) := by decide +kernel
theorem dX4_sign_110 : decode cX4_sign 110 = .ok (.getfield 113, 3) := by decide +kernel
theorem dX4_sign_113 : decode cX4_sign 113 = .ok (.sipush 400, 3) := by decide +kernel
theorem dX4_sign_116 : decode cX4_sign 116 = .ok (.if_icmp .lt 6, 3) := by decide +kernel
theorem dX4_sign_119 : decode cX4_sign 119 = .ok (.bipush (-2), 2) := by decide +kernel
theorem dX4_sign_121 : decode cX4_sign 121 = .ok (.ireturn, 1) := by decide +kernel
theorem dX4_sign_122 : decode cX4_sign 122 = .ok (.new 21, 3) := by decide +kernel
theorem dX4_sign_125 : decode cX4_sign 125 = .ok (.dup, 1) := by decide +kernel
theorem dX4_sign_126 : decode cX4_sign 126 = .ok (.aload 6, 2) := by decide +kernel
theorem dX4_sign_128 : decode cX4_sign 128 = .ok (.iload_n 2, 1) := by decide +kernel
theorem dX4_sign_129 : decode cX4_sign 129 = .ok (.iload_n 3, 1) := by decide +kernel
theorem dX4_sign_130 : decode cX4_sign 130 = .ok (.invokespecial 116, 3) := by decide +kernel
theorem dX4_sign_133 : decode cX4_sign 133 = .ok (.astore 7, 2) := by decide +kernel
theorem dX4_sign_135 : decode cX4_sign 135 = .ok (.aload_n 0, 1) := by decide +kernel
theorem dX4_sign_136 : decode cX4_sign 136 = .ok (.aload 6, 2) := by decide +kernel
theorem dX4_sign_138 : decode cX4_sign 138 = .ok (.invokevirtual 119, 3) := by decide +kernel
theorem dX4_sign_141 : decode cX4_sign 141 = .ok (.aload 7, 2) := by decide +kernel
theorem dX4_sign_143 : decode cX4_sign 143 = .ok (.getfield 123, 3) := by decide +kernel
theorem dX4_sign_146 : decode cX4_sign 146 = .ok (.invokestatic 126, 3) := by decide +kernel
theorem dX4_sign_149 : decode cX4_sign 149 = .ok (.aload_n 0, 1) := by decide +kernel
theorem dX4_sign_150 : decode cX4_sign 150 = .ok (.getfield 23, 3) := by decide +kernel
theorem dX4_sign_153 : decode cX4_sign 153 = .ok (.aload_n 0, 1) := by decide +kernel
theorem dX4_sign_154 : decode cX4_sign 154 = .ok (.getfield 113, 3) := by decide +kernel
theorem dX4_sign_157 : decode cX4_sign 157 = .ok (.aload 7, 2) := by decide +kernel
theorem dX4_sign_159 : decode cX4_sign 159 = .ok (.aastore, 1) := by decide +kernel
theorem dX4_sign_160 : decode cX4_sign 160 = .ok (.aload_n 0, 1) := by decide +kernel
theorem dX4_sign_161 : decode cX4_sign 161 = .ok (.lload 4, 2) := by decide +kernel
theorem dX4_sign_163 : decode cX4_sign 163 = .ok (.putfield 130, 3) := by decide +kernel
theorem dX4_sign_166 : decode cX4_sign 166 = .ok (.aload_n 0, 1) := by decide +kernel
theorem dX4_sign_167 : decode cX4_sign 167 = .ok (.dup, 1) := by decide +kernel
theorem dX4_sign_168 : decode cX4_sign 168 = .ok (.getfield 113, 3) := by decide +kernel
theorem dX4_sign_171 : decode cX4_sign 171 = .ok (.dup_x1, 1) := by decide +kernel
theorem dX4_sign_172 : decode cX4_sign 172 = .ok (.iconst 1, 1) := by decide +kernel
theorem dX4_sign_173 : decode cX4_sign 173 = .ok (.iadd, 1) := by decide +kernel
theorem dX4_sign_174 : decode cX4_sign 174 = .ok (.putfield 113, 3) := by decide +kernel
theorem dX4_sign_177 : decode cX4_sign 177 = .ok (.ireturn, 1) := by decide +kernel
theorem dX4_holds_0 : decode cX4_holds 0 = .ok (.aload_n 0, 1) := by decide +kernel
theorem dX4_holds_1 : decode cX4_holds 1 = .ok (.iload_n 1, 1) := by decide +kernel
theorem dX4_holds_2 : decode cX4_holds 2 = .ok (.invokevirtual 134, 3) := by decide +kernel
theorem dX4_holds_5 : decode cX4_holds 5 = .ok (.astore_n 2, 1) := by decide +kernel
theorem dX4_holds_6 : decode cX4_holds 6 = .ok (.aload_n 2, 1) := by decide +kernel
theorem dX4_holds_7 : decode cX4_holds 7 = .ok (.ifnull 15, 3) := by decide +kernel
theorem dX4_holds_10 : decode cX4_holds 10 = .ok (.aload_n 0, 1) := by decide +kernel
theorem dX4_holds_11 : decode cX4_holds 11 = .ok (.aload_n 2, 1) := by decide +kernel
theorem dX4_holds_12 : decode cX4_holds 12 = .ok (.invokevirtual 138, 3) := by decide +kernel
theorem dX4_holds_15 : decode cX4_holds 15 = .ok (.ifCond .eq 7, 3) := by decide +kernel
theorem dX4_holds_18 : decode cX4_holds 18 = .ok (.iconst 1, 1) := by decide +kernel
theorem dX4_holds_19 : decode cX4_holds 19 = .ok (.goto 4, 3) := by decide +kernel
theorem dX4_holds_22 : decode cX4_holds 22 = .ok (.iconst 0, 1) := by decide +kernel
theorem dX4_holds_23 : decode cX4_holds 23 = .ok (.ireturn, 1) := by decide +kernel
theorem dX4_withdraw_0 : decode cX4_withdraw 0 = .ok (.aload_n 0, 1) := by decide +kernel
theorem dX4_withdraw_1 : decode cX4_withdraw 1 = .ok (.iload_n 1, 1) := by decide +kernel
theorem dX4_withdraw_2 : decode cX4_withdraw 2 = .ok (.invokevirtual 134, 3) := by decide +kernel
theorem dX4_withdraw_5 : decode cX4_withdraw 5 = .ok (.astore_n 2, 1) := by decide +kernel
theorem dX4_withdraw_6 : decode cX4_withdraw 6 = .ok (.aload_n 2, 1) := by decide +kernel
theorem dX4_withdraw_7 : decode cX4_withdraw 7 = .ok (.ifnull 20, 3) := by decide +kernel
theorem dX4_withdraw_10 : decode cX4_withdraw 10 = .ok (.aload_n 2, 1) := by decide +kernel
theorem dX4_withdraw_11 : decode cX4_withdraw 11 = .ok (.getfield 142, 3) := by decide +kernel
theorem dX4_withdraw_14 : decode cX4_withdraw 14 = .ok (.ifCond .ne 13, 3) := by decide +kernel
theorem dX4_withdraw_17 : decode cX4_withdraw 17 = .ok (.aload_n 0, 1) := by decide +kernel
theorem dX4_withdraw_18 : decode cX4_withdraw 18 = .ok (.getfield 145, 3) := by decide +kernel
theorem dX4_withdraw_21 : decode cX4_withdraw 21 = .ok (.sipush 400, 3) := by decide +kernel
theorem dX4_withdraw_24 : decode cX4_withdraw 24 = .ok (.if_icmp .lt 5, 3) := by decide +kernel
theorem dX4_withdraw_27 : decode cX4_withdraw 27 = .ok (.iconst 0, 1) := by decide +kernel
theorem dX4_withdraw_28 : decode cX4_withdraw 28 = .ok (.ireturn, 1) := by decide +kernel
theorem dX4_withdraw_29 : decode cX4_withdraw 29 = .ok (.aload_n 2, 1) := by decide +kernel
theorem dX4_withdraw_30 : decode cX4_withdraw 30 = .ok (.iconst 1, 1) := by decide +kernel
theorem dX4_withdraw_31 : decode cX4_withdraw 31 = .ok (.putfield 142, 3) := by decide +kernel
theorem dX4_withdraw_34 : decode cX4_withdraw 34 = .ok (.aload_n 0, 1) := by decide +kernel
theorem dX4_withdraw_35 : decode cX4_withdraw 35 = .ok (.getfield 27, 3) := by decide +kernel
theorem dX4_withdraw_38 : decode cX4_withdraw 38 = .ok (.aload_n 0, 1) := by decide +kernel
theorem dX4_withdraw_39 : decode cX4_withdraw 39 = .ok (.getfield 145, 3) := by decide +kernel
theorem dX4_withdraw_42 : decode cX4_withdraw 42 = .ok (.iload_n 1, 1) := by decide +kernel
theorem dX4_withdraw_43 : decode cX4_withdraw 43 = .ok (.iastore, 1) := by decide +kernel
theorem dX4_withdraw_44 : decode cX4_withdraw 44 = .ok (.aload_n 0, 1) := by decide +kernel
theorem dX4_withdraw_45 : decode cX4_withdraw 45 = .ok (.dup, 1) := by decide +kernel
theorem dX4_withdraw_46 : decode cX4_withdraw 46 = .ok (.getfield 145, 3) := by decide +kernel
theorem dX4_withdraw_49 : decode cX4_withdraw 49 = .ok (.iconst 1, 1) := by decide +kernel
theorem dX4_withdraw_50 : decode cX4_withdraw 50 = .ok (.iadd, 1) := by decide +kernel
theorem dX4_withdraw_51 : decode cX4_withdraw 51 = .ok (.putfield 145, 3) := by decide +kernel
theorem dX4_withdraw_54 : decode cX4_withdraw 54 = .ok (.iconst 1, 1) := by decide +kernel
theorem dX4_withdraw_55 : decode cX4_withdraw 55 = .ok (.ireturn, 1) := by decide +kernel
theorem dX4_order_0 : decode cX4_order 0 = .ok (.iload_n 1, 1) := by decide +kernel
theorem dX4_order_1 : decode cX4_order 1 = .ok (.invokestatic 52, 3) := by decide +kernel
theorem dX4_order_4 : decode cX4_order 4 = .ok (.ifCond .eq 15, 3) := by decide +kernel
theorem dX4_order_7 : decode cX4_order 7 = .ok (.iload_n 2, 1) := by decide +kernel
theorem dX4_order_8 : decode cX4_order 8 = .ok (.invokestatic 52, 3) := by decide +kernel
theorem dX4_order_11 : decode cX4_order 11 = .ok (.ifCond .eq 8, 3) := by decide +kernel
theorem dX4_order_14 : decode cX4_order 14 = .ok (.iload_n 1, 1) := by decide +kernel
theorem dX4_order_15 : decode cX4_order 15 = .ok (.iload_n 2, 1) := by decide +kernel
theorem dX4_order_16 : decode cX4_order 16 = .ok (.if_icmp .ne 5, 3) := by decide +kernel
theorem dX4_order_19 : decode cX4_order 19 = .ok (.iconst 0, 1) := by decide +kernel
theorem dX4_order_20 : decode cX4_order 20 = .ok (.ireturn, 1) := by decide +kernel
theorem dX4_order_21 : decode cX4_order 21 = .ok (.aload_n 0, 1) := by decide +kernel
theorem dX4_order_22 : decode cX4_order 22 = .ok (.getfield 31, 3) := by decide +kernel
theorem dX4_order_25 : decode cX4_order 25 = .ok (.iload_n 1, 1) := by decide +kernel
theorem dX4_order_26 : decode cX4_order 26 = .ok (.iaload, 1) := by decide +kernel
theorem dX4_order_27 : decode cX4_order 27 = .ok (.iload_n 2, 1) := by decide +kernel
theorem dX4_order_28 : decode cX4_order 28 = .ok (.invokestatic 148, 3) := by decide +kernel
theorem dX4_order_31 : decode cX4_order 31 = .ok (.ifCond .ne 16, 3) := by decide +kernel
theorem dX4_order_34 : decode cX4_order 34 = .ok (.aload_n 0, 1) := by decide +kernel
theorem dX4_order_35 : decode cX4_order 35 = .ok (.getfield 34, 3) := by decide +kernel
theorem dX4_order_38 : decode cX4_order 38 = .ok (.iload_n 2, 1) := by decide +kernel
theorem dX4_order_39 : decode cX4_order 39 = .ok (.iaload, 1) := by decide +kernel
theorem dX4_order_40 : decode cX4_order 40 = .ok (.iload_n 1, 1) := by decide +kernel
theorem dX4_order_41 : decode cX4_order 41 = .ok (.invokestatic 148, 3) := by decide +kernel
theorem dX4_order_44 : decode cX4_order 44 = .ok (.ifCond .eq 5, 3) := by decide +kernel
theorem dX4_order_47 : decode cX4_order 47 = .ok (.iconst 0, 1) := by decide +kernel
theorem dX4_order_48 : decode cX4_order 48 = .ok (.ireturn, 1) := by decide +kernel
theorem dX4_order_49 : decode cX4_order 49 = .ok (.aload_n 0, 1) := by decide +kernel
theorem dX4_order_50 : decode cX4_order 50 = .ok (.getfield 31, 3) := by decide +kernel
theorem dX4_order_53 : decode cX4_order 53 = .ok (.iload_n 1, 1) := by decide +kernel
theorem dX4_order_54 : decode cX4_order 54 = .ok (.dup2, 1) := by decide +kernel
theorem dX4_order_55 : decode cX4_order 55 = .ok (.iaload, 1) := by decide +kernel
theorem dX4_order_56 : decode cX4_order 56 = .ok (.iconst 1, 1) := by decide +kernel
theorem dX4_order_57 : decode cX4_order 57 = .ok (.iload_n 2, 1) := by decide +kernel
theorem dX4_order_58 : decode cX4_order 58 = .ok (.ishl, 1) := by decide +kernel
theorem dX4_order_59 : decode cX4_order 59 = .ok (.ior, 1) := by decide +kernel
theorem dX4_order_60 : decode cX4_order 60 = .ok (.iastore, 1) := by decide +kernel
theorem dX4_order_61 : decode cX4_order 61 = .ok (.aload_n 0, 1) := by decide +kernel
theorem dX4_order_62 : decode cX4_order 62 = .ok (.getfield 34, 3) := by decide +kernel
theorem dX4_order_65 : decode cX4_order 65 = .ok (.iload_n 2, 1) := by decide +kernel
theorem dX4_order_66 : decode cX4_order 66 = .ok (.iaload, 1) := by decide +kernel
theorem dX4_order_67 : decode cX4_order 67 = .ok (.iconst 1, 1) := by decide +kernel
theorem dX4_order_68 : decode cX4_order 68 = .ok (.iload_n 2, 1) := by decide +kernel
theorem dX4_order_69 : decode cX4_order 69 = .ok (.ishl, 1) := by decide +kernel
theorem dX4_order_70 : decode cX4_order 70 = .ok (.ior, 1) := by decide +kernel
theorem dX4_order_71 : decode cX4_order 71 = .ok (.istore_n 3, 1) := by decide +kernel
theorem dX4_order_72 : decode cX4_order 72 = .ok (.iconst 0, 1) := by decide +kernel
theorem dX4_order_73 : decode cX4_order 73 = .ok (.istore 4, 2) := by decide +kernel
theorem dX4_order_75 : decode cX4_order 75 = .ok (.iload 4, 2) := by decide +kernel
theorem dX4_order_77 : decode cX4_order 77 = .ok (.bipush 10, 2) := by decide +kernel
theorem dX4_order_79 : decode cX4_order 79 = .ok (.if_icmp .ge 40, 3) := by decide +kernel
theorem dX4_order_82 : decode cX4_order 82 = .ok (.iload 4, 2) := by decide +kernel
theorem dX4_order_84 : decode cX4_order 84 = .ok (.iload_n 1, 1) := by decide +kernel
theorem dX4_order_85 : decode cX4_order 85 = .ok (.if_icmp .eq 17, 3) := by decide +kernel
theorem dX4_order_88 : decode cX4_order 88 = .ok (.aload_n 0, 1) := by decide +kernel
theorem dX4_order_89 : decode cX4_order 89 = .ok (.getfield 34, 3) := by decide +kernel
theorem dX4_order_92 : decode cX4_order 92 = .ok (.iload 4, 2) := by decide +kernel
theorem dX4_order_94 : decode cX4_order 94 = .ok (.iaload, 1) := by decide +kernel
theorem dX4_order_95 : decode cX4_order 95 = .ok (.iload_n 1, 1) := by decide +kernel
theorem dX4_order_96 : decode cX4_order 96 = .ok (.invokestatic 148, 3) := by decide +kernel
theorem dX4_order_99 : decode cX4_order 99 = .ok (.ifCond .eq 14, 3) := by decide +kernel
theorem dX4_order_102 : decode cX4_order 102 = .ok (.aload_n 0, 1) := by decide +kernel
theorem dX4_order_103 : decode cX4_order 103 = .ok (.getfield 34, 3) := by decide +kernel
theorem dX4_order_106 : decode cX4_order 106 = .ok (.iload 4, 2) := by decide +kernel
theorem dX4_order_108 : decode cX4_order 108 = .ok (.dup2, 1) := by decide +kernel
theorem dX4_order_109 : decode cX4_order 109 = .ok (.iaload, 1) := by decide +kernel
theorem dX4_order_110 : decode cX4_order 110 = .ok (.iload_n 3, 1) := by decide +kernel
theorem dX4_order_111 : decode cX4_order 111 = .ok (.ior, 1) := by decide +kernel
theorem dX4_order_112 : decode cX4_order 112 = .ok (.iastore, 1) := by decide +kernel
theorem dX4_order_113 : decode cX4_order 113 = .ok (.iinc 4 1, 3) := by decide +kernel
theorem dX4_order_116 : decode cX4_order 116 = .ok (.goto (-41), 3) := by decide +kernel
theorem dX4_order_119 : decode cX4_order 119 = .ok (.iconst 1, 1) := by decide +kernel
theorem dX4_order_120 : decode cX4_order 120 = .ok (.ireturn, 1) := by decide +kernel
theorem dX4_complete_0 : decode cX4_complete 0 = .ok (.aload_n 0, 1) := by decide +kernel
theorem dX4_complete_1 : decode cX4_complete 1 = .ok (.iload_n 1, 1) := by decide +kernel
theorem dX4_complete_2 : decode cX4_complete 2 = .ok (.invokevirtual 69, 3) := by decide +kernel
theorem dX4_complete_5 : decode cX4_complete 5 = .ok (.astore_n 2, 1) := by decide +kernel
theorem dX4_complete_6 : decode cX4_complete 6 = .ok (.aload_n 2, 1) := by decide +kernel
theorem dX4_complete_7 : decode cX4_complete 7 = .ok (.ifnonnull 5, 3) := by decide +kernel
theorem dX4_complete_10 : decode cX4_complete 10 = .ok (.iconst (-1), 1) := by decide +kernel
theorem dX4_complete_11 : decode cX4_complete 11 = .ok (.ireturn, 1) := by decide +kernel
theorem dX4_complete_12 : decode cX4_complete 12 = .ok (.aload_n 0, 1) := by decide +kernel
theorem dX4_complete_13 : decode cX4_complete 13 = .ok (.aload_n 2, 1) := by decide +kernel
theorem dX4_complete_14 : decode cX4_complete 14 = .ok (.invokevirtual 105, 3) := by decide +kernel
theorem dX4_complete_17 : decode cX4_complete 17 = .ok (.istore_n 3, 1) := by decide +kernel
theorem dX4_complete_18 : decode cX4_complete 18 = .ok (.iconst 0, 1) := by decide +kernel
theorem dX4_complete_19 : decode cX4_complete 19 = .ok (.istore 4, 2) := by decide +kernel
theorem dX4_complete_21 : decode cX4_complete 21 = .ok (.iload 4, 2) := by decide +kernel
theorem dX4_complete_23 : decode cX4_complete 23 = .ok (.bipush 10, 2) := by decide +kernel
theorem dX4_complete_25 : decode cX4_complete 25 = .ok (.if_icmp .ge 37, 3) := by decide +kernel
theorem dX4_complete_28 : decode cX4_complete 28 = .ok (.iload 4, 2) := by decide +kernel
theorem dX4_complete_30 : decode cX4_complete 30 = .ok (.aload_n 2, 1) := by decide +kernel
theorem dX4_complete_31 : decode cX4_complete 31 = .ok (.getfield 152, 3) := by decide +kernel
theorem dX4_complete_34 : decode cX4_complete 34 = .ok (.if_icmp .ge 28, 3) := by decide +kernel
theorem dX4_complete_37 : decode cX4_complete 37 = .ok (.iload_n 3, 1) := by decide +kernel
theorem dX4_complete_38 : decode cX4_complete 38 = .ok (.aload_n 2, 1) := by decide +kernel
theorem dX4_complete_39 : decode cX4_complete 39 = .ok (.getfield 155, 3) := by decide +kernel
theorem dX4_complete_42 : decode cX4_complete 42 = .ok (.iload 4, 2) := by decide +kernel
theorem dX4_complete_44 : decode cX4_complete 44 = .ok (.iaload, 1) := by decide +kernel
theorem dX4_complete_45 : decode cX4_complete 45 = .ok (.invokestatic 148, 3) := by decide +kernel
theorem dX4_complete_48 : decode cX4_complete 48 = .ok (.ifCond .ne 8, 3) := by decide +kernel
theorem dX4_complete_51 : decode cX4_complete 51 = .ok (.iconst 1, 1) := by decide +kernel
theorem dX4_complete_52 : decode cX4_complete 52 = .ok (.iload 4, 2) := by decide +kernel
theorem dX4_complete_54 : decode cX4_complete 54 = .ok (.iadd, 1) := by decide +kernel
theorem dX4_complete_55 : decode cX4_complete 55 = .ok (.ireturn, 1) := by decide +kernel
theorem dX4_complete_56 : decode cX4_complete 56 = .ok (.iinc 4 1, 3) := by decide +kernel
theorem dX4_complete_59 : decode cX4_complete 59 = .ok (.goto (-38), 3) := by decide +kernel
theorem dX4_complete_62 : decode cX4_complete 62 = .ok (.iconst 0, 1) := by decide +kernel
theorem dX4_complete_63 : decode cX4_complete 63 = .ok (.ireturn, 1) := by decide +kernel
theorem dX4_comment_0 : decode cX4_comment 0 = .ok (.aload_n 0, 1) := by decide +kernel
theorem dX4_comment_1 : decode cX4_comment 1 = .ok (.iload_n 1, 1) := by decide +kernel
theorem dX4_comment_2 : decode cX4_comment 2 = .ok (.invokevirtual 69, 3) := by decide +kernel
theorem dX4_comment_5 : decode cX4_comment 5 = .ok (.astore 5, 2) := by decide +kernel
theorem dX4_comment_7 : decode cX4_comment 7 = .ok (.aload 5, 2) := by decide +kernel
theorem dX4_comment_9 : decode cX4_comment 9 = .ok (.ifnull 29, 3) := by decide +kernel
theorem dX4_comment_12 : decode cX4_comment 12 = .ok (.iload_n 2, 1) := by decide +kernel
theorem dX4_comment_13 : decode cX4_comment 13 = .ok (.invokestatic 73, 3) := by decide +kernel
theorem dX4_comment_16 : decode cX4_comment 16 = .ok (.ifCond .eq 22, 3) := by decide +kernel
theorem dX4_comment_19 : decode cX4_comment 19 = .ok (.aload_n 0, 1) := by decide +kernel
theorem dX4_comment_20 : decode cX4_comment 20 = .ok (.lload_n 3, 1) := by decide +kernel
theorem dX4_comment_21 : decode cX4_comment 21 = .ok (.invokevirtual 87, 3) := by decide +kernel
theorem dX4_comment_24 : decode cX4_comment 24 = .ok (.ifCond .ne 14, 3) := by decide +kernel
theorem dX4_comment_27 : decode cX4_comment 27 = .ok (.aload 5, 2) := by decide +kernel
theorem dX4_comment_29 : decode cX4_comment 29 = .ok (.getfield 158, 3) := by decide +kernel
theorem dX4_comment_32 : decode cX4_comment 32 = .ok (.sipush 200, 3) := by decide +kernel
theorem dX4_comment_35 : decode cX4_comment 35 = .ok (.if_icmp .lt 5, 3) := by decide +kernel
theorem dX4_comment_38 : decode cX4_comment 38 = .ok (.iconst 0, 1) := by decide +kernel
theorem dX4_comment_39 : decode cX4_comment 39 = .ok (.ireturn, 1) := by decide +kernel
theorem dX4_comment_40 : decode cX4_comment 40 = .ok (.aload 5, 2) := by decide +kernel
theorem dX4_comment_42 : decode cX4_comment 42 = .ok (.getfield 161, 3) := by decide +kernel
theorem dX4_comment_45 : decode cX4_comment 45 = .ok (.aload 5, 2) := by decide +kernel
theorem dX4_comment_47 : decode cX4_comment 47 = .ok (.getfield 158, 3) := by decide +kernel
theorem dX4_comment_50 : decode cX4_comment 50 = .ok (.iload_n 2, 1) := by decide +kernel
theorem dX4_comment_51 : decode cX4_comment 51 = .ok (.i2b, 1) := by decide +kernel
theorem dX4_comment_52 : decode cX4_comment 52 = .ok (.bastore, 1) := by decide +kernel
theorem dX4_comment_53 : decode cX4_comment 53 = .ok (.aload 5, 2) := by decide +kernel
theorem dX4_comment_55 : decode cX4_comment 55 = .ok (.dup, 1) := by decide +kernel
theorem dX4_comment_56 : decode cX4_comment 56 = .ok (.getfield 158, 3) := by decide +kernel
theorem dX4_comment_59 : decode cX4_comment 59 = .ok (.iconst 1, 1) := by decide +kernel
theorem dX4_comment_60 : decode cX4_comment 60 = .ok (.iadd, 1) := by decide +kernel
theorem dX4_comment_61 : decode cX4_comment 61 = .ok (.putfield 158, 3) := by decide +kernel
theorem dX4_comment_64 : decode cX4_comment 64 = .ok (.aload_n 0, 1) := by decide +kernel
theorem dX4_comment_65 : decode cX4_comment 65 = .ok (.lload_n 3, 1) := by decide +kernel
theorem dX4_comment_66 : decode cX4_comment 66 = .ok (.putfield 130, 3) := by decide +kernel
theorem dX4_comment_69 : decode cX4_comment 69 = .ok (.iconst 1, 1) := by decide +kernel
theorem dX4_comment_70 : decode cX4_comment 70 = .ok (.ireturn, 1) := by decide +kernel
theorem dX4_digest_0 : decode cX4_digest 0 = .ok (.aload_n 0, 1) := by decide +kernel
theorem dX4_digest_1 : decode cX4_digest 1 = .ok (.iload_n 1, 1) := by decide +kernel
theorem dX4_digest_2 : decode cX4_digest 2 = .ok (.invokevirtual 69, 3) := by decide +kernel
theorem dX4_digest_5 : decode cX4_digest 5 = .ok (.astore_n 3, 1) := by decide +kernel
theorem dX4_digest_6 : decode cX4_digest 6 = .ok (.aload_n 3, 1) := by decide +kernel
theorem dX4_digest_7 : decode cX4_digest 7 = .ok (.ifnull 7, 3) := by decide +kernel
theorem dX4_digest_10 : decode cX4_digest 10 = .ok (.iload_n 2, 1) := by decide +kernel
theorem dX4_digest_11 : decode cX4_digest 11 = .ok (.ifCond .ge 5, 3) := by decide +kernel
theorem dX4_digest_14 : decode cX4_digest 14 = .ok (.iconst (-1), 1) := by decide +kernel
theorem dX4_digest_15 : decode cX4_digest 15 = .ok (.ireturn, 1) := by decide +kernel
theorem dX4_digest_16 : decode cX4_digest 16 = .ok (.iload_n 2, 1) := by decide +kernel
theorem dX4_digest_17 : decode cX4_digest 17 = .ok (.bipush 32, 2) := by decide +kernel
theorem dX4_digest_19 : decode cX4_digest 19 = .ok (.if_icmp .ge 27, 3) := by decide +kernel
theorem dX4_digest_22 : decode cX4_digest 22 = .ok (.aload_n 0, 1) := by decide +kernel
theorem dX4_digest_23 : decode cX4_digest 23 = .ok (.aload_n 3, 1) := by decide +kernel
theorem dX4_digest_24 : decode cX4_digest 24 = .ok (.invokevirtual 119, 3) := by decide +kernel
theorem dX4_digest_27 : decode cX4_digest 27 = .ok (.iload_n 2, 1) := by decide +kernel
theorem dX4_digest_28 : decode cX4_digest 28 = .ok (.iconst 4, 1) := by decide +kernel
theorem dX4_digest_29 : decode cX4_digest 29 = .ok (.idiv, 1) := by decide +kernel
theorem dX4_digest_30 : decode cX4_digest 30 = .ok (.iaload, 1) := by decide +kernel
theorem dX4_digest_31 : decode cX4_digest 31 = .ok (.bipush 24, 2) := by decide +kernel
theorem dX4_digest_33 : decode cX4_digest 33 = .ok (.bipush 8, 2) := by decide +kernel
theorem dX4_digest_35 : decode cX4_digest 35 = .ok (.iload_n 2, 1) := by decide +kernel
theorem dX4_digest_36 : decode cX4_digest 36 = .ok (.iconst 4, 1) := by decide +kernel
theorem dX4_digest_37 : decode cX4_digest 37 = .ok (.irem, 1) := by decide +kernel
theorem dX4_digest_38 : decode cX4_digest 38 = .ok (.imul, 1) := by decide +kernel
theorem dX4_digest_39 : decode cX4_digest 39 = .ok (.isub, 1) := by decide +kernel
theorem dX4_digest_40 : decode cX4_digest 40 = .ok (.iushr, 1) := by decide +kernel
theorem dX4_digest_41 : decode cX4_digest 41 = .ok (.sipush 255, 3) := by decide +kernel
theorem dX4_digest_44 : decode cX4_digest 44 = .ok (.iand, 1) := by decide +kernel
theorem dX4_digest_45 : decode cX4_digest 45 = .ok (.ireturn, 1) := by decide +kernel
theorem dX4_digest_46 : decode cX4_digest 46 = .ok (.iload_n 2, 1) := by decide +kernel
theorem dX4_digest_47 : decode cX4_digest 47 = .ok (.bipush 32, 2) := by decide +kernel
theorem dX4_digest_49 : decode cX4_digest 49 = .ok (.isub, 1) := by decide +kernel
theorem dX4_digest_50 : decode cX4_digest 50 = .ok (.istore 4, 2) := by decide +kernel
theorem dX4_digest_52 : decode cX4_digest 52 = .ok (.iload 4, 2) := by decide +kernel
theorem dX4_digest_54 : decode cX4_digest 54 = .ok (.aload_n 3, 1) := by decide +kernel
theorem dX4_digest_55 : decode cX4_digest 55 = .ok (.getfield 158, 3) := by decide +kernel
theorem dX4_digest_58 : decode cX4_digest 58 = .ok (.if_icmp .ge 11, 3) := by decide +kernel
theorem dX4_digest_61 : decode cX4_digest 61 = .ok (.iload 4, 2) := by decide +kernel
theorem dX4_digest_63 : decode cX4_digest 63 = .ok (.sipush 200, 3) := by decide +kernel
theorem dX4_digest_66 : decode cX4_digest 66 = .ok (.if_icmp .lt 5, 3) := by decide +kernel
theorem dX4_digest_69 : decode cX4_digest 69 = .ok (.iconst (-1), 1) := by decide +kernel
theorem dX4_digest_70 : decode cX4_digest 70 = .ok (.ireturn, 1) := by decide +kernel
theorem dX4_digest_71 : decode cX4_digest 71 = .ok (.aload_n 3, 1) := by decide +kernel
theorem dX4_digest_72 : decode cX4_digest 72 = .ok (.getfield 161, 3) := by decide +kernel
theorem dX4_digest_75 : decode cX4_digest 75 = .ok (.iload 4, 2) := by decide +kernel
theorem dX4_digest_77 : decode cX4_digest 77 = .ok (.baload, 1) := by decide +kernel
theorem dX4_digest_78 : decode cX4_digest 78 = .ok (.sipush 255, 3) := by decide +kernel
theorem dX4_digest_81 : decode cX4_digest 81 = .ok (.iand, 1) := by decide +kernel
theorem dX4_digest_82 : decode cX4_digest 82 = .ok (.ireturn, 1) := by decide +kernel
theorem dX4_listed_0 : decode cX4_listed 0 = .ok (.iload_n 1, 1) := by decide +kernel
theorem dX4_listed_1 : decode cX4_listed 1 = .ok (.ifCond .lt 18, 3) := by decide +kernel
theorem dX4_listed_4 : decode cX4_listed 4 = .ok (.iload_n 1, 1) := by decide +kernel
theorem dX4_listed_5 : decode cX4_listed 5 = .ok (.aload_n 0, 1) := by decide +kernel
theorem dX4_listed_6 : decode cX4_listed 6 = .ok (.getfield 145, 3) := by decide +kernel
theorem dX4_listed_9 : decode cX4_listed 9 = .ok (.if_icmp .ge 10, 3) := by decide +kernel
theorem dX4_listed_12 : decode cX4_listed 12 = .ok (.iload_n 1, 1) := by decide +kernel
theorem dX4_listed_13 : decode cX4_listed 13 = .ok (.sipush 400, 3) := by decide +kernel
theorem dX4_listed_16 : decode cX4_listed 16 = .ok (.if_icmp .lt 5, 3) := by decide +kernel
theorem dX4_listed_19 : decode cX4_listed 19 = .ok (.iconst (-1), 1) := by decide +kernel
theorem dX4_listed_20 : decode cX4_listed 20 = .ok (.ireturn, 1) := by decide +kernel
theorem dX4_listed_21 : decode cX4_listed 21 = .ok (.aload_n 0, 1) := by decide +kernel
theorem dX4_listed_22 : decode cX4_listed 22 = .ok (.getfield 27, 3) := by decide +kernel
theorem dX4_listed_25 : decode cX4_listed 25 = .ok (.iload_n 1, 1) := by decide +kernel
theorem dX4_listed_26 : decode cX4_listed 26 = .ok (.iaload, 1) := by decide +kernel
theorem dX4_listed_27 : decode cX4_listed 27 = .ok (.ireturn, 1) := by decide +kernel
theorem dX4_needs_0 : decode cX4_needs 0 = .ok (.aload_n 0, 1) := by decide +kernel
theorem dX4_needs_1 : decode cX4_needs 1 = .ok (.iload_n 1, 1) := by decide +kernel
theorem dX4_needs_2 : decode cX4_needs 2 = .ok (.invokevirtual 69, 3) := by decide +kernel
theorem dX4_needs_5 : decode cX4_needs 5 = .ok (.astore_n 3, 1) := by decide +kernel
theorem dX4_needs_6 : decode cX4_needs 6 = .ok (.aload_n 3, 1) := by decide +kernel
theorem dX4_needs_7 : decode cX4_needs 7 = .ok (.ifnull 10, 3) := by decide +kernel
theorem dX4_needs_10 : decode cX4_needs 10 = .ok (.iload_n 2, 1) := by decide +kernel
theorem dX4_needs_11 : decode cX4_needs 11 = .ok (.invokestatic 52, 3) := by decide +kernel
theorem dX4_needs_14 : decode cX4_needs 14 = .ok (.ifCond .ne 5, 3) := by decide +kernel
theorem dX4_needs_17 : decode cX4_needs 17 = .ok (.iconst (-1), 1) := by decide +kernel
theorem dX4_needs_18 : decode cX4_needs 18 = .ok (.ireturn, 1) := by decide +kernel
theorem dX4_needs_19 : decode cX4_needs 19 = .ok (.iconst 0, 1) := by decide +kernel
theorem dX4_needs_20 : decode cX4_needs 20 = .ok (.istore 4, 2) := by decide +kernel
theorem dX4_needs_22 : decode cX4_needs 22 = .ok (.iload 4, 2) := by decide +kernel
theorem dX4_needs_24 : decode cX4_needs 24 = .ok (.bipush 10, 2) := by decide +kernel
theorem dX4_needs_26 : decode cX4_needs 26 = .ok (.if_icmp .ge 32, 3) := by decide +kernel
theorem dX4_needs_29 : decode cX4_needs 29 = .ok (.iload 4, 2) := by decide +kernel
theorem dX4_needs_31 : decode cX4_needs 31 = .ok (.aload_n 3, 1) := by decide +kernel
theorem dX4_needs_32 : decode cX4_needs 32 = .ok (.getfield 152, 3) := by decide +kernel
theorem dX4_needs_35 : decode cX4_needs 35 = .ok (.if_icmp .ge 23, 3) := by decide +kernel
theorem dX4_needs_38 : decode cX4_needs 38 = .ok (.aload_n 3, 1) := by decide +kernel
theorem dX4_needs_39 : decode cX4_needs 39 = .ok (.getfield 155, 3) := by decide +kernel
theorem dX4_needs_42 : decode cX4_needs 42 = .ok (.iload 4, 2) := by decide +kernel
theorem dX4_needs_44 : decode cX4_needs 44 = .ok (.iaload, 1) := by decide +kernel
theorem dX4_needs_45 : decode cX4_needs 45 = .ok (.iload_n 2, 1) := by decide +kernel
theorem dX4_needs_46 : decode cX4_needs 46 = .ok (.if_icmp .ne 6, 3) := by decide +kernel
theorem dX4_needs_49 : decode cX4_needs 49 = .ok (.iload 4, 2) := by decide +kernel
theorem dX4_needs_51 : decode cX4_needs 51 = .ok (.ireturn, 1) := by decide +kernel
theorem dX4_needs_52 : decode cX4_needs 52 = .ok (.iinc 4 1, 3) := by decide +kernel
theorem dX4_needs_55 : decode cX4_needs 55 = .ok (.goto (-33), 3) := by decide +kernel
theorem dX4_needs_58 : decode cX4_needs 58 = .ok (.aload_n 3, 1) := by decide +kernel
theorem dX4_needs_59 : decode cX4_needs 59 = .ok (.getfield 152, 3) := by decide +kernel
theorem dX4_needs_62 : decode cX4_needs 62 = .ok (.bipush 10, 2) := by decide +kernel
theorem dX4_needs_64 : decode cX4_needs 64 = .ok (.if_icmp .lt 5, 3) := by decide +kernel
theorem dX4_needs_67 : decode cX4_needs 67 = .ok (.iconst (-1), 1) := by decide +kernel
theorem dX4_needs_68 : decode cX4_needs 68 = .ok (.ireturn, 1) := by decide +kernel
theorem dX4_needs_69 : decode cX4_needs 69 = .ok (.aload_n 3, 1) := by decide +kernel
theorem dX4_needs_70 : decode cX4_needs 70 = .ok (.getfield 155, 3) := by decide +kernel
theorem dX4_needs_73 : decode cX4_needs 73 = .ok (.aload_n 3, 1) := by decide +kernel
theorem dX4_needs_74 : decode cX4_needs 74 = .ok (.getfield 152, 3) := by decide +kernel
theorem dX4_needs_77 : decode cX4_needs 77 = .ok (.iload_n 2, 1) := by decide +kernel
theorem dX4_needs_78 : decode cX4_needs 78 = .ok (.iastore, 1) := by decide +kernel
theorem dX4_needs_79 : decode cX4_needs 79 = .ok (.aload_n 3, 1) := by decide +kernel
theorem dX4_needs_80 : decode cX4_needs 80 = .ok (.dup, 1) := by decide +kernel
theorem dX4_needs_81 : decode cX4_needs 81 = .ok (.getfield 152, 3) := by decide +kernel
theorem dX4_needs_84 : decode cX4_needs 84 = .ok (.dup_x1, 1) := by decide +kernel
theorem dX4_needs_85 : decode cX4_needs 85 = .ok (.iconst 1, 1) := by decide +kernel
theorem dX4_needs_86 : decode cX4_needs 86 = .ok (.iadd, 1) := by decide +kernel
theorem dX4_needs_87 : decode cX4_needs 87 = .ok (.putfield 152, 3) := by decide +kernel
theorem dX4_needs_90 : decode cX4_needs 90 = .ok (.ireturn, 1) := by decide +kernel
theorem dX4_isPerson_0 : decode cX4_isPerson 0 = .ok (.iload_n 1, 1) := by decide +kernel
theorem dX4_isPerson_1 : decode cX4_isPerson 1 = .ok (.ifCond .lt 15, 3) := by decide +kernel
theorem dX4_isPerson_4 : decode cX4_isPerson 4 = .ok (.iload_n 1, 1) := by decide +kernel
theorem dX4_isPerson_5 : decode cX4_isPerson 5 = .ok (.aload_n 0, 1) := by decide +kernel
theorem dX4_isPerson_6 : decode cX4_isPerson 6 = .ok (.getfield 44, 3) := by decide +kernel
theorem dX4_isPerson_9 : decode cX4_isPerson 9 = .ok (.if_icmp .ge 7, 3) := by decide +kernel
theorem dX4_isPerson_12 : decode cX4_isPerson 12 = .ok (.iconst 1, 1) := by decide +kernel
theorem dX4_isPerson_13 : decode cX4_isPerson 13 = .ok (.goto 4, 3) := by decide +kernel
theorem dX4_isPerson_16 : decode cX4_isPerson 16 = .ok (.iconst 0, 1) := by decide +kernel
theorem dX4_isPerson_17 : decode cX4_isPerson 17 = .ok (.ireturn, 1) := by decide +kernel
theorem dX4_isMeaning_0 : decode cX4_isMeaning 0 = .ok (.iload_n 0, 1) := by decide +kernel
theorem dX4_isMeaning_1 : decode cX4_isMeaning 1 = .ok (.ifCond .lt 13, 3) := by decide +kernel
theorem dX4_isMeaning_4 : decode cX4_isMeaning 4 = .ok (.iload_n 0, 1) := by decide +kernel
theorem dX4_isMeaning_5 : decode cX4_isMeaning 5 = .ok (.bipush 10, 2) := by decide +kernel
theorem dX4_isMeaning_7 : decode cX4_isMeaning 7 = .ok (.if_icmp .ge 7, 3) := by decide +kernel
theorem dX4_isMeaning_10 : decode cX4_isMeaning 10 = .ok (.iconst 1, 1) := by decide +kernel
theorem dX4_isMeaning_11 : decode cX4_isMeaning 11 = .ok (.goto 4, 3) := by decide +kernel
theorem dX4_isMeaning_14 : decode cX4_isMeaning 14 = .ok (.iconst 0, 1) := by decide +kernel
theorem dX4_isMeaning_15 : decode cX4_isMeaning 15 = .ok (.ireturn, 1) := by decide +kernel
theorem dX4_isByte_0 : decode cX4_isByte 0 = .ok (.iload_n 0, 1) := by decide +kernel
theorem dX4_isByte_1 : decode cX4_isByte 1 = .ok (.ifCond .lt 14, 3) := by decide +kernel
theorem dX4_isByte_4 : decode cX4_isByte 4 = .ok (.iload_n 0, 1) := by decide +kernel
theorem dX4_isByte_5 : decode cX4_isByte 5 = .ok (.sipush 255, 3) := by decide +kernel
theorem dX4_isByte_8 : decode cX4_isByte 8 = .ok (.if_icmp .gt 7, 3) := by decide +kernel
theorem dX4_isByte_11 : decode cX4_isByte 11 = .ok (.iconst 1, 1) := by decide +kernel
theorem dX4_isByte_12 : decode cX4_isByte 12 = .ok (.goto 4, 3) := by decide +kernel
theorem dX4_isByte_15 : decode cX4_isByte 15 = .ok (.iconst 0, 1) := by decide +kernel
theorem dX4_isByte_16 : decode cX4_isByte 16 = .ok (.ireturn, 1) := by decide +kernel
theorem dX4_isLate_0 : decode cX4_isLate 0 = .ok (.lload_n 1, 1) := by decide +kernel
theorem dX4_isLate_1 : decode cX4_isLate 1 = .ok (.aload_n 0, 1) := by decide +kernel
theorem dX4_isLate_2 : decode cX4_isLate 2 = .ok (.getfield 130, 3) := by decide +kernel
theorem dX4_isLate_5 : decode cX4_isLate 5 = .ok (.lcmp, 1) := by decide +kernel
theorem dX4_isLate_6 : decode cX4_isLate 6 = .ok (.ifCond .lt 11, 3) := by decide +kernel
theorem dX4_isLate_9 : decode cX4_isLate 9 = .ok (.lload_n 1, 1) := by decide +kernel
theorem dX4_isLate_10 : decode cX4_isLate 10 = .ok (.ldc2_w 55, 3) := by decide +kernel
theorem dX4_isLate_13 : decode cX4_isLate 13 = .ok (.lcmp, 1) := by decide +kernel
theorem dX4_isLate_14 : decode cX4_isLate 14 = .ok (.ifCond .le 7, 3) := by decide +kernel
theorem dX4_isLate_17 : decode cX4_isLate 17 = .ok (.iconst 1, 1) := by decide +kernel
theorem dX4_isLate_18 : decode cX4_isLate 18 = .ok (.goto 4, 3) := by decide +kernel
theorem dX4_isLate_21 : decode cX4_isLate 21 = .ok (.iconst 0, 1) := by decide +kernel
theorem dX4_isLate_22 : decode cX4_isLate 22 = .ok (.ireturn, 1) := by decide +kernel
theorem dX4_hasBit_0 : decode cX4_hasBit 0 = .ok (.iload_n 0, 1) := by decide +kernel
theorem dX4_hasBit_1 : decode cX4_hasBit 1 = .ok (.iload_n 1, 1) := by decide +kernel
theorem dX4_hasBit_2 : decode cX4_hasBit 2 = .ok (.iushr, 1) := by decide +kernel
theorem dX4_hasBit_3 : decode cX4_hasBit 3 = .ok (.iconst 1, 1) := by decide +kernel
theorem dX4_hasBit_4 : decode cX4_hasBit 4 = .ok (.iand, 1) := by decide +kernel
theorem dX4_hasBit_5 : decode cX4_hasBit 5 = .ok (.iconst 1, 1) := by decide +kernel
theorem dX4_hasBit_6 : decode cX4_hasBit 6 = .ok (.if_icmp .ne 7, 3) := by decide +kernel
theorem dX4_hasBit_9 : decode cX4_hasBit 9 = .ok (.iconst 1, 1) := by decide +kernel
theorem dX4_hasBit_10 : decode cX4_hasBit 10 = .ok (.goto 4, 3) := by decide +kernel
theorem dX4_hasBit_13 : decode cX4_hasBit 13 = .ok (.iconst 0, 1) := by decide +kernel
theorem dX4_hasBit_14 : decode cX4_hasBit 14 = .ok (.ireturn, 1) := by decide +kernel
theorem dX4_thingAt_0 : decode cX4_thingAt 0 = .ok (.iload_n 1, 1) := by decide +kernel
theorem dX4_thingAt_1 : decode cX4_thingAt 1 = .ok (.ifCond .lt 17, 3) := by decide +kernel
theorem dX4_thingAt_4 : decode cX4_thingAt 4 = .ok (.iload_n 1, 1) := by decide +kernel
theorem dX4_thingAt_5 : decode cX4_thingAt 5 = .ok (.aload_n 0, 1) := by decide +kernel
theorem dX4_thingAt_6 : decode cX4_thingAt 6 = .ok (.getfield 63, 3) := by decide +kernel
theorem dX4_thingAt_9 : decode cX4_thingAt 9 = .ok (.if_icmp .ge 9, 3) := by decide +kernel
theorem dX4_thingAt_12 : decode cX4_thingAt 12 = .ok (.iload_n 1, 1) := by decide +kernel
theorem dX4_thingAt_13 : decode cX4_thingAt 13 = .ok (.bipush 16, 2) := by decide +kernel
theorem dX4_thingAt_15 : decode cX4_thingAt 15 = .ok (.if_icmp .lt 5, 3) := by decide +kernel
theorem dX4_thingAt_18 : decode cX4_thingAt 18 = .ok (.aconst_null, 1) := by decide +kernel
theorem dX4_thingAt_19 : decode cX4_thingAt 19 = .ok (.areturn, 1) := by decide +kernel
theorem dX4_thingAt_20 : decode cX4_thingAt 20 = .ok (.aload_n 0, 1) := by decide +kernel
theorem dX4_thingAt_21 : decode cX4_thingAt 21 = .ok (.getfield 17, 3) := by decide +kernel
theorem dX4_thingAt_24 : decode cX4_thingAt 24 = .ok (.iload_n 1, 1) := by decide +kernel
theorem dX4_thingAt_25 : decode cX4_thingAt 25 = .ok (.aaload, 1) := by decide +kernel
theorem dX4_thingAt_26 : decode cX4_thingAt 26 = .ok (.areturn, 1) := by decide +kernel
theorem dX4_signatureAt_0 : decode cX4_signatureAt 0 = .ok (.iload_n 1, 1) := by decide +kernel
theorem dX4_signatureAt_1 : decode cX4_signatureAt 1 = .ok (.ifCond .lt 18, 3) := by decide +kernel
theorem dX4_signatureAt_4 : decode cX4_signatureAt 4 = .ok (.iload_n 1, 1) := by decide +kernel
theorem dX4_signatureAt_5 : decode cX4_signatureAt 5 = .ok (.aload_n 0, 1) := by decide +kernel
theorem dX4_signatureAt_6 : decode cX4_signatureAt 6 = .ok (.getfield 113, 3) := by decide +kernel
theorem dX4_signatureAt_9 : decode cX4_signatureAt 9 = .ok (.if_icmp .ge 10, 3) := by decide +kernel
theorem dX4_signatureAt_12 : decode cX4_signatureAt 12 = .ok (.iload_n 1, 1) := by decide +kernel
theorem dX4_signatureAt_13 : decode cX4_signatureAt 13 = .ok (.sipush 400, 3) := by decide +kernel
theorem dX4_signatureAt_16 : decode cX4_signatureAt 16 = .ok (.if_icmp .lt 5, 3) := by decide +kernel
theorem dX4_signatureAt_19 : decode cX4_signatureAt 19 = .ok (.aconst_null, 1) := by decide +kernel
theorem dX4_signatureAt_20 : decode cX4_signatureAt 20 = .ok (.areturn, 1) := by decide +kernel
theorem dX4_signatureAt_21 : decode cX4_signatureAt 21 = .ok (.aload_n 0, 1) := by decide +kernel
theorem dX4_signatureAt_22 : decode cX4_signatureAt 22 = .ok (.getfield 23, 3) := by decide +kernel
theorem dX4_signatureAt_25 : decode cX4_signatureAt 25 = .ok (.iload_n 1, 1) := by decide +kernel
theorem dX4_signatureAt_26 : decode cX4_signatureAt 26 = .ok (.aaload, 1) := by decide +kernel
theorem dX4_signatureAt_27 : decode cX4_signatureAt 27 = .ok (.areturn, 1) := by decide +kernel
theorem dX4_hasRole_0 : decode cX4_hasRole 0 = .ok (.iconst 0, 1) := by decide +kernel
theorem dX4_hasRole_1 : decode cX4_hasRole 1 = .ok (.istore 5, 2) := by decide +kernel
theorem dX4_hasRole_3 : decode cX4_hasRole 3 = .ok (.iload 5, 2) := by decide +kernel
theorem dX4_hasRole_5 : decode cX4_hasRole 5 = .ok (.bipush 100, 2) := by decide +kernel
theorem dX4_hasRole_7 : decode cX4_hasRole 7 = .ok (.if_icmp .ge 45, 3) := by decide +kernel
theorem dX4_hasRole_10 : decode cX4_hasRole 10 = .ok (.iload 5, 2) := by decide +kernel
theorem dX4_hasRole_12 : decode cX4_hasRole 12 = .ok (.aload_n 0, 1) := by decide +kernel
theorem dX4_hasRole_13 : decode cX4_hasRole 13 = .ok (.getfield 57, 3) := by decide +kernel
theorem dX4_hasRole_16 : decode cX4_hasRole 16 = .ok (.if_icmp .ge 36, 3) := by decide +kernel
theorem dX4_hasRole_19 : decode cX4_hasRole 19 = .ok (.aload_n 0, 1) := by decide +kernel
theorem dX4_hasRole_20 : decode cX4_hasRole 20 = .ok (.getfield 11, 3) := by decide +kernel
theorem dX4_hasRole_23 : decode cX4_hasRole 23 = .ok (.iload 5, 2) := by decide +kernel
theorem dX4_hasRole_25 : decode cX4_hasRole 25 = .ok (.aaload, 1) := by decide +kernel
theorem dX4_hasRole_26 : decode cX4_hasRole 26 = .ok (.astore 6, 2) := by decide +kernel
theorem dX4_hasRole_28 : decode cX4_hasRole 28 = .ok (.aload 6, 2) := by decide +kernel
theorem dX4_hasRole_30 : decode cX4_hasRole 30 = .ok (.ifnull 16, 3) := by decide +kernel
theorem dX4_hasRole_33 : decode cX4_hasRole 33 = .ok (.aload 6, 2) := by decide +kernel
theorem dX4_hasRole_35 : decode cX4_hasRole 35 = .ok (.iload_n 1, 1) := by decide +kernel
theorem dX4_hasRole_36 : decode cX4_hasRole 36 = .ok (.iload_n 2, 1) := by decide +kernel
theorem dX4_hasRole_37 : decode cX4_hasRole 37 = .ok (.lload_n 3, 1) := by decide +kernel
theorem dX4_hasRole_38 : decode cX4_hasRole 38 = .ok (.invokevirtual 164, 3) := by decide +kernel
theorem dX4_hasRole_41 : decode cX4_hasRole 41 = .ok (.ifCond .eq 5, 3) := by decide +kernel
theorem dX4_hasRole_44 : decode cX4_hasRole 44 = .ok (.iconst 1, 1) := by decide +kernel
theorem dX4_hasRole_45 : decode cX4_hasRole 45 = .ok (.ireturn, 1) := by decide +kernel
theorem dX4_hasRole_46 : decode cX4_hasRole 46 = .ok (.iinc 5 1, 3) := by decide +kernel
theorem dX4_hasRole_49 : decode cX4_hasRole 49 = .ok (.goto (-46), 3) := by decide +kernel
theorem dX4_hasRole_52 : decode cX4_hasRole 52 = .ok (.iconst 0, 1) := by decide +kernel
theorem dX4_hasRole_53 : decode cX4_hasRole 53 = .ok (.ireturn, 1) := by decide +kernel
theorem dX4_meaningsThatHold_0 : decode cX4_meaningsThatHold 0 = .ok (.iconst 0, 1) := by decide +kernel
theorem dX4_meaningsThatHold_1 : decode cX4_meaningsThatHold 1 = .ok (.istore_n 2, 1) := by decide +kernel
theorem dX4_meaningsThatHold_2 : decode cX4_meaningsThatHold 2 = .ok (.iconst 0, 1) := by decide +kernel
theorem dX4_meaningsThatHold_3 : decode cX4_meaningsThatHold 3 = .ok (.istore_n 3, 1) := by decide +kernel
theorem dX4_meaningsThatHold_4 : decode cX4_meaningsThatHold 4 = .ok (.iload_n 3, 1) := by decide +kernel
theorem dX4_meaningsThatHold_5 : decode cX4_meaningsThatHold 5 = .ok (.aload_n 0, 1) := by decide +kernel
theorem dX4_meaningsThatHold_6 : decode cX4_meaningsThatHold 6 = .ok (.getfield 113, 3) := by decide +kernel
theorem dX4_meaningsThatHold_9 : decode cX4_meaningsThatHold 9 = .ok (.if_icmp .ge 49, 3) := by decide +kernel
theorem dX4_meaningsThatHold_12 : decode cX4_meaningsThatHold 12 = .ok (.aload_n 0, 1) := by decide +kernel
theorem dX4_meaningsThatHold_13 : decode cX4_meaningsThatHold 13 = .ok (.iload_n 3, 1) := by decide +kernel
theorem dX4_meaningsThatHold_14 : decode cX4_meaningsThatHold 14 = .ok (.invokevirtual 134, 3) := by decide +kernel
theorem dX4_meaningsThatHold_17 : decode cX4_meaningsThatHold 17 = .ok (.astore 4, 2) := by decide +kernel
theorem dX4_meaningsThatHold_19 : decode cX4_meaningsThatHold 19 = .ok (.aload 4, 2) := by decide +kernel
theorem dX4_meaningsThatHold_21 : decode cX4_meaningsThatHold 21 = .ok (.ifnull 31, 3) := by decide +kernel
theorem dX4_meaningsThatHold_24 : decode cX4_meaningsThatHold 24 = .ok (.aload 4, 2) := by decide +kernel
theorem dX4_meaningsThatHold_26 : decode cX4_meaningsThatHold 26 = .ok (.getfield 167, 3) := by decide +kernel
theorem dX4_meaningsThatHold_29 : decode cX4_meaningsThatHold 29 = .ok (.aload_n 1, 1) := by decide +kernel
theorem dX4_meaningsThatHold_30 : decode cX4_meaningsThatHold 30 = .ok (.if_acmp .ne 22, 3) := by decide +kernel
theorem dX4_meaningsThatHold_33 : decode cX4_meaningsThatHold 33 = .ok (.aload_n 0, 1) := by decide +kernel
theorem dX4_meaningsThatHold_34 : decode cX4_meaningsThatHold 34 = .ok (.aload 4, 2) := by decide +kernel
theorem dX4_meaningsThatHold_36 : decode cX4_meaningsThatHold 36 = .ok (.invokevirtual 138, 3) := by decide +kernel
theorem dX4_meaningsThatHold_39 : decode cX4_meaningsThatHold 39 = .ok (.ifCond .eq 13, 3) := by decide +kernel
theorem dX4_meaningsThatHold_42 : decode cX4_meaningsThatHold 42 = .ok (.iload_n 2, 1) := by decide +kernel
theorem dX4_meaningsThatHold_43 : decode cX4_meaningsThatHold 43 = .ok (.iconst 1, 1) := by decide +kernel
theorem dX4_meaningsThatHold_44 : decode cX4_meaningsThatHold 44 = .ok (.aload 4, 2) := by decide +kernel
theorem dX4_meaningsThatHold_46 : decode cX4_meaningsThatHold 46 = .ok (.getfield 171, 3) := by decide +kernel
theorem dX4_meaningsThatHold_49 : decode cX4_meaningsThatHold 49 = .ok (.ishl, 1) := by decide +kernel
theorem dX4_meaningsThatHold_50 : decode cX4_meaningsThatHold 50 = .ok (.ior, 1) := by decide +kernel
theorem dX4_meaningsThatHold_51 : decode cX4_meaningsThatHold 51 = .ok (.istore_n 2, 1) := by decide +kernel
theorem dX4_meaningsThatHold_52 : decode cX4_meaningsThatHold 52 = .ok (.iinc 3 1, 3) := by decide +kernel
theorem dX4_meaningsThatHold_55 : decode cX4_meaningsThatHold 55 = .ok (.goto (-51), 3) := by decide +kernel
theorem dX4_meaningsThatHold_58 : decode cX4_meaningsThatHold 58 = .ok (.iload_n 2, 1) := by decide +kernel
theorem dX4_meaningsThatHold_59 : decode cX4_meaningsThatHold 59 = .ok (.ireturn, 1) := by decide +kernel
theorem dX4_isSignedBy_0 : decode cX4_isSignedBy 0 = .ok (.iconst 0, 1) := by decide +kernel
theorem dX4_isSignedBy_1 : decode cX4_isSignedBy 1 = .ok (.istore 4, 2) := by decide +kernel
theorem dX4_isSignedBy_3 : decode cX4_isSignedBy 3 = .ok (.iload 4, 2) := by decide +kernel
theorem dX4_isSignedBy_5 : decode cX4_isSignedBy 5 = .ok (.aload_n 0, 1) := by decide +kernel
theorem dX4_isSignedBy_6 : decode cX4_isSignedBy 6 = .ok (.getfield 113, 3) := by decide +kernel
theorem dX4_isSignedBy_9 : decode cX4_isSignedBy 9 = .ok (.if_icmp .ge 44, 3) := by decide +kernel
theorem dX4_isSignedBy_12 : decode cX4_isSignedBy 12 = .ok (.aload_n 0, 1) := by decide +kernel
theorem dX4_isSignedBy_13 : decode cX4_isSignedBy 13 = .ok (.iload 4, 2) := by decide +kernel
theorem dX4_isSignedBy_15 : decode cX4_isSignedBy 15 = .ok (.invokevirtual 134, 3) := by decide +kernel
theorem dX4_isSignedBy_18 : decode cX4_isSignedBy 18 = .ok (.astore 5, 2) := by decide +kernel
theorem dX4_isSignedBy_20 : decode cX4_isSignedBy 20 = .ok (.aload 5, 2) := by decide +kernel
theorem dX4_isSignedBy_22 : decode cX4_isSignedBy 22 = .ok (.ifnull 25, 3) := by decide +kernel
theorem dX4_isSignedBy_25 : decode cX4_isSignedBy 25 = .ok (.aload 5, 2) := by decide +kernel
theorem dX4_isSignedBy_27 : decode cX4_isSignedBy 27 = .ok (.aload_n 1, 1) := by decide +kernel
theorem dX4_isSignedBy_28 : decode cX4_isSignedBy 28 = .ok (.iload_n 2, 1) := by decide +kernel
theorem dX4_isSignedBy_29 : decode cX4_isSignedBy 29 = .ok (.iload_n 3, 1) := by decide +kernel
theorem dX4_isSignedBy_30 : decode cX4_isSignedBy 30 = .ok (.invokevirtual 174, 3) := by decide +kernel
theorem dX4_isSignedBy_33 : decode cX4_isSignedBy 33 = .ok (.ifCond .eq 14, 3) := by decide +kernel
theorem dX4_isSignedBy_36 : decode cX4_isSignedBy 36 = .ok (.aload_n 0, 1) := by decide +kernel
theorem dX4_isSignedBy_37 : decode cX4_isSignedBy 37 = .ok (.aload 5, 2) := by decide +kernel
theorem dX4_isSignedBy_39 : decode cX4_isSignedBy 39 = .ok (.invokevirtual 138, 3) := by decide +kernel
theorem dX4_isSignedBy_42 : decode cX4_isSignedBy 42 = .ok (.ifCond .eq 5, 3) := by decide +kernel
theorem dX4_isSignedBy_45 : decode cX4_isSignedBy 45 = .ok (.iconst 1, 1) := by decide +kernel
theorem dX4_isSignedBy_46 : decode cX4_isSignedBy 46 = .ok (.ireturn, 1) := by decide +kernel
theorem dX4_isSignedBy_47 : decode cX4_isSignedBy 47 = .ok (.iinc 4 1, 3) := by decide +kernel
theorem dX4_isSignedBy_50 : decode cX4_isSignedBy 50 = .ok (.goto (-47), 3) := by decide +kernel
theorem dX4_isSignedBy_53 : decode cX4_isSignedBy 53 = .ok (.iconst 0, 1) := by decide +kernel
theorem dX4_isSignedBy_54 : decode cX4_isSignedBy 54 = .ok (.ireturn, 1) := by decide +kernel
theorem dX4_isStanding_0 : decode cX4_isStanding 0 = .ok (.aload_n 1, 1) := by decide +kernel
theorem dX4_isStanding_1 : decode cX4_isStanding 1 = .ok (.getfield 142, 3) := by decide +kernel
theorem dX4_isStanding_4 : decode cX4_isStanding 4 = .ok (.ifCond .ne 25, 3) := by decide +kernel
theorem dX4_isStanding_7 : decode cX4_isStanding 7 = .ok (.aload_n 1, 1) := by decide +kernel
theorem dX4_isStanding_8 : decode cX4_isStanding 8 = .ok (.getfield 123, 3) := by decide +kernel
theorem dX4_isStanding_11 : decode cX4_isStanding 11 = .ok (.aload_n 0, 1) := by decide +kernel
theorem dX4_isStanding_12 : decode cX4_isStanding 12 = .ok (.aload_n 1, 1) := by decide +kernel
theorem dX4_isStanding_13 : decode cX4_isStanding 13 = .ok (.getfield 167, 3) := by decide +kernel
theorem dX4_isStanding_16 : decode cX4_isStanding 16 = .ok (.invokevirtual 119, 3) := by decide +kernel
theorem dX4_isStanding_19 : decode cX4_isStanding 19 = .ok (.invokestatic 177, 3) := by decide +kernel
theorem dX4_isStanding_22 : decode cX4_isStanding 22 = .ok (.ifCond .eq 7, 3) := by decide +kernel
theorem dX4_isStanding_25 : decode cX4_isStanding 25 = .ok (.iconst 1, 1) := by decide +kernel
theorem dX4_isStanding_26 : decode cX4_isStanding 26 = .ok (.goto 4, 3) := by decide +kernel
theorem dX4_isStanding_29 : decode cX4_isStanding 29 = .ok (.iconst 0, 1) := by decide +kernel
theorem dX4_isStanding_30 : decode cX4_isStanding 30 = .ok (.ireturn, 1) := by decide +kernel
theorem dX4_digestWordsOf_0 : decode cX4_digestWordsOf 0 = .ok (.aload_n 1, 1) := by decide +kernel
theorem dX4_digestWordsOf_1 : decode cX4_digestWordsOf 1 = .ok (.getfield 83, 3) := by decide +kernel
theorem dX4_digestWordsOf_4 : decode cX4_digestWordsOf 4 = .ok (.ifCond .eq 37, 3) := by decide +kernel
theorem dX4_digestWordsOf_7 : decode cX4_digestWordsOf 7 = .ok (.aload_n 0, 1) := by decide +kernel
theorem dX4_digestWordsOf_8 : decode cX4_digestWordsOf 8 = .ok (.getfield 40, 3) := by decide +kernel
theorem dX4_digestWordsOf_11 : decode cX4_digestWordsOf 11 = .ok (.aload_n 1, 1) := by decide +kernel
theorem dX4_digestWordsOf_12 : decode cX4_digestWordsOf 12 = .ok (.getfield 79, 3) := by decide +kernel
theorem dX4_digestWordsOf_15 : decode cX4_digestWordsOf 15 = .ok (.aload_n 1, 1) := by decide +kernel
theorem dX4_digestWordsOf_16 : decode cX4_digestWordsOf 16 = .ok (.getfield 76, 3) := by decide +kernel
theorem dX4_digestWordsOf_19 : decode cX4_digestWordsOf 19 = .ok (.invokevirtual 181, 3) := by decide +kernel
theorem dX4_digestWordsOf_22 : decode cX4_digestWordsOf 22 = .ok (.aload_n 0, 1) := by decide +kernel
theorem dX4_digestWordsOf_23 : decode cX4_digestWordsOf 23 = .ok (.getfield 40, 3) := by decide +kernel
theorem dX4_digestWordsOf_26 : decode cX4_digestWordsOf 26 = .ok (.getfield 185, 3) := by decide +kernel
theorem dX4_digestWordsOf_29 : decode cX4_digestWordsOf 29 = .ok (.aload_n 1, 1) := by decide +kernel
theorem dX4_digestWordsOf_30 : decode cX4_digestWordsOf 30 = .ok (.getfield 188, 3) := by decide +kernel
theorem dX4_digestWordsOf_33 : decode cX4_digestWordsOf 33 = .ok (.invokestatic 126, 3) := by decide +kernel
theorem dX4_digestWordsOf_36 : decode cX4_digestWordsOf 36 = .ok (.aload_n 1, 1) := by decide +kernel
theorem dX4_digestWordsOf_37 : decode cX4_digestWordsOf 37 = .ok (.iconst 0, 1) := by decide +kernel
theorem dX4_digestWordsOf_38 : decode cX4_digestWordsOf 38 = .ok (.putfield 83, 3) := by decide +kernel
theorem dX4_digestWordsOf_41 : decode cX4_digestWordsOf 41 = .ok (.aload_n 1, 1) := by decide +kernel
theorem dX4_digestWordsOf_42 : decode cX4_digestWordsOf 42 = .ok (.getfield 188, 3) := by decide +kernel
theorem dX4_digestWordsOf_45 : decode cX4_digestWordsOf 45 = .ok (.areturn, 1) := by decide +kernel
theorem dX4_copyWords_0 : decode cX4_copyWords 0 = .ok (.iconst 0, 1) := by decide +kernel
theorem dX4_copyWords_1 : decode cX4_copyWords 1 = .ok (.istore_n 2, 1) := by decide +kernel
theorem dX4_copyWords_2 : decode cX4_copyWords 2 = .ok (.iload_n 2, 1) := by decide +kernel
theorem dX4_copyWords_3 : decode cX4_copyWords 3 = .ok (.bipush 8, 2) := by decide +kernel
theorem dX4_copyWords_5 : decode cX4_copyWords 5 = .ok (.if_icmp .ge 15, 3) := by decide +kernel
theorem dX4_copyWords_8 : decode cX4_copyWords 8 = .ok (.aload_n 1, 1) := by decide +kernel
theorem dX4_copyWords_9 : decode cX4_copyWords 9 = .ok (.iload_n 2, 1) := by decide +kernel
theorem dX4_copyWords_10 : decode cX4_copyWords 10 = .ok (.aload_n 0, 1) := by decide +kernel
theorem dX4_copyWords_11 : decode cX4_copyWords 11 = .ok (.iload_n 2, 1) := by decide +kernel
theorem dX4_copyWords_12 : decode cX4_copyWords 12 = .ok (.iaload, 1) := by decide +kernel
theorem dX4_copyWords_13 : decode cX4_copyWords 13 = .ok (.iastore, 1) := by decide +kernel
theorem dX4_copyWords_14 : decode cX4_copyWords 14 = .ok (.iinc 2 1, 3) := by decide +kernel
theorem dX4_copyWords_17 : decode cX4_copyWords 17 = .ok (.goto (-15), 3) := by decide +kernel
theorem dX4_copyWords_20 : decode cX4_copyWords 20 = .ok (.return_, 1) := by decide +kernel
theorem dX4_areSameWords_0 : decode cX4_areSameWords 0 = .ok (.iconst 0, 1) := by decide +kernel
theorem dX4_areSameWords_1 : decode cX4_areSameWords 1 = .ok (.istore_n 2, 1) := by decide +kernel
theorem dX4_areSameWords_2 : decode cX4_areSameWords 2 = .ok (.iload_n 2, 1) := by decide +kernel
theorem dX4_areSameWords_3 : decode cX4_areSameWords 3 = .ok (.bipush 8, 2) := by decide +kernel
theorem dX4_areSameWords_5 : decode cX4_areSameWords 5 = .ok (.if_icmp .ge 20, 3) := by decide +kernel
theorem dX4_areSameWords_8 : decode cX4_areSameWords 8 = .ok (.aload_n 0, 1) := by decide +kernel
theorem dX4_areSameWords_9 : decode cX4_areSameWords 9 = .ok (.iload_n 2, 1) := by decide +kernel
theorem dX4_areSameWords_10 : decode cX4_areSameWords 10 = .ok (.iaload, 1) := by decide +kernel
theorem dX4_areSameWords_11 : decode cX4_areSameWords 11 = .ok (.aload_n 1, 1) := by decide +kernel
theorem dX4_areSameWords_12 : decode cX4_areSameWords 12 = .ok (.iload_n 2, 1) := by decide +kernel
theorem dX4_areSameWords_13 : decode cX4_areSameWords 13 = .ok (.iaload, 1) := by decide +kernel
theorem dX4_areSameWords_14 : decode cX4_areSameWords 14 = .ok (.if_icmp .eq 5, 3) := by decide +kernel
theorem dX4_areSameWords_17 : decode cX4_areSameWords 17 = .ok (.iconst 0, 1) := by decide +kernel
theorem dX4_areSameWords_18 : decode cX4_areSameWords 18 = .ok (.ireturn, 1) := by decide +kernel
theorem dX4_areSameWords_19 : decode cX4_areSameWords 19 = .ok (.iinc 2 1, 3) := by decide +kernel
theorem dX4_areSameWords_22 : decode cX4_areSameWords 22 = .ok (.goto (-20), 3) := by decide +kernel
theorem dX4_areSameWords_25 : decode cX4_areSameWords 25 = .ok (.iconst 1, 1) := by decide +kernel
theorem dX4_areSameWords_26 : decode cX4_areSameWords 26 = .ok (.ireturn, 1) := by decide +kernel
end
section
theorem dX5_init_0 : decode cX5_init 0 = .ok (.aload_n 0, 1) := by decide +kernel
theorem dX5_init_1 : decode cX5_init 1 = .ok (.invokespecial 1, 3) := by decide +kernel
theorem dX5_init_4 : decode cX5_init 4 = .ok (.aload_n 0, 1) := by decide +kernel
theorem dX5_init_5 : decode cX5_init 5 = .ok (.bipush 100, 2) := by decide +kernel
theorem dX5_init_7 : decode cX5_init 7 = .ok (.newarray .int, 2) := by decide +kernel
theorem dX5_init_9 : decode cX5_init 9 = .ok (.putfield 9, 3) := by decide +kernel
theorem dX5_init_12 : decode cX5_init 12 = .ok (.aload_n 0, 1) := by decide +kernel
theorem dX5_init_13 : decode cX5_init 13 = .ok (.bipush 100, 2) := by decide +kernel
theorem dX5_init_15 : decode cX5_init 15 = .ok (.newarray .int, 2) := by decide +kernel
theorem dX5_init_17 : decode cX5_init 17 = .ok (.putfield 13, 3) := by decide +kernel
theorem dX5_init_20 : decode cX5_init 20 = .ok (.aload_n 0, 1) := by decide +kernel
theorem dX5_init_21 : decode cX5_init 21 = .ok (.bipush 100, 2) := by decide +kernel
theorem dX5_init_23 : decode cX5_init 23 = .ok (.newarray .long, 2) := by decide +kernel
theorem dX5_init_25 : decode cX5_init 25 = .ok (.putfield 16, 3) := by decide +kernel
theorem dX5_init_28 : decode cX5_init 28 = .ok (.aload_n 0, 1) := by decide +kernel
theorem dX5_init_29 : decode cX5_init 29 = .ok (.bipush 100, 2) := by decide +kernel
theorem dX5_init_31 : decode cX5_init 31 = .ok (.newarray .long, 2) := by decide +kernel
theorem dX5_init_33 : decode cX5_init 33 = .ok (.putfield 20, 3) := by decide +kernel
theorem dX5_init_36 : decode cX5_init 36 = .ok (.aload_n 0, 1) := by decide +kernel
theorem dX5_init_37 : decode cX5_init 37 = .ok (.bipush 16, 2) := by decide +kernel
theorem dX5_init_39 : decode cX5_init 39 = .ok (.newarray .int, 2) := by decide +kernel
theorem dX5_init_41 : decode cX5_init 41 = .ok (.putfield 23, 3) := by decide +kernel
theorem dX5_init_44 : decode cX5_init 44 = .ok (.aload_n 0, 1) := by decide +kernel
theorem dX5_init_45 : decode cX5_init 45 = .ok (.bipush 16, 2) := by decide +kernel
theorem dX5_init_47 : decode cX5_init 47 = .ok (.newarray .int, 2) := by decide +kernel
theorem dX5_init_49 : decode cX5_init 49 = .ok (.putfield 26, 3) := by decide +kernel
theorem dX5_init_52 : decode cX5_init 52 = .ok (.aload_n 0, 1) := by decide +kernel
theorem dX5_init_53 : decode cX5_init 53 = .ok (.sipush 128, 3) := by decide +kernel
theorem dX5_init_56 : decode cX5_init 56 = .ok (.newarray .int, 2) := by decide +kernel
theorem dX5_init_58 : decode cX5_init 58 = .ok (.putfield 29, 3) := by decide +kernel
theorem dX5_init_61 : decode cX5_init 61 = .ok (.aload_n 0, 1) := by decide +kernel
theorem dX5_init_62 : decode cX5_init 62 = .ok (.sipush 16000, 3) := by decide +kernel
theorem dX5_init_65 : decode cX5_init 65 = .ok (.newarray .int, 2) := by decide +kernel
theorem dX5_init_67 : decode cX5_init 67 = .ok (.putfield 32, 3) := by decide +kernel
theorem dX5_init_70 : decode cX5_init 70 = .ok (.aload_n 0, 1) := by decide +kernel
theorem dX5_init_71 : decode cX5_init 71 = .ok (.bipush 16, 2) := by decide +kernel
theorem dX5_init_73 : decode cX5_init 73 = .ok (.newarray .int, 2) := by decide +kernel
theorem dX5_init_75 : decode cX5_init 75 = .ok (.putfield 35, 3) := by decide +kernel
theorem dX5_init_78 : decode cX5_init 78 = .ok (.aload_n 0, 1) := by decide +kernel
theorem dX5_init_79 : decode cX5_init 79 = .ok (.sipush 3200, 3) := by decide +kernel
theorem dX5_init_82 : decode cX5_init 82 = .ok (.newarray .int, 2) := by decide +kernel
theorem dX5_init_84 : decode cX5_init 84 = .ok (.putfield 38, 3) := by decide +kernel
theorem dX5_init_87 : decode cX5_init 87 = .ok (.aload_n 0, 1) := by decide +kernel
theorem dX5_init_88 : decode cX5_init 88 = .ok (.bipush 16, 2) := by decide +kernel
theorem dX5_init_90 : decode cX5_init 90 = .ok (.newarray .int, 2) := by decide +kernel
theorem dX5_init_92 : decode cX5_init 92 = .ok (.putfield 41, 3) := by decide +kernel
theorem dX5_init_95 : decode cX5_init 95 = .ok (.aload_n 0, 1) := by decide +kernel
theorem dX5_init_96 : decode cX5_init 96 = .ok (.sipush 160, 3) := by decide +kernel
theorem dX5_init_99 : decode cX5_init 99 = .ok (.newarray .int, 2) := by decide +kernel
theorem dX5_init_101 : decode cX5_init 101 = .ok (.putfield 44, 3) := by decide +kernel
theorem dX5_init_104 : decode cX5_init 104 = .ok (.aload_n 0, 1) := by decide +kernel
theorem dX5_init_105 : decode cX5_init 105 = .ok (.sipush 400, 3) := by decide +kernel
theorem dX5_init_108 : decode cX5_init 108 = .ok (.newarray .int, 2) := by decide +kernel
theorem dX5_init_110 : decode cX5_init 110 = .ok (.putfield 47, 3) := by decide +kernel
theorem dX5_init_113 : decode cX5_init 113 = .ok (.aload_n 0, 1) := by decide +kernel
theorem dX5_init_114 : decode cX5_init 114 = .ok (.sipush 400, 3) := by decide +kernel
theorem dX5_init_117 : decode cX5_init 117 = .ok (.newarray .int, 2) := by decide +kernel
theorem dX5_init_119 : decode cX5_init 119 = .ok (.putfield 50, 3) := by decide +kernel
theorem dX5_init_122 : decode cX5_init 122 = .ok (.aload_n 0, 1) := by decide +kernel
theorem dX5_init_123 : decode cX5_init 123 = .ok (.sipush 400, 3) := by decide +kernel
theorem dX5_init_126 : decode cX5_init 126 = .ok (.newarray .int, 2) := by decide +kernel
theorem dX5_init_128 : decode cX5_init 128 = .ok (.putfield 53, 3) := by decide +kernel
theorem dX5_init_131 : decode cX5_init 131 = .ok (.aload_n 0, 1) := by decide +kernel
theorem dX5_init_132 : decode cX5_init 132 = .ok (.sipush 3200, 3) := by decide +kernel
theorem dX5_init_135 : decode cX5_init 135 = .ok (.newarray .int, 2) := by decide +kernel
theorem dX5_init_137 : decode cX5_init 137 = .ok (.putfield 56, 3) := by decide +kernel
theorem dX5_init_140 : decode cX5_init 140 = .ok (.aload_n 0, 1) := by decide +kernel
theorem dX5_init_141 : decode cX5_init 141 = .ok (.sipush 400, 3) := by decide +kernel
theorem dX5_init_144 : decode cX5_init 144 = .ok (.newarray .boolean, 2) := by decide +kernel
theorem dX5_init_146 : decode cX5_init 146 = .ok (.putfield 59, 3) := by decide +kernel
theorem dX5_init_149 : decode cX5_init 149 = .ok (.aload_n 0, 1) := by decide +kernel
theorem dX5_init_150 : decode cX5_init 150 = .ok (.sipush 400, 3) := by decide +kernel
theorem dX5_init_153 : decode cX5_init 153 = .ok (.newarray .int, 2) := by decide +kernel
theorem dX5_init_155 : decode cX5_init 155 = .ok (.putfield 63, 3) := by decide +kernel
theorem dX5_init_158 : decode cX5_init 158 = .ok (.aload_n 0, 1) := by decide +kernel
theorem dX5_init_159 : decode cX5_init 159 = .ok (.bipush 100, 2) := by decide +kernel
theorem dX5_init_161 : decode cX5_init 161 = .ok (.newarray .boolean, 2) := by decide +kernel
theorem dX5_init_163 : decode cX5_init 163 = .ok (.putfield 66, 3) := by decide +kernel
theorem dX5_init_166 : decode cX5_init 166 = .ok (.aload_n 0, 1) := by decide +kernel
theorem dX5_init_167 : decode cX5_init 167 = .ok (.bipush 64, 2) := by decide +kernel
theorem dX5_init_169 : decode cX5_init 169 = .ok (.newarray .int, 2) := by decide +kernel
theorem dX5_init_171 : decode cX5_init 171 = .ok (.putfield 69, 3) := by decide +kernel
theorem dX5_init_174 : decode cX5_init 174 = .ok (.aload_n 0, 1) := by decide +kernel
theorem dX5_init_175 : decode cX5_init 175 = .ok (.bipush 8, 2) := by decide +kernel
theorem dX5_init_177 : decode cX5_init 177 = .ok (.newarray .int, 2) := by decide +kernel
theorem dX5_init_179 : decode cX5_init 179 = .ok (.putfield 72, 3) := by decide +kernel
theorem dX5_init_182 : decode cX5_init 182 = .ok (.aload_n 0, 1) := by decide +kernel
theorem dX5_init_183 : decode cX5_init 183 = .ok (.bipush 64, 2) := by decide +kernel
theorem dX5_init_185 : decode cX5_init 185 = .ok (.newarray .int, 2) := by decide +kernel
theorem dX5_init_187 : decode cX5_init 187 = .ok (.putfield 75, 3) := by decide +kernel
theorem dX5_init_190 : decode cX5_init 190 = .ok (.aload_n 0, 1) := by decide +kernel
theorem dX5_init_191 : decode cX5_init 191 = .ok (.bipush 8, 2) := by decide +kernel
theorem dX5_init_193 : decode cX5_init 193 = .ok (.newarray .int, 2) := by decide +kernel
theorem dX5_init_195 : decode cX5_init 195 = .ok (.putfield 78, 3) := by decide +kernel
theorem dX5_init_198 : decode cX5_init 198 = .ok (.aload_n 0, 1) := by decide +kernel
theorem dX5_init_199 : decode cX5_init 199 = .ok (.bipush 8, 2) := by decide +kernel
theorem dX5_init_201 : decode cX5_init 201 = .ok (.newarray .int, 2) := by decide +kernel
theorem dX5_init_203 : decode cX5_init 203 = .ok (.putfield 81, 3) := by decide +kernel
theorem dX5_init_206 : decode cX5_init 206 = .ok (.return_, 1) := by decide +kernel
theorem dX5_thrown_0 : decode cX5_thrown 0 = .ok (.aload_n 0, 1) := by decide +kernel
theorem dX5_thrown_1 : decode cX5_thrown 1 = .ok (.getfield 84, 3) := by decide +kernel
theorem dX5_thrown_4 : decode cX5_thrown 4 = .ok (.ireturn, 1) := by decide +kernel
theorem dX5_person_0 : decode cX5_person 0 = .ok (.aload_n 0, 1) := by decide +kernel
theorem dX5_person_1 : decode cX5_person 1 = .ok (.iconst 0, 1) := by decide +kernel
theorem dX5_person_2 : decode cX5_person 2 = .ok (.putfield 84, 3) := by decide +kernel
theorem dX5_person_5 : decode cX5_person 5 = .ok (.aload_n 0, 1) := by decide +kernel
theorem dX5_person_6 : decode cX5_person 6 = .ok (.getfield 88, 3) := by decide +kernel
theorem dX5_person_9 : decode cX5_person 9 = .ok (.bipush 24, 2) := by decide +kernel
theorem dX5_person_11 : decode cX5_person 11 = .ok (.if_icmp .ne 6, 3) := by decide +kernel
theorem dX5_person_14 : decode cX5_person 14 = .ok (.bipush (-2), 2) := by decide +kernel
theorem dX5_person_16 : decode cX5_person 16 = .ok (.ireturn, 1) := by decide +kernel
theorem dX5_person_17 : decode cX5_person 17 = .ok (.aload_n 0, 1) := by decide +kernel
theorem dX5_person_18 : decode cX5_person 18 = .ok (.dup, 1) := by decide +kernel
theorem dX5_person_19 : decode cX5_person 19 = .ok (.getfield 88, 3) := by decide +kernel
theorem dX5_person_22 : decode cX5_person 22 = .ok (.iconst 1, 1) := by decide +kernel
theorem dX5_person_23 : decode cX5_person 23 = .ok (.iadd, 1) := by decide +kernel
theorem dX5_person_24 : decode cX5_person 24 = .ok (.putfield 88, 3) := by decide +kernel
theorem dX5_person_27 : decode cX5_person 27 = .ok (.aload_n 0, 1) := by decide +kernel
theorem dX5_person_28 : decode cX5_person 28 = .ok (.getfield 88, 3) := by decide +kernel
theorem dX5_person_31 : decode cX5_person 31 = .ok (.iconst 1, 1) := by decide +kernel
theorem dX5_person_32 : decode cX5_person 32 = .ok (.isub, 1) := by decide +kernel
theorem dX5_person_33 : decode cX5_person 33 = .ok (.ireturn, 1) := by decide +kernel
theorem dX5_isPerson_0 : decode cX5_isPerson 0 = .ok (.iload_n 1, 1) := by decide +kernel
theorem dX5_isPerson_1 : decode cX5_isPerson 1 = .ok (.ifCond .lt 15, 3) := by decide +kernel
theorem dX5_isPerson_4 : decode cX5_isPerson 4 = .ok (.iload_n 1, 1) := by decide +kernel
theorem dX5_isPerson_5 : decode cX5_isPerson 5 = .ok (.aload_n 0, 1) := by decide +kernel
theorem dX5_isPerson_6 : decode cX5_isPerson 6 = .ok (.getfield 88, 3) := by decide +kernel
theorem dX5_isPerson_9 : decode cX5_isPerson 9 = .ok (.if_icmp .ge 7, 3) := by decide +kernel
theorem dX5_isPerson_12 : decode cX5_isPerson 12 = .ok (.iconst 1, 1) := by decide +kernel
theorem dX5_isPerson_13 : decode cX5_isPerson 13 = .ok (.goto 4, 3) := by decide +kernel
theorem dX5_isPerson_16 : decode cX5_isPerson 16 = .ok (.iconst 0, 1) := by decide +kernel
theorem dX5_isPerson_17 : decode cX5_isPerson 17 = .ok (.ireturn, 1) := by decide +kernel
theorem dX5_isThing_0 : decode cX5_isThing 0 = .ok (.iload_n 1, 1) := by decide +kernel
theorem dX5_isThing_1 : decode cX5_isThing 1 = .ok (.ifCond .lt 15, 3) := by decide +kernel
theorem dX5_isThing_4 : decode cX5_isThing 4 = .ok (.iload_n 1, 1) := by decide +kernel
theorem dX5_isThing_5 : decode cX5_isThing 5 = .ok (.aload_n 0, 1) := by decide +kernel
theorem dX5_isThing_6 : decode cX5_isThing 6 = .ok (.getfield 91, 3) := by decide +kernel
theorem dX5_isThing_9 : decode cX5_isThing 9 = .ok (.if_icmp .ge 7, 3) := by decide +kernel
theorem dX5_isThing_12 : decode cX5_isThing 12 = .ok (.iconst 1, 1) := by decide +kernel
theorem dX5_isThing_13 : decode cX5_isThing 13 = .ok (.goto 4, 3) := by decide +kernel
theorem dX5_isThing_16 : decode cX5_isThing 16 = .ok (.iconst 0, 1) := by decide +kernel
theorem dX5_isThing_17 : decode cX5_isThing 17 = .ok (.ireturn, 1) := by decide +kernel
theorem dX5_isTen_0 : decode cX5_isTen 0 = .ok (.iload_n 0, 1) := by decide +kernel
theorem dX5_isTen_1 : decode cX5_isTen 1 = .ok (.ifCond .lt 13, 3) := by decide +kernel
theorem dX5_isTen_4 : decode cX5_isTen 4 = .ok (.iload_n 0, 1) := by decide +kernel
theorem dX5_isTen_5 : decode cX5_isTen 5 = .ok (.bipush 10, 2) := by decide +kernel
theorem dX5_isTen_7 : decode cX5_isTen 7 = .ok (.if_icmp .ge 7, 3) := by decide +kernel
theorem dX5_isTen_10 : decode cX5_isTen 10 = .ok (.iconst 1, 1) := by decide +kernel
theorem dX5_isTen_11 : decode cX5_isTen 11 = .ok (.goto 4, 3) := by decide +kernel
theorem dX5_isTen_14 : decode cX5_isTen 14 = .ok (.iconst 0, 1) := by decide +kernel
theorem dX5_isTen_15 : decode cX5_isTen 15 = .ok (.ireturn, 1) := by decide +kernel
theorem dX5_isSecond_0 : decode cX5_isSecond 0 = .ok (.lload_n 0, 1) := by decide +kernel
theorem dX5_isSecond_1 : decode cX5_isSecond 1 = .ok (.lconst 0, 1) := by decide +kernel
theorem dX5_isSecond_2 : decode cX5_isSecond 2 = .ok (.lcmp, 1) := by decide +kernel
theorem dX5_isSecond_3 : decode cX5_isSecond 3 = .ok (.ifCond .lt 15, 3) := by decide +kernel
theorem dX5_isSecond_6 : decode cX5_isSecond 6 = .ok (.lload_n 0, 1) := by decide +kernel
theorem dX5_isSecond_7 : decode cX5_isSecond 7 = .ok (.ldc2_w 94, 3) := by decide +kernel
theorem dX5_isSecond_10 : decode cX5_isSecond 10 = .ok (.lcmp, 1) := by decide +kernel
theorem dX5_isSecond_11 : decode cX5_isSecond 11 = .ok (.ifCond .gt 7, 3) := by decide +kernel
theorem dX5_isSecond_14 : decode cX5_isSecond 14 = .ok (.iconst 1, 1) := by decide +kernel
theorem dX5_isSecond_15 : decode cX5_isSecond 15 = .ok (.goto 4, 3) := by decide +kernel
theorem dX5_isSecond_18 : decode cX5_isSecond 18 = .ok (.iconst 0, 1) := by decide +kernel
theorem dX5_isSecond_19 : decode cX5_isSecond 19 = .ok (.ireturn, 1) := by decide +kernel
theorem dX5_role_0 : decode cX5_role 0 = .ok (.aload_n 0, 1) := by decide +kernel
theorem dX5_role_1 : decode cX5_role 1 = .ok (.iconst 0, 1) := by decide +kernel
theorem dX5_role_2 : decode cX5_role 2 = .ok (.putfield 84, 3) := by decide +kernel
theorem dX5_role_5 : decode cX5_role 5 = .ok (.aload_n 0, 1) := by decide +kernel
theorem dX5_role_6 : decode cX5_role 6 = .ok (.iload_n 1, 1) := by decide +kernel
theorem dX5_role_7 : decode cX5_role 7 = .ok (.invokevirtual 96, 3) := by decide +kernel
theorem dX5_role_10 : decode cX5_role 10 = .ok (.ifCond .eq 41, 3) := by decide +kernel
theorem dX5_role_13 : decode cX5_role 13 = .ok (.iload_n 2, 1) := by decide +kernel
theorem dX5_role_14 : decode cX5_role 14 = .ok (.invokestatic 100, 3) := by decide +kernel
theorem dX5_role_17 : decode cX5_role 17 = .ok (.ifCond .eq 34, 3) := by decide +kernel
theorem dX5_role_20 : decode cX5_role 20 = .ok (.lload_n 3, 1) := by decide +kernel
theorem dX5_role_21 : decode cX5_role 21 = .ok (.invokestatic 103, 3) := by decide +kernel
theorem dX5_role_24 : decode cX5_role 24 = .ok (.ifCond .eq 27, 3) := by decide +kernel
theorem dX5_role_27 : decode cX5_role 27 = .ok (.lload 5, 2) := by decide +kernel
theorem dX5_role_29 : decode cX5_role 29 = .ok (.invokestatic 103, 3) := by decide +kernel
theorem dX5_role_32 : decode cX5_role 32 = .ok (.ifCond .eq 19, 3) := by decide +kernel
theorem dX5_role_35 : decode cX5_role 35 = .ok (.lload_n 3, 1) := by decide +kernel
theorem dX5_role_36 : decode cX5_role 36 = .ok (.lload 5, 2) := by decide +kernel
theorem dX5_role_38 : decode cX5_role 38 = .ok (.lcmp, 1) := by decide +kernel
theorem dX5_role_39 : decode cX5_role 39 = .ok (.ifCond .gt 12, 3) := by decide +kernel
theorem dX5_role_42 : decode cX5_role 42 = .ok (.aload_n 0, 1) := by decide +kernel
theorem dX5_role_43 : decode cX5_role 43 = .ok (.getfield 107, 3) := by decide +kernel
theorem dX5_role_46 : decode cX5_role 46 = .ok (.bipush 100, 2) := by decide +kernel
theorem dX5_role_48 : decode cX5_role 48 = .ok (.if_icmp .ne 5, 3) := by decide +kernel
theorem dX5_role_51 : decode cX5_role 51 = .ok (.iconst 0, 1) := by decide +kernel
theorem dX5_role_52 : decode cX5_role 52 = .ok (.ireturn, 1) := by decide +kernel
theorem dX5_role_53 : decode cX5_role 53 = .ok (.aload_n 0, 1) := by decide +kernel
theorem dX5_role_54 : decode cX5_role 54 = .ok (.getfield 9, 3) := by decide +kernel
theorem dX5_role_57 : decode cX5_role 57 = .ok (.aload_n 0, 1) := by decide +kernel
theorem dX5_role_58 : decode cX5_role 58 = .ok (.getfield 107, 3) := by decide +kernel
theorem dX5_role_61 : decode cX5_role 61 = .ok (.iload_n 1, 1) := by decide +kernel
theorem dX5_role_62 : decode cX5_role 62 = .ok (.iastore, 1) := by decide +kernel
theorem dX5_role_63 : decode cX5_role 63 = .ok (.aload_n 0, 1) := by decide +kernel
theorem dX5_role_64 : decode cX5_role 64 = .ok (.getfield 13, 3) := by decide +kernel
theorem dX5_role_67 : decode cX5_role 67 = .ok (.aload_n 0, 1) := by decide +kernel
theorem dX5_role_68 : decode cX5_role 68 = .ok (.getfield 107, 3) := by decide +kernel
theorem dX5_role_71 : decode cX5_role 71 = .ok (.iload_n 2, 1) := by decide +kernel
theorem dX5_role_72 : decode cX5_role 72 = .ok (.iastore, 1) := by decide +kernel
theorem dX5_role_73 : decode cX5_role 73 = .ok (.aload_n 0, 1) := by decide +kernel
theorem dX5_role_74 : decode cX5_role 74 = .ok (.getfield 16, 3) := by decide +kernel
theorem dX5_role_77 : decode cX5_role 77 = .ok (.aload_n 0, 1) := by decide +kernel
theorem dX5_role_78 : decode cX5_role 78 = .ok (.getfield 107, 3) := by decide +kernel
theorem dX5_role_81 : decode cX5_role 81 = .ok (.lload_n 3, 1) := by decide +kernel
theorem dX5_role_82 : decode cX5_role 82 = .ok (.lastore, 1) := by decide +kernel
theorem dX5_role_83 : decode cX5_role 83 = .ok (.aload_n 0, 1) := by decide +kernel
theorem dX5_role_84 : decode cX5_role 84 = .ok (.getfield 20, 3) := by decide +kernel
theorem dX5_role_87 : decode cX5_role 87 = .ok (.aload_n 0, 1) := by decide +kernel
theorem dX5_role_88 : decode cX5_role 88 = .ok (.getfield 107, 3) := by decide +kernel
theorem dX5_role_91 : decode cX5_role 91 = .ok (.lload 5, 2) := by decide +kernel
theorem dX5_role_93 : decode cX5_role 93 = .ok (.lastore, 1) := by decide +kernel
theorem dX5_role_94 : decode cX5_role 94 = .ok (.aload_n 0, 1) := by decide +kernel
theorem dX5_role_95 : decode cX5_role 95 = .ok (.dup, 1) := by decide +kernel
theorem dX5_role_96 : decode cX5_role 96 = .ok (.getfield 107, 3) := by decide +kernel
theorem dX5_role_99 : decode cX5_role 99 = .ok (.iconst 1, 1) := by decide +kernel
theorem dX5_role_100 : decode cX5_role 100 = .ok (.iadd, 1) := by decide +kernel
theorem dX5_role_101 : decode cX5_role 101 = .ok (.putfield 107, 3) := by decide +kernel
theorem dX5_role_104 : decode cX5_role 104 = .ok (.iconst 1, 1) := by decide +kernel
theorem dX5_role_105 : decode cX5_role 105 = .ok (.ireturn, 1) := by decide +kernel
theorem dX5_thing_0 : decode cX5_thing 0 = .ok (.aload_n 0, 1) := by decide +kernel
theorem dX5_thing_1 : decode cX5_thing 1 = .ok (.iconst 0, 1) := by decide +kernel
theorem dX5_thing_2 : decode cX5_thing 2 = .ok (.putfield 84, 3) := by decide +kernel
theorem dX5_thing_5 : decode cX5_thing 5 = .ok (.aload_n 0, 1) := by decide +kernel
theorem dX5_thing_6 : decode cX5_thing 6 = .ok (.iload_n 1, 1) := by decide +kernel
theorem dX5_thing_7 : decode cX5_thing 7 = .ok (.invokevirtual 96, 3) := by decide +kernel
theorem dX5_thing_10 : decode cX5_thing 10 = .ok (.ifCond .ne 5, 3) := by decide +kernel
theorem dX5_thing_13 : decode cX5_thing 13 = .ok (.iconst (-1), 1) := by decide +kernel
theorem dX5_thing_14 : decode cX5_thing 14 = .ok (.ireturn, 1) := by decide +kernel
theorem dX5_thing_15 : decode cX5_thing 15 = .ok (.aload_n 0, 1) := by decide +kernel
theorem dX5_thing_16 : decode cX5_thing 16 = .ok (.getfield 91, 3) := by decide +kernel
theorem dX5_thing_19 : decode cX5_thing 19 = .ok (.bipush 16, 2) := by decide +kernel
theorem dX5_thing_21 : decode cX5_thing 21 = .ok (.if_icmp .ne 6, 3) := by decide +kernel
theorem dX5_thing_24 : decode cX5_thing 24 = .ok (.bipush (-2), 2) := by decide +kernel
theorem dX5_thing_26 : decode cX5_thing 26 = .ok (.ireturn, 1) := by decide +kernel
theorem dX5_thing_27 : decode cX5_thing 27 = .ok (.aload_n 0, 1) := by decide +kernel
theorem dX5_thing_28 : decode cX5_thing 28 = .ok (.getfield 23, 3) := by decide +kernel
theorem dX5_thing_31 : decode cX5_thing 31 = .ok (.aload_n 0, 1) := by decide +kernel
theorem dX5_thing_32 : decode cX5_thing 32 = .ok (.getfield 91, 3) := by decide +kernel
theorem dX5_thing_35 : decode cX5_thing 35 = .ok (.iload_n 1, 1) := by decide +kernel
theorem dX5_thing_36 : decode cX5_thing 36 = .ok (.iastore, 1) := by decide +kernel
theorem dX5_thing_37 : decode cX5_thing 37 = .ok (.aload_n 0, 1) := by decide +kernel
theorem dX5_thing_38 : decode cX5_thing 38 = .ok (.aload_n 0, 1) := by decide +kernel
theorem dX5_thing_39 : decode cX5_thing 39 = .ok (.getfield 91, 3) := by decide +kernel
theorem dX5_thing_42 : decode cX5_thing 42 = .ok (.invokevirtual 110, 3) := by decide +kernel
theorem dX5_thing_45 : decode cX5_thing 45 = .ok (.aload_n 0, 1) := by decide +kernel
theorem dX5_thing_46 : decode cX5_thing 46 = .ok (.dup, 1) := by decide +kernel
theorem dX5_thing_47 : decode cX5_thing 47 = .ok (.getfield 91, 3) := by decide +kernel
theorem dX5_thing_50 : decode cX5_thing 50 = .ok (.iconst 1, 1) := by decide +kernel
theorem dX5_thing_51 : decode cX5_thing 51 = .ok (.iadd, 1) := by decide +kernel
theorem dX5_thing_52 : decode cX5_thing 52 = .ok (.putfield 91, 3) := by decide +kernel
theorem dX5_thing_55 : decode cX5_thing 55 = .ok (.aload_n 0, 1) := by decide +kernel
theorem dX5_thing_56 : decode cX5_thing 56 = .ok (.getfield 91, 3) := by decide +kernel
theorem dX5_thing_59 : decode cX5_thing 59 = .ok (.iconst 1, 1) := by decide +kernel
theorem dX5_thing_60 : decode cX5_thing 60 = .ok (.isub, 1) := by decide +kernel
theorem dX5_thing_61 : decode cX5_thing 61 = .ok (.ireturn, 1) := by decide +kernel
theorem dX5_byteOf_0 : decode cX5_byteOf 0 = .ok (.aload_n 0, 1) := by decide +kernel
theorem dX5_byteOf_1 : decode cX5_byteOf 1 = .ok (.iconst 0, 1) := by decide +kernel
theorem dX5_byteOf_2 : decode cX5_byteOf 2 = .ok (.putfield 84, 3) := by decide +kernel
theorem dX5_byteOf_5 : decode cX5_byteOf 5 = .ok (.aload_n 0, 1) := by decide +kernel
theorem dX5_byteOf_6 : decode cX5_byteOf 6 = .ok (.iload_n 1, 1) := by decide +kernel
theorem dX5_byteOf_7 : decode cX5_byteOf 7 = .ok (.invokevirtual 114, 3) := by decide +kernel
theorem dX5_byteOf_10 : decode cX5_byteOf 10 = .ok (.ifCond .eq 26, 3) := by decide +kernel
theorem dX5_byteOf_13 : decode cX5_byteOf 13 = .ok (.iload_n 2, 1) := by decide +kernel
theorem dX5_byteOf_14 : decode cX5_byteOf 14 = .ok (.ifCond .lt 22, 3) := by decide +kernel
theorem dX5_byteOf_17 : decode cX5_byteOf 17 = .ok (.iload_n 2, 1) := by decide +kernel
theorem dX5_byteOf_18 : decode cX5_byteOf 18 = .ok (.sipush 255, 3) := by decide +kernel
theorem dX5_byteOf_21 : decode cX5_byteOf 21 = .ok (.if_icmp .gt 15, 3) := by decide +kernel
theorem dX5_byteOf_24 : decode cX5_byteOf 24 = .ok (.aload_n 0, 1) := by decide +kernel
theorem dX5_byteOf_25 : decode cX5_byteOf 25 = .ok (.getfield 26, 3) := by decide +kernel
theorem dX5_byteOf_28 : decode cX5_byteOf 28 = .ok (.iload_n 1, 1) := by decide +kernel
theorem dX5_byteOf_29 : decode cX5_byteOf 29 = .ok (.iaload, 1) := by decide +kernel
theorem dX5_byteOf_30 : decode cX5_byteOf 30 = .ok (.sipush 1000, 3) := by decide +kernel
theorem dX5_byteOf_33 : decode cX5_byteOf 33 = .ok (.if_icmp .ne 5, 3) := by decide +kernel
theorem dX5_byteOf_36 : decode cX5_byteOf 36 = .ok (.iconst 0, 1) := by decide +kernel
theorem dX5_byteOf_37 : decode cX5_byteOf 37 = .ok (.ireturn, 1) := by decide +kernel
theorem dX5_byteOf_38 : decode cX5_byteOf 38 = .ok (.aload_n 0, 1) := by decide +kernel
theorem dX5_byteOf_39 : decode cX5_byteOf 39 = .ok (.getfield 32, 3) := by decide +kernel
theorem dX5_byteOf_42 : decode cX5_byteOf 42 = .ok (.sipush 1000, 3) := by decide +kernel
theorem dX5_byteOf_45 : decode cX5_byteOf 45 = .ok (.iload_n 1, 1) := by decide +kernel
theorem dX5_byteOf_46 : decode cX5_byteOf 46 = .ok (.imul, 1) := by decide +kernel
theorem dX5_byteOf_47 : decode cX5_byteOf 47 = .ok (.aload_n 0, 1) := by decide +kernel
theorem dX5_byteOf_48 : decode cX5_byteOf 48 = .ok (.getfield 26, 3) := by decide +kernel
theorem dX5_byteOf_51 : decode cX5_byteOf 51 = .ok (.iload_n 1, 1) := by decide +kernel
theorem dX5_byteOf_52 : decode cX5_byteOf 52 = .ok (.iaload, 1) := by decide +kernel
theorem dX5_byteOf_53 : decode cX5_byteOf 53 = .ok (.iadd, 1) := by decide +kernel
theorem dX5_byteOf_54 : decode cX5_byteOf 54 = .ok (.iload_n 2, 1) := by decide +kernel
theorem dX5_byteOf_55 : decode cX5_byteOf 55 = .ok (.iastore, 1) := by decide +kernel
theorem dX5_byteOf_56 : decode cX5_byteOf 56 = .ok (.aload_n 0, 1) := by decide +kernel
theorem dX5_byteOf_57 : decode cX5_byteOf 57 = .ok (.getfield 26, 3) := by decide +kernel
theorem dX5_byteOf_60 : decode cX5_byteOf 60 = .ok (.iload_n 1, 1) := by decide +kernel
theorem dX5_byteOf_61 : decode cX5_byteOf 61 = .ok (.dup2, 1) := by decide +kernel
theorem dX5_byteOf_62 : decode cX5_byteOf 62 = .ok (.iaload, 1) := by decide +kernel
theorem dX5_byteOf_63 : decode cX5_byteOf 63 = .ok (.iconst 1, 1) := by decide +kernel
theorem dX5_byteOf_64 : decode cX5_byteOf 64 = .ok (.iadd, 1) := by decide +kernel
theorem dX5_byteOf_65 : decode cX5_byteOf 65 = .ok (.iastore, 1) := by decide +kernel
theorem dX5_byteOf_66 : decode cX5_byteOf 66 = .ok (.aload_n 0, 1) := by decide +kernel
theorem dX5_byteOf_67 : decode cX5_byteOf 67 = .ok (.iload_n 1, 1) := by decide +kernel
theorem dX5_byteOf_68 : decode cX5_byteOf 68 = .ok (.invokevirtual 110, 3) := by decide +kernel
theorem dX5_byteOf_71 : decode cX5_byteOf 71 = .ok (.iconst 1, 1) := by decide +kernel
theorem dX5_byteOf_72 : decode cX5_byteOf 72 = .ok (.ireturn, 1) := by decide +kernel
theorem dX5_stands_0 : decode cX5_stands 0 = .ok (.aload_n 0, 1) := by decide +kernel
theorem dX5_stands_1 : decode cX5_stands 1 = .ok (.getfield 59, 3) := by decide +kernel
theorem dX5_stands_4 : decode cX5_stands 4 = .ok (.iload_n 1, 1) := by decide +kernel
theorem dX5_stands_5 : decode cX5_stands 5 = .ok (.baload, 1) := by decide +kernel
theorem dX5_stands_6 : decode cX5_stands 6 = .ok (.ifCond .ne 7, 3) := by decide +kernel
theorem dX5_stands_9 : decode cX5_stands 9 = .ok (.iconst 1, 1) := by decide +kernel
theorem dX5_stands_10 : decode cX5_stands 10 = .ok (.goto 4, 3) := by decide +kernel
theorem dX5_stands_13 : decode cX5_stands 13 = .ok (.iconst 0, 1) := by decide +kernel
theorem dX5_stands_14 : decode cX5_stands 14 = .ok (.istore_n 2, 1) := by decide +kernel
theorem dX5_stands_15 : decode cX5_stands 15 = .ok (.iconst 0, 1) := by decide +kernel
theorem dX5_stands_16 : decode cX5_stands 16 = .ok (.istore_n 3, 1) := by decide +kernel
theorem dX5_stands_17 : decode cX5_stands 17 = .ok (.iload_n 3, 1) := by decide +kernel
theorem dX5_stands_18 : decode cX5_stands 18 = .ok (.bipush 8, 2) := by decide +kernel
theorem dX5_stands_20 : decode cX5_stands 20 = .ok (.if_icmp .ge 49, 3) := by decide +kernel
theorem dX5_stands_23 : decode cX5_stands 23 = .ok (.iload_n 2, 1) := by decide +kernel
theorem dX5_stands_24 : decode cX5_stands 24 = .ok (.ifCond .eq 37, 3) := by decide +kernel
theorem dX5_stands_27 : decode cX5_stands 27 = .ok (.aload_n 0, 1) := by decide +kernel
theorem dX5_stands_28 : decode cX5_stands 28 = .ok (.getfield 56, 3) := by decide +kernel
theorem dX5_stands_31 : decode cX5_stands 31 = .ok (.bipush 8, 2) := by decide +kernel
theorem dX5_stands_33 : decode cX5_stands 33 = .ok (.iload_n 1, 1) := by decide +kernel
theorem dX5_stands_34 : decode cX5_stands 34 = .ok (.imul, 1) := by decide +kernel
theorem dX5_stands_35 : decode cX5_stands 35 = .ok (.iload_n 3, 1) := by decide +kernel
theorem dX5_stands_36 : decode cX5_stands 36 = .ok (.iadd, 1) := by decide +kernel
theorem dX5_stands_37 : decode cX5_stands 37 = .ok (.iaload, 1) := by decide +kernel
theorem dX5_stands_38 : decode cX5_stands 38 = .ok (.aload_n 0, 1) := by decide +kernel
theorem dX5_stands_39 : decode cX5_stands 39 = .ok (.getfield 29, 3) := by decide +kernel
theorem dX5_stands_42 : decode cX5_stands 42 = .ok (.bipush 8, 2) := by decide +kernel
theorem dX5_stands_44 : decode cX5_stands 44 = .ok (.aload_n 0, 1) := by decide +kernel
theorem dX5_stands_45 : decode cX5_stands 45 = .ok (.getfield 47, 3) := by decide +kernel
theorem dX5_stands_48 : decode cX5_stands 48 = .ok (.iload_n 1, 1) := by decide +kernel
theorem dX5_stands_49 : decode cX5_stands 49 = .ok (.iaload, 1) := by decide +kernel
theorem dX5_stands_50 : decode cX5_stands 50 = .ok (.imul, 1) := by decide +kernel
theorem dX5_stands_51 : decode cX5_stands 51 = .ok (.iload_n 3, 1) := by decide +kernel
theorem dX5_stands_52 : decode cX5_stands 52 = .ok (.iadd, 1) := by decide +kernel
theorem dX5_stands_53 : decode cX5_stands 53 = .ok (.iaload, 1) := by decide +kernel
theorem dX5_stands_54 : decode cX5_stands 54 = .ok (.if_icmp .ne 7, 3) := by decide +kernel
theorem dX5_stands_57 : decode cX5_stands 57 = .ok (.iconst 1, 1) := by decide +kernel
theorem dX5_stands_58 : decode cX5_stands 58 = .ok (.goto 4, 3) := by decide +kernel
theorem dX5_stands_61 : decode cX5_stands 61 = .ok (.iconst 0, 1) := by decide +kernel
theorem dX5_stands_62 : decode cX5_stands 62 = .ok (.istore_n 2, 1) := by decide +kernel
theorem dX5_stands_63 : decode cX5_stands 63 = .ok (.iinc 3 1, 3) := by decide +kernel
theorem dX5_stands_66 : decode cX5_stands 66 = .ok (.goto (-49), 3) := by decide +kernel
theorem dX5_stands_69 : decode cX5_stands 69 = .ok (.iload_n 2, 1) := by decide +kernel
theorem dX5_stands_70 : decode cX5_stands 70 = .ok (.ireturn, 1) := by decide +kernel
theorem dX5_has_0 : decode cX5_has 0 = .ok (.iconst 0, 1) := by decide +kernel
theorem dX5_has_1 : decode cX5_has 1 = .ok (.istore 4, 2) := by decide +kernel
theorem dX5_has_3 : decode cX5_has 3 = .ok (.iconst 0, 1) := by decide +kernel
theorem dX5_has_4 : decode cX5_has 4 = .ok (.istore 5, 2) := by decide +kernel
theorem dX5_has_6 : decode cX5_has 6 = .ok (.iload 5, 2) := by decide +kernel
theorem dX5_has_8 : decode cX5_has 8 = .ok (.aload_n 0, 1) := by decide +kernel
theorem dX5_has_9 : decode cX5_has 9 = .ok (.getfield 117, 3) := by decide +kernel
theorem dX5_has_12 : decode cX5_has 12 = .ok (.if_icmp .ge 68, 3) := by decide +kernel
theorem dX5_has_15 : decode cX5_has 15 = .ok (.iload 4, 2) := by decide +kernel
theorem dX5_has_17 : decode cX5_has 17 = .ok (.ifCond .ne 50, 3) := by decide +kernel
theorem dX5_has_20 : decode cX5_has 20 = .ok (.aload_n 0, 1) := by decide +kernel
theorem dX5_has_21 : decode cX5_has 21 = .ok (.getfield 47, 3) := by decide +kernel
theorem dX5_has_24 : decode cX5_has 24 = .ok (.iload 5, 2) := by decide +kernel
theorem dX5_has_26 : decode cX5_has 26 = .ok (.iaload, 1) := by decide +kernel
theorem dX5_has_27 : decode cX5_has 27 = .ok (.iload_n 1, 1) := by decide +kernel
theorem dX5_has_28 : decode cX5_has 28 = .ok (.if_icmp .ne 43, 3) := by decide +kernel
theorem dX5_has_31 : decode cX5_has 31 = .ok (.aload_n 0, 1) := by decide +kernel
theorem dX5_has_32 : decode cX5_has 32 = .ok (.getfield 53, 3) := by decide +kernel
theorem dX5_has_35 : decode cX5_has 35 = .ok (.iload 5, 2) := by decide +kernel
theorem dX5_has_37 : decode cX5_has 37 = .ok (.iaload, 1) := by decide +kernel
theorem dX5_has_38 : decode cX5_has 38 = .ok (.iload_n 2, 1) := by decide +kernel
theorem dX5_has_39 : decode cX5_has 39 = .ok (.if_icmp .ne 32, 3) := by decide +kernel
theorem dX5_has_42 : decode cX5_has 42 = .ok (.iload_n 3, 1) := by decide +kernel
theorem dX5_has_43 : decode cX5_has 43 = .ok (.iconst (-1), 1) := by decide +kernel
theorem dX5_has_44 : decode cX5_has 44 = .ok (.if_icmp .eq 14, 3) := by decide +kernel
theorem dX5_has_47 : decode cX5_has 47 = .ok (.aload_n 0, 1) := by decide +kernel
theorem dX5_has_48 : decode cX5_has 48 = .ok (.getfield 50, 3) := by decide +kernel
theorem dX5_has_51 : decode cX5_has 51 = .ok (.iload 5, 2) := by decide +kernel
theorem dX5_has_53 : decode cX5_has 53 = .ok (.iaload, 1) := by decide +kernel
theorem dX5_has_54 : decode cX5_has 54 = .ok (.iload_n 3, 1) := by decide +kernel
theorem dX5_has_55 : decode cX5_has 55 = .ok (.if_icmp .ne 16, 3) := by decide +kernel
theorem dX5_has_58 : decode cX5_has 58 = .ok (.aload_n 0, 1) := by decide +kernel
theorem dX5_has_59 : decode cX5_has 59 = .ok (.iload 5, 2) := by decide +kernel
theorem dX5_has_61 : decode cX5_has 61 = .ok (.invokevirtual 120, 3) := by decide +kernel
theorem dX5_has_64 : decode cX5_has 64 = .ok (.ifCond .eq 7, 3) := by decide +kernel
theorem dX5_has_67 : decode cX5_has 67 = .ok (.iconst 1, 1) := by decide +kernel
theorem dX5_has_68 : decode cX5_has 68 = .ok (.goto 4, 3) := by decide +kernel
theorem dX5_has_71 : decode cX5_has 71 = .ok (.iconst 0, 1) := by decide +kernel
theorem dX5_has_72 : decode cX5_has 72 = .ok (.istore 4, 2) := by decide +kernel
theorem dX5_has_74 : decode cX5_has 74 = .ok (.iinc 5 1, 3) := by decide +kernel
theorem dX5_has_77 : decode cX5_has 77 = .ok (.goto (-71), 3) := by decide +kernel
theorem dX5_has_80 : decode cX5_has 80 = .ok (.iload 4, 2) := by decide +kernel
theorem dX5_has_82 : decode cX5_has 82 = .ok (.ireturn, 1) := by decide +kernel
theorem dX5_sign_0 : decode cX5_sign 0 = .ok (.aload_n 0, 1) := by decide +kernel
theorem dX5_sign_1 : decode cX5_sign 1 = .ok (.iconst 0, 1) := by decide +kernel
theorem dX5_sign_2 : decode cX5_sign 2 = .ok (.putfield 84, 3) := by decide +kernel
theorem dX5_sign_5 : decode cX5_sign 5 = .ok (.aload_n 0, 1) := by decide +kernel
theorem dX5_sign_6 : decode cX5_sign 6 = .ok (.iload_n 1, 1) := by decide +kernel
theorem dX5_sign_7 : decode cX5_sign 7 = .ok (.invokevirtual 114, 3) := by decide +kernel
theorem dX5_sign_10 : decode cX5_sign 10 = .ok (.ifCond .eq 18, 3) := by decide +kernel
theorem dX5_sign_13 : decode cX5_sign 13 = .ok (.aload_n 0, 1) := by decide +kernel
theorem dX5_sign_14 : decode cX5_sign 14 = .ok (.iload_n 2, 1) := by decide +kernel
theorem dX5_sign_15 : decode cX5_sign 15 = .ok (.invokevirtual 96, 3) := by decide +kernel
theorem dX5_sign_18 : decode cX5_sign 18 = .ok (.ifCond .eq 10, 3) := by decide +kernel
theorem dX5_sign_21 : decode cX5_sign 21 = .ok (.iload_n 3, 1) := by decide +kernel
theorem dX5_sign_22 : decode cX5_sign 22 = .ok (.invokestatic 100, 3) := by decide +kernel
theorem dX5_sign_25 : decode cX5_sign 25 = .ok (.ifCond .ne 5, 3) := by decide +kernel
theorem dX5_sign_28 : decode cX5_sign 28 = .ok (.iconst (-1), 1) := by decide +kernel
theorem dX5_sign_29 : decode cX5_sign 29 = .ok (.ireturn, 1) := by decide +kernel
theorem dX5_sign_30 : decode cX5_sign 30 = .ok (.lload 4, 2) := by decide +kernel
theorem dX5_sign_32 : decode cX5_sign 32 = .ok (.invokestatic 103, 3) := by decide +kernel
theorem dX5_sign_35 : decode cX5_sign 35 = .ok (.ifCond .eq 13, 3) := by decide +kernel
theorem dX5_sign_38 : decode cX5_sign 38 = .ok (.lload 4, 2) := by decide +kernel
theorem dX5_sign_40 : decode cX5_sign 40 = .ok (.aload_n 0, 1) := by decide +kernel
theorem dX5_sign_41 : decode cX5_sign 41 = .ok (.getfield 123, 3) := by decide +kernel
theorem dX5_sign_44 : decode cX5_sign 44 = .ok (.lcmp, 1) := by decide +kernel
theorem dX5_sign_45 : decode cX5_sign 45 = .ok (.ifCond .ge 6, 3) := by decide +kernel
theorem dX5_sign_48 : decode cX5_sign 48 = .ok (.bipush (-3), 2) := by decide +kernel
theorem dX5_sign_50 : decode cX5_sign 50 = .ok (.ireturn, 1) := by decide +kernel
theorem dX5_sign_51 : decode cX5_sign 51 = .ok (.iconst 0, 1) := by decide +kernel
theorem dX5_sign_52 : decode cX5_sign 52 = .ok (.istore 6, 2) := by decide +kernel
theorem dX5_sign_54 : decode cX5_sign 54 = .ok (.iconst 0, 1) := by decide +kernel
theorem dX5_sign_55 : decode cX5_sign 55 = .ok (.istore 7, 2) := by decide +kernel
theorem dX5_sign_57 : decode cX5_sign 57 = .ok (.iload 7, 2) := by decide +kernel
theorem dX5_sign_59 : decode cX5_sign 59 = .ok (.aload_n 0, 1) := by decide +kernel
theorem dX5_sign_60 : decode cX5_sign 60 = .ok (.getfield 107, 3) := by decide +kernel
theorem dX5_sign_63 : decode cX5_sign 63 = .ok (.if_icmp .ge 69, 3) := by decide +kernel
theorem dX5_sign_66 : decode cX5_sign 66 = .ok (.iload 6, 2) := by decide +kernel
theorem dX5_sign_68 : decode cX5_sign 68 = .ok (.ifCond .ne 51, 3) := by decide +kernel
theorem dX5_sign_71 : decode cX5_sign 71 = .ok (.aload_n 0, 1) := by decide +kernel
theorem dX5_sign_72 : decode cX5_sign 72 = .ok (.getfield 9, 3) := by decide +kernel
theorem dX5_sign_75 : decode cX5_sign 75 = .ok (.iload 7, 2) := by decide +kernel
theorem dX5_sign_77 : decode cX5_sign 77 = .ok (.iaload, 1) := by decide +kernel
theorem dX5_sign_78 : decode cX5_sign 78 = .ok (.iload_n 2, 1) := by decide +kernel
theorem dX5_sign_79 : decode cX5_sign 79 = .ok (.if_icmp .ne 44, 3) := by decide +kernel
theorem dX5_sign_82 : decode cX5_sign 82 = .ok (.aload_n 0, 1) := by decide +kernel
theorem dX5_sign_83 : decode cX5_sign 83 = .ok (.getfield 13, 3) := by decide +kernel
theorem dX5_sign_86 : decode cX5_sign 86 = .ok (.iload 7, 2) := by decide +kernel
theorem dX5_sign_88 : decode cX5_sign 88 = .ok (.iaload, 1) := by decide +kernel
theorem dX5_sign_89 : decode cX5_sign 89 = .ok (.iload_n 3, 1) := by decide +kernel
theorem dX5_sign_90 : decode cX5_sign 90 = .ok (.if_icmp .ne 33, 3) := by decide +kernel
theorem dX5_sign_93 : decode cX5_sign 93 = .ok (.aload_n 0, 1) := by decide +kernel
theorem dX5_sign_94 : decode cX5_sign 94 = .ok (.getfield 16, 3) := by decide +kernel
theorem dX5_sign_97 : decode cX5_sign 97 = .ok (.iload 7, 2) := by decide +kernel
theorem dX5_sign_99 : decode cX5_sign 99 = .ok (.laload, 1) := by decide +kernel
theorem dX5_sign_100 : decode cX5_sign 100 = .ok (.lload 4, 2) := by decide +kernel
theorem dX5_sign_102 : decode cX5_sign 102 = .ok (.lcmp, 1) := by decide +kernel
theorem dX5_sign_103 : decode cX5_sign 103 = .ok (.ifCond .gt 20, 3) := by decide +kernel
theorem dX5_sign_106 : decode cX5_sign 106 = .ok (.lload 4, 2) := by decide +kernel
theorem dX5_sign_108 : decode cX5_sign 108 = .ok (.aload_n 0, 1) := by decide +kernel
theorem dX5_sign_109 : decode cX5_sign 109 = .ok (.getfield 20, 3) := by decide +kernel
theorem dX5_sign_112 : decode cX5_sign 112 = .ok (.iload 7, 2) := by decide +kernel
theorem dX5_sign_114 : decode cX5_sign 114 = .ok (.laload, 1) := by decide +kernel
theorem dX5_sign_115 : decode cX5_sign 115 = .ok (.lcmp, 1) := by decide +kernel
theorem dX5_sign_116 : decode cX5_sign 116 = .ok (.ifCond .gt 7, 3) := by decide +kernel
theorem dX5_sign_119 : decode cX5_sign 119 = .ok (.iconst 1, 1) := by decide +kernel
theorem dX5_sign_120 : decode cX5_sign 120 = .ok (.goto 4, 3) := by decide +kernel
theorem dX5_sign_123 : decode cX5_sign 123 = .ok (.iconst 0, 1) := by decide +kernel
theorem dX5_sign_124 : decode cX5_sign 124 = .ok (.istore 6, 2) := by decide +kernel
theorem dX5_sign_126 : decode cX5_sign 126 = .ok (.iinc 7 1, 3) := by decide +kernel
theorem dX5_sign_129 : decode cX5_sign 129 = .ok (.goto (-72), 3) := by decide +kernel
theorem dX5_sign_132 : decode cX5_sign 132 = .ok (.iload 6, 2) := by decide +kernel
theorem dX5_sign_134 : decode cX5_sign 134 = .ok (.ifCond .ne 10, 3) := by decide +kernel
theorem dX5_sign_137 : decode cX5_sign 137 = .ok (.aload_n 0, 1) := by decide +kernel
theorem dX5_sign_138 : decode cX5_sign 138 = .ok (.iconst 1, 1) := by decide +kernel
theorem dX5_sign_139 : decode cX5_sign 139 = .ok (.putfield 84, 3) := by decide +kernel
theorem dX5_sign_142 : decode cX5_sign 142 = .ok (.iconst 0, 1) := by decide +kernel
theorem dX5_sign_143 : decode cX5_sign 143 = .ok (.ireturn, 1) := by decide +kernel
theorem dX5_sign_144 : decode cX5_sign 144 = .ok (.aload_n 0, 1) := by decide +kernel
theorem dX5_sign_145 : decode cX5_sign 145 = .ok (.getfield 23, 3) := by decide +kernel
theorem dX5_sign_148 : decode cX5_sign 148 = .ok (.iload_n 1, 1) := by decide +kernel
theorem dX5_sign_149 : decode cX5_sign 149 = .ok (.iaload, 1) := by decide +kernel
theorem dX5_sign_150 : decode cX5_sign 150 = .ok (.iload_n 2, 1) := by decide +kernel
theorem dX5_sign_151 : decode cX5_sign 151 = .ok (.if_icmp .ne 6, 3) := by decide +kernel
theorem dX5_sign_154 : decode cX5_sign 154 = .ok (.bipush (-4), 2) := by decide +kernel
theorem dX5_sign_156 : decode cX5_sign 156 = .ok (.ireturn, 1) := by decide +kernel
theorem dX5_sign_157 : decode cX5_sign 157 = .ok (.iconst 0, 1) := by decide +kernel
theorem dX5_sign_158 : decode cX5_sign 158 = .ok (.istore 7, 2) := by decide +kernel
theorem dX5_sign_160 : decode cX5_sign 160 = .ok (.iload 7, 2) := by decide +kernel
theorem dX5_sign_162 : decode cX5_sign 162 = .ok (.bipush 10, 2) := by decide +kernel
theorem dX5_sign_164 : decode cX5_sign 164 = .ok (.if_icmp .ge 38, 3) := by decide +kernel
theorem dX5_sign_167 : decode cX5_sign 167 = .ok (.aload_n 0, 1) := by decide +kernel
theorem dX5_sign_168 : decode cX5_sign 168 = .ok (.getfield 66, 3) := by decide +kernel
theorem dX5_sign_171 : decode cX5_sign 171 = .ok (.bipush 10, 2) := by decide +kernel
theorem dX5_sign_173 : decode cX5_sign 173 = .ok (.iload_n 3, 1) := by decide +kernel
theorem dX5_sign_174 : decode cX5_sign 174 = .ok (.imul, 1) := by decide +kernel
theorem dX5_sign_175 : decode cX5_sign 175 = .ok (.iload 7, 2) := by decide +kernel
theorem dX5_sign_177 : decode cX5_sign 177 = .ok (.iadd, 1) := by decide +kernel
theorem dX5_sign_178 : decode cX5_sign 178 = .ok (.baload, 1) := by decide +kernel
theorem dX5_sign_179 : decode cX5_sign 179 = .ok (.ifCond .eq 17, 3) := by decide +kernel
theorem dX5_sign_182 : decode cX5_sign 182 = .ok (.aload_n 0, 1) := by decide +kernel
theorem dX5_sign_183 : decode cX5_sign 183 = .ok (.iload_n 1, 1) := by decide +kernel
theorem dX5_sign_184 : decode cX5_sign 184 = .ok (.iload 7, 2) := by decide +kernel
theorem dX5_sign_186 : decode cX5_sign 186 = .ok (.iconst (-1), 1) := by decide +kernel
theorem dX5_sign_187 : decode cX5_sign 187 = .ok (.invokevirtual 127, 3) := by decide +kernel
theorem dX5_sign_190 : decode cX5_sign 190 = .ok (.ifCond .ne 6, 3) := by decide +kernel
theorem dX5_sign_193 : decode cX5_sign 193 = .ok (.bipush (-5), 2) := by decide +kernel
theorem dX5_sign_195 : decode cX5_sign 195 = .ok (.ireturn, 1) := by decide +kernel
theorem dX5_sign_196 : decode cX5_sign 196 = .ok (.iinc 7 1, 3) := by decide +kernel
theorem dX5_sign_199 : decode cX5_sign 199 = .ok (.goto (-39), 3) := by decide +kernel
theorem dX5_sign_202 : decode cX5_sign 202 = .ok (.aload_n 0, 1) := by decide +kernel
theorem dX5_sign_203 : decode cX5_sign 203 = .ok (.iload_n 1, 1) := by decide +kernel
theorem dX5_sign_204 : decode cX5_sign 204 = .ok (.iload_n 3, 1) := by decide +kernel
theorem dX5_sign_205 : decode cX5_sign 205 = .ok (.iload_n 2, 1) := by decide +kernel
theorem dX5_sign_206 : decode cX5_sign 206 = .ok (.invokevirtual 127, 3) := by decide +kernel
theorem dX5_sign_209 : decode cX5_sign 209 = .ok (.ifCond .eq 6, 3) := by decide +kernel
theorem dX5_sign_212 : decode cX5_sign 212 = .ok (.bipush (-6), 2) := by decide +kernel
theorem dX5_sign_214 : decode cX5_sign 214 = .ok (.ireturn, 1) := by decide +kernel
theorem dX5_sign_215 : decode cX5_sign 215 = .ok (.aload_n 0, 1) := by decide +kernel
theorem dX5_sign_216 : decode cX5_sign 216 = .ok (.getfield 117, 3) := by decide +kernel
theorem dX5_sign_219 : decode cX5_sign 219 = .ok (.sipush 400, 3) := by decide +kernel
theorem dX5_sign_222 : decode cX5_sign 222 = .ok (.if_icmp .ne 6, 3) := by decide +kernel
theorem dX5_sign_225 : decode cX5_sign 225 = .ok (.bipush (-2), 2) := by decide +kernel
theorem dX5_sign_227 : decode cX5_sign 227 = .ok (.ireturn, 1) := by decide +kernel
theorem dX5_sign_228 : decode cX5_sign 228 = .ok (.aload_n 0, 1) := by decide +kernel
theorem dX5_sign_229 : decode cX5_sign 229 = .ok (.getfield 47, 3) := by decide +kernel
theorem dX5_sign_232 : decode cX5_sign 232 = .ok (.aload_n 0, 1) := by decide +kernel
theorem dX5_sign_233 : decode cX5_sign 233 = .ok (.getfield 117, 3) := by decide +kernel
theorem dX5_sign_236 : decode cX5_sign 236 = .ok (.iload_n 1, 1) := by decide +kernel
theorem dX5_sign_237 : decode cX5_sign 237 = .ok (.iastore, 1) := by decide +kernel
theorem dX5_sign_238 : decode cX5_sign 238 = .ok (.aload_n 0, 1) := by decide +kernel
theorem dX5_sign_239 : decode cX5_sign 239 = .ok (.getfield 50, 3) := by decide +kernel
theorem dX5_sign_242 : decode cX5_sign 242 = .ok (.aload_n 0, 1) := by decide +kernel
theorem dX5_sign_243 : decode cX5_sign 243 = .ok (.getfield 117, 3) := by decide +kernel
theorem dX5_sign_246 : decode cX5_sign 246 = .ok (.iload_n 2, 1) := by decide +kernel
theorem dX5_sign_247 : decode cX5_sign 247 = .ok (.iastore, 1) := by decide +kernel
theorem dX5_sign_248 : decode cX5_sign 248 = .ok (.aload_n 0, 1) := by decide +kernel
theorem dX5_sign_249 : decode cX5_sign 249 = .ok (.getfield 53, 3) := by decide +kernel
theorem dX5_sign_252 : decode cX5_sign 252 = .ok (.aload_n 0, 1) := by decide +kernel
theorem dX5_sign_253 : decode cX5_sign 253 = .ok (.getfield 117, 3) := by decide +kernel
theorem dX5_sign_256 : decode cX5_sign 256 = .ok (.iload_n 3, 1) := by decide +kernel
theorem dX5_sign_257 : decode cX5_sign 257 = .ok (.iastore, 1) := by decide +kernel
theorem dX5_sign_258 : decode cX5_sign 258 = .ok (.aload_n 0, 1) := by decide +kernel
theorem dX5_sign_259 : decode cX5_sign 259 = .ok (.getfield 29, 3) := by decide +kernel
theorem dX5_sign_262 : decode cX5_sign 262 = .ok (.bipush 8, 2) := by decide +kernel
theorem dX5_sign_264 : decode cX5_sign 264 = .ok (.iload_n 1, 1) := by decide +kernel
theorem dX5_sign_265 : decode cX5_sign 265 = .ok (.imul, 1) := by decide +kernel
theorem dX5_sign_266 : decode cX5_sign 266 = .ok (.aload_n 0, 1) := by decide +kernel
theorem dX5_sign_267 : decode cX5_sign 267 = .ok (.getfield 56, 3) := by decide +kernel
theorem dX5_sign_270 : decode cX5_sign 270 = .ok (.bipush 8, 2) := by decide +kernel
theorem dX5_sign_272 : decode cX5_sign 272 = .ok (.aload_n 0, 1) := by decide +kernel
theorem dX5_sign_273 : decode cX5_sign 273 = .ok (.getfield 117, 3) := by decide +kernel
theorem dX5_sign_276 : decode cX5_sign 276 = .ok (.imul, 1) := by decide +kernel
theorem dX5_sign_277 : decode cX5_sign 277 = .ok (.bipush 8, 2) := by decide +kernel
theorem dX5_sign_279 : decode cX5_sign 279 = .ok (.invokestatic 131, 3) := by decide +kernel
theorem dX5_sign_282 : decode cX5_sign 282 = .ok (.aload_n 0, 1) := by decide +kernel
theorem dX5_sign_283 : decode cX5_sign 283 = .ok (.lload 4, 2) := by decide +kernel
theorem dX5_sign_285 : decode cX5_sign 285 = .ok (.putfield 123, 3) := by decide +kernel
theorem dX5_sign_288 : decode cX5_sign 288 = .ok (.aload_n 0, 1) := by decide +kernel
theorem dX5_sign_289 : decode cX5_sign 289 = .ok (.dup, 1) := by decide +kernel
theorem dX5_sign_290 : decode cX5_sign 290 = .ok (.getfield 117, 3) := by decide +kernel
theorem dX5_sign_293 : decode cX5_sign 293 = .ok (.iconst 1, 1) := by decide +kernel
theorem dX5_sign_294 : decode cX5_sign 294 = .ok (.iadd, 1) := by decide +kernel
theorem dX5_sign_295 : decode cX5_sign 295 = .ok (.putfield 117, 3) := by decide +kernel
theorem dX5_sign_298 : decode cX5_sign 298 = .ok (.aload_n 0, 1) := by decide +kernel
theorem dX5_sign_299 : decode cX5_sign 299 = .ok (.getfield 117, 3) := by decide +kernel
theorem dX5_sign_302 : decode cX5_sign 302 = .ok (.iconst 1, 1) := by decide +kernel
theorem dX5_sign_303 : decode cX5_sign 303 = .ok (.isub, 1) := by decide +kernel
theorem dX5_sign_304 : decode cX5_sign 304 = .ok (.ireturn, 1) := by decide +kernel
theorem dX5_holds_0 : decode cX5_holds 0 = .ok (.aload_n 0, 1) := by decide +kernel
theorem dX5_holds_1 : decode cX5_holds 1 = .ok (.iconst 0, 1) := by decide +kernel
theorem dX5_holds_2 : decode cX5_holds 2 = .ok (.putfield 84, 3) := by decide +kernel
theorem dX5_holds_5 : decode cX5_holds 5 = .ok (.iload_n 1, 1) := by decide +kernel
theorem dX5_holds_6 : decode cX5_holds 6 = .ok (.ifCond .lt 23, 3) := by decide +kernel
theorem dX5_holds_9 : decode cX5_holds 9 = .ok (.iload_n 1, 1) := by decide +kernel
theorem dX5_holds_10 : decode cX5_holds 10 = .ok (.aload_n 0, 1) := by decide +kernel
theorem dX5_holds_11 : decode cX5_holds 11 = .ok (.getfield 117, 3) := by decide +kernel
theorem dX5_holds_14 : decode cX5_holds 14 = .ok (.if_icmp .ge 15, 3) := by decide +kernel
theorem dX5_holds_17 : decode cX5_holds 17 = .ok (.aload_n 0, 1) := by decide +kernel
theorem dX5_holds_18 : decode cX5_holds 18 = .ok (.iload_n 1, 1) := by decide +kernel
theorem dX5_holds_19 : decode cX5_holds 19 = .ok (.invokevirtual 120, 3) := by decide +kernel
theorem dX5_holds_22 : decode cX5_holds 22 = .ok (.ifCond .eq 7, 3) := by decide +kernel
theorem dX5_holds_25 : decode cX5_holds 25 = .ok (.iconst 1, 1) := by decide +kernel
theorem dX5_holds_26 : decode cX5_holds 26 = .ok (.goto 4, 3) := by decide +kernel
theorem dX5_holds_29 : decode cX5_holds 29 = .ok (.iconst 0, 1) := by decide +kernel
theorem dX5_holds_30 : decode cX5_holds 30 = .ok (.ireturn, 1) := by decide +kernel
theorem dX5_withdraw_0 : decode cX5_withdraw 0 = .ok (.aload_n 0, 1) := by decide +kernel
theorem dX5_withdraw_1 : decode cX5_withdraw 1 = .ok (.iconst 0, 1) := by decide +kernel
theorem dX5_withdraw_2 : decode cX5_withdraw 2 = .ok (.putfield 84, 3) := by decide +kernel
theorem dX5_withdraw_5 : decode cX5_withdraw 5 = .ok (.iload_n 1, 1) := by decide +kernel
theorem dX5_withdraw_6 : decode cX5_withdraw 6 = .ok (.ifCond .lt 20, 3) := by decide +kernel
theorem dX5_withdraw_9 : decode cX5_withdraw 9 = .ok (.iload_n 1, 1) := by decide +kernel
theorem dX5_withdraw_10 : decode cX5_withdraw 10 = .ok (.aload_n 0, 1) := by decide +kernel
theorem dX5_withdraw_11 : decode cX5_withdraw 11 = .ok (.getfield 117, 3) := by decide +kernel
theorem dX5_withdraw_14 : decode cX5_withdraw 14 = .ok (.if_icmp .ge 12, 3) := by decide +kernel
theorem dX5_withdraw_17 : decode cX5_withdraw 17 = .ok (.aload_n 0, 1) := by decide +kernel
theorem dX5_withdraw_18 : decode cX5_withdraw 18 = .ok (.getfield 59, 3) := by decide +kernel
theorem dX5_withdraw_21 : decode cX5_withdraw 21 = .ok (.iload_n 1, 1) := by decide +kernel
theorem dX5_withdraw_22 : decode cX5_withdraw 22 = .ok (.baload, 1) := by decide +kernel
theorem dX5_withdraw_23 : decode cX5_withdraw 23 = .ok (.ifCond .eq 5, 3) := by decide +kernel
theorem dX5_withdraw_26 : decode cX5_withdraw 26 = .ok (.iconst 0, 1) := by decide +kernel
theorem dX5_withdraw_27 : decode cX5_withdraw 27 = .ok (.ireturn, 1) := by decide +kernel
theorem dX5_withdraw_28 : decode cX5_withdraw 28 = .ok (.aload_n 0, 1) := by decide +kernel
theorem dX5_withdraw_29 : decode cX5_withdraw 29 = .ok (.getfield 59, 3) := by decide +kernel
theorem dX5_withdraw_32 : decode cX5_withdraw 32 = .ok (.iload_n 1, 1) := by decide +kernel
theorem dX5_withdraw_33 : decode cX5_withdraw 33 = .ok (.iconst 1, 1) := by decide +kernel
theorem dX5_withdraw_34 : decode cX5_withdraw 34 = .ok (.bastore, 1) := by decide +kernel
theorem dX5_withdraw_35 : decode cX5_withdraw 35 = .ok (.aload_n 0, 1) := by decide +kernel
theorem dX5_withdraw_36 : decode cX5_withdraw 36 = .ok (.getfield 63, 3) := by decide +kernel
theorem dX5_withdraw_39 : decode cX5_withdraw 39 = .ok (.aload_n 0, 1) := by decide +kernel
theorem dX5_withdraw_40 : decode cX5_withdraw 40 = .ok (.getfield 137, 3) := by decide +kernel
theorem dX5_withdraw_43 : decode cX5_withdraw 43 = .ok (.iload_n 1, 1) := by decide +kernel
theorem dX5_withdraw_44 : decode cX5_withdraw 44 = .ok (.iastore, 1) := by decide +kernel
theorem dX5_withdraw_45 : decode cX5_withdraw 45 = .ok (.aload_n 0, 1) := by decide +kernel
theorem dX5_withdraw_46 : decode cX5_withdraw 46 = .ok (.dup, 1) := by decide +kernel
theorem dX5_withdraw_47 : decode cX5_withdraw 47 = .ok (.getfield 137, 3) := by decide +kernel
theorem dX5_withdraw_50 : decode cX5_withdraw 50 = .ok (.iconst 1, 1) := by decide +kernel
theorem dX5_withdraw_51 : decode cX5_withdraw 51 = .ok (.iadd, 1) := by decide +kernel
theorem dX5_withdraw_52 : decode cX5_withdraw 52 = .ok (.putfield 137, 3) := by decide +kernel
theorem dX5_withdraw_55 : decode cX5_withdraw 55 = .ok (.iconst 1, 1) := by decide +kernel
theorem dX5_withdraw_56 : decode cX5_withdraw 56 = .ok (.ireturn, 1) := by decide +kernel
theorem dX5_comes_0 : decode cX5_comes 0 = .ok (.aload_n 0, 1) := by decide +kernel
theorem dX5_comes_1 : decode cX5_comes 1 = .ok (.getfield 66, 3) := by decide +kernel
theorem dX5_comes_4 : decode cX5_comes 4 = .ok (.bipush 10, 2) := by decide +kernel
theorem dX5_comes_6 : decode cX5_comes 6 = .ok (.iload_n 1, 1) := by decide +kernel
theorem dX5_comes_7 : decode cX5_comes 7 = .ok (.imul, 1) := by decide +kernel
theorem dX5_comes_8 : decode cX5_comes 8 = .ok (.iload_n 2, 1) := by decide +kernel
theorem dX5_comes_9 : decode cX5_comes 9 = .ok (.iadd, 1) := by decide +kernel
theorem dX5_comes_10 : decode cX5_comes 10 = .ok (.baload, 1) := by decide +kernel
theorem dX5_comes_11 : decode cX5_comes 11 = .ok (.istore 4, 2) := by decide +kernel
theorem dX5_comes_13 : decode cX5_comes 13 = .ok (.iconst 0, 1) := by decide +kernel
theorem dX5_comes_14 : decode cX5_comes 14 = .ok (.istore 5, 2) := by decide +kernel
theorem dX5_comes_16 : decode cX5_comes 16 = .ok (.iload 5, 2) := by decide +kernel
theorem dX5_comes_18 : decode cX5_comes 18 = .ok (.bipush 10, 2) := by decide +kernel
theorem dX5_comes_20 : decode cX5_comes 20 = .ok (.if_icmp .ge 53, 3) := by decide +kernel
theorem dX5_comes_23 : decode cX5_comes 23 = .ok (.iload 4, 2) := by decide +kernel
theorem dX5_comes_25 : decode cX5_comes 25 = .ok (.ifCond .ne 48, 3) := by decide +kernel
theorem dX5_comes_28 : decode cX5_comes 28 = .ok (.iload_n 3, 1) := by decide +kernel
theorem dX5_comes_29 : decode cX5_comes 29 = .ok (.ifCond .le 44, 3) := by decide +kernel
theorem dX5_comes_32 : decode cX5_comes 32 = .ok (.aload_n 0, 1) := by decide +kernel
theorem dX5_comes_33 : decode cX5_comes 33 = .ok (.getfield 66, 3) := by decide +kernel
theorem dX5_comes_36 : decode cX5_comes 36 = .ok (.bipush 10, 2) := by decide +kernel
theorem dX5_comes_38 : decode cX5_comes 38 = .ok (.iload_n 1, 1) := by decide +kernel
theorem dX5_comes_39 : decode cX5_comes 39 = .ok (.imul, 1) := by decide +kernel
theorem dX5_comes_40 : decode cX5_comes 40 = .ok (.iload 5, 2) := by decide +kernel
theorem dX5_comes_42 : decode cX5_comes 42 = .ok (.iadd, 1) := by decide +kernel
theorem dX5_comes_43 : decode cX5_comes 43 = .ok (.baload, 1) := by decide +kernel
theorem dX5_comes_44 : decode cX5_comes 44 = .ok (.ifCond .eq 20, 3) := by decide +kernel
theorem dX5_comes_47 : decode cX5_comes 47 = .ok (.aload_n 0, 1) := by decide +kernel
theorem dX5_comes_48 : decode cX5_comes 48 = .ok (.iload 5, 2) := by decide +kernel
theorem dX5_comes_50 : decode cX5_comes 50 = .ok (.iload_n 2, 1) := by decide +kernel
theorem dX5_comes_51 : decode cX5_comes 51 = .ok (.iload_n 3, 1) := by decide +kernel
theorem dX5_comes_52 : decode cX5_comes 52 = .ok (.iconst 1, 1) := by decide +kernel
theorem dX5_comes_53 : decode cX5_comes 53 = .ok (.isub, 1) := by decide +kernel
theorem dX5_comes_54 : decode cX5_comes 54 = .ok (.invokevirtual 140, 3) := by decide +kernel
theorem dX5_comes_57 : decode cX5_comes 57 = .ok (.ifCond .eq 7, 3) := by decide +kernel
theorem dX5_comes_60 : decode cX5_comes 60 = .ok (.iconst 1, 1) := by decide +kernel
theorem dX5_comes_61 : decode cX5_comes 61 = .ok (.goto 4, 3) := by decide +kernel
theorem dX5_comes_64 : decode cX5_comes 64 = .ok (.iconst 0, 1) := by decide +kernel
theorem dX5_comes_65 : decode cX5_comes 65 = .ok (.istore 4, 2) := by decide +kernel
theorem dX5_comes_67 : decode cX5_comes 67 = .ok (.iinc 5 1, 3) := by decide +kernel
theorem dX5_comes_70 : decode cX5_comes 70 = .ok (.goto (-54), 3) := by decide +kernel
theorem dX5_comes_73 : decode cX5_comes 73 = .ok (.iload 4, 2) := by decide +kernel
theorem dX5_comes_75 : decode cX5_comes 75 = .ok (.ireturn, 1) := by decide +kernel
theorem dX5_order_0 : decode cX5_order 0 = .ok (.aload_n 0, 1) := by decide +kernel
theorem dX5_order_1 : decode cX5_order 1 = .ok (.iconst 0, 1) := by decide +kernel
theorem dX5_order_2 : decode cX5_order 2 = .ok (.putfield 84, 3) := by decide +kernel
theorem dX5_order_5 : decode cX5_order 5 = .ok (.iload_n 1, 1) := by decide +kernel
theorem dX5_order_6 : decode cX5_order 6 = .ok (.invokestatic 100, 3) := by decide +kernel
theorem dX5_order_9 : decode cX5_order 9 = .ok (.ifCond .eq 40, 3) := by decide +kernel
theorem dX5_order_12 : decode cX5_order 12 = .ok (.iload_n 2, 1) := by decide +kernel
theorem dX5_order_13 : decode cX5_order 13 = .ok (.invokestatic 100, 3) := by decide +kernel
theorem dX5_order_16 : decode cX5_order 16 = .ok (.ifCond .eq 33, 3) := by decide +kernel
theorem dX5_order_19 : decode cX5_order 19 = .ok (.iload_n 1, 1) := by decide +kernel
theorem dX5_order_20 : decode cX5_order 20 = .ok (.iload_n 2, 1) := by decide +kernel
theorem dX5_order_21 : decode cX5_order 21 = .ok (.if_icmp .eq 28, 3) := by decide +kernel
theorem dX5_order_24 : decode cX5_order 24 = .ok (.aload_n 0, 1) := by decide +kernel
theorem dX5_order_25 : decode cX5_order 25 = .ok (.getfield 66, 3) := by decide +kernel
theorem dX5_order_28 : decode cX5_order 28 = .ok (.bipush 10, 2) := by decide +kernel
theorem dX5_order_30 : decode cX5_order 30 = .ok (.iload_n 1, 1) := by decide +kernel
theorem dX5_order_31 : decode cX5_order 31 = .ok (.imul, 1) := by decide +kernel
theorem dX5_order_32 : decode cX5_order 32 = .ok (.iload_n 2, 1) := by decide +kernel
theorem dX5_order_33 : decode cX5_order 33 = .ok (.iadd, 1) := by decide +kernel
theorem dX5_order_34 : decode cX5_order 34 = .ok (.baload, 1) := by decide +kernel
theorem dX5_order_35 : decode cX5_order 35 = .ok (.ifCond .ne 14, 3) := by decide +kernel
theorem dX5_order_38 : decode cX5_order 38 = .ok (.aload_n 0, 1) := by decide +kernel
theorem dX5_order_39 : decode cX5_order 39 = .ok (.iload_n 2, 1) := by decide +kernel
theorem dX5_order_40 : decode cX5_order 40 = .ok (.iload_n 1, 1) := by decide +kernel
theorem dX5_order_41 : decode cX5_order 41 = .ok (.bipush 10, 2) := by decide +kernel
theorem dX5_order_43 : decode cX5_order 43 = .ok (.invokevirtual 140, 3) := by decide +kernel
theorem dX5_order_46 : decode cX5_order 46 = .ok (.ifCond .eq 5, 3) := by decide +kernel
theorem dX5_order_49 : decode cX5_order 49 = .ok (.iconst 0, 1) := by decide +kernel
theorem dX5_order_50 : decode cX5_order 50 = .ok (.ireturn, 1) := by decide +kernel
theorem dX5_order_51 : decode cX5_order 51 = .ok (.aload_n 0, 1) := by decide +kernel
theorem dX5_order_52 : decode cX5_order 52 = .ok (.getfield 66, 3) := by decide +kernel
theorem dX5_order_55 : decode cX5_order 55 = .ok (.bipush 10, 2) := by decide +kernel
theorem dX5_order_57 : decode cX5_order 57 = .ok (.iload_n 1, 1) := by decide +kernel
theorem dX5_order_58 : decode cX5_order 58 = .ok (.imul, 1) := by decide +kernel
theorem dX5_order_59 : decode cX5_order 59 = .ok (.iload_n 2, 1) := by decide +kernel
theorem dX5_order_60 : decode cX5_order 60 = .ok (.iadd, 1) := by decide +kernel
theorem dX5_order_61 : decode cX5_order 61 = .ok (.iconst 1, 1) := by decide +kernel
theorem dX5_order_62 : decode cX5_order 62 = .ok (.bastore, 1) := by decide +kernel
theorem dX5_order_63 : decode cX5_order 63 = .ok (.iconst 1, 1) := by decide +kernel
theorem dX5_order_64 : decode cX5_order 64 = .ok (.ireturn, 1) := by decide +kernel
theorem dX5_complete_0 : decode cX5_complete 0 = .ok (.aload_n 0, 1) := by decide +kernel
theorem dX5_complete_1 : decode cX5_complete 1 = .ok (.iconst 0, 1) := by decide +kernel
theorem dX5_complete_2 : decode cX5_complete 2 = .ok (.putfield 84, 3) := by decide +kernel
theorem dX5_complete_5 : decode cX5_complete 5 = .ok (.aload_n 0, 1) := by decide +kernel
theorem dX5_complete_6 : decode cX5_complete 6 = .ok (.iload_n 1, 1) := by decide +kernel
theorem dX5_complete_7 : decode cX5_complete 7 = .ok (.invokevirtual 114, 3) := by decide +kernel
theorem dX5_complete_10 : decode cX5_complete 10 = .ok (.ifCond .ne 5, 3) := by decide +kernel
theorem dX5_complete_13 : decode cX5_complete 13 = .ok (.iconst (-1), 1) := by decide +kernel
theorem dX5_complete_14 : decode cX5_complete 14 = .ok (.ireturn, 1) := by decide +kernel
theorem dX5_complete_15 : decode cX5_complete 15 = .ok (.iconst 0, 1) := by decide +kernel
theorem dX5_complete_16 : decode cX5_complete 16 = .ok (.istore_n 2, 1) := by decide +kernel
theorem dX5_complete_17 : decode cX5_complete 17 = .ok (.iload_n 2, 1) := by decide +kernel
theorem dX5_complete_18 : decode cX5_complete 18 = .ok (.aload_n 0, 1) := by decide +kernel
theorem dX5_complete_19 : decode cX5_complete 19 = .ok (.getfield 41, 3) := by decide +kernel
theorem dX5_complete_22 : decode cX5_complete 22 = .ok (.iload_n 1, 1) := by decide +kernel
theorem dX5_complete_23 : decode cX5_complete 23 = .ok (.iaload, 1) := by decide +kernel
theorem dX5_complete_24 : decode cX5_complete 24 = .ok (.if_icmp .ge 33, 3) := by decide +kernel
theorem dX5_complete_27 : decode cX5_complete 27 = .ok (.aload_n 0, 1) := by decide +kernel
theorem dX5_complete_28 : decode cX5_complete 28 = .ok (.iload_n 1, 1) := by decide +kernel
theorem dX5_complete_29 : decode cX5_complete 29 = .ok (.aload_n 0, 1) := by decide +kernel
theorem dX5_complete_30 : decode cX5_complete 30 = .ok (.getfield 44, 3) := by decide +kernel
theorem dX5_complete_33 : decode cX5_complete 33 = .ok (.bipush 10, 2) := by decide +kernel
theorem dX5_complete_35 : decode cX5_complete 35 = .ok (.iload_n 1, 1) := by decide +kernel
theorem dX5_complete_36 : decode cX5_complete 36 = .ok (.imul, 1) := by decide +kernel
theorem dX5_complete_37 : decode cX5_complete 37 = .ok (.iload_n 2, 1) := by decide +kernel
theorem dX5_complete_38 : decode cX5_complete 38 = .ok (.iadd, 1) := by decide +kernel
theorem dX5_complete_39 : decode cX5_complete 39 = .ok (.iaload, 1) := by decide +kernel
theorem dX5_complete_40 : decode cX5_complete 40 = .ok (.iconst (-1), 1) := by decide +kernel
theorem dX5_complete_41 : decode cX5_complete 41 = .ok (.invokevirtual 127, 3) := by decide +kernel
theorem dX5_complete_44 : decode cX5_complete 44 = .ok (.ifCond .ne 7, 3) := by decide +kernel
theorem dX5_complete_47 : decode cX5_complete 47 = .ok (.iconst 1, 1) := by decide +kernel
theorem dX5_complete_48 : decode cX5_complete 48 = .ok (.iload_n 2, 1) := by decide +kernel
theorem dX5_complete_49 : decode cX5_complete 49 = .ok (.iadd, 1) := by decide +kernel
theorem dX5_complete_50 : decode cX5_complete 50 = .ok (.ireturn, 1) := by decide +kernel
theorem dX5_complete_51 : decode cX5_complete 51 = .ok (.iinc 2 1, 3) := by decide +kernel
theorem dX5_complete_54 : decode cX5_complete 54 = .ok (.goto (-37), 3) := by decide +kernel
theorem dX5_complete_57 : decode cX5_complete 57 = .ok (.iconst 0, 1) := by decide +kernel
theorem dX5_complete_58 : decode cX5_complete 58 = .ok (.ireturn, 1) := by decide +kernel
theorem dX5_comment_0 : decode cX5_comment 0 = .ok (.aload_n 0, 1) := by decide +kernel
theorem dX5_comment_1 : decode cX5_comment 1 = .ok (.iconst 0, 1) := by decide +kernel
theorem dX5_comment_2 : decode cX5_comment 2 = .ok (.putfield 84, 3) := by decide +kernel
theorem dX5_comment_5 : decode cX5_comment 5 = .ok (.aload_n 0, 1) := by decide +kernel
theorem dX5_comment_6 : decode cX5_comment 6 = .ok (.iload_n 1, 1) := by decide +kernel
theorem dX5_comment_7 : decode cX5_comment 7 = .ok (.invokevirtual 114, 3) := by decide +kernel
theorem dX5_comment_10 : decode cX5_comment 10 = .ok (.ifCond .eq 42, 3) := by decide +kernel
theorem dX5_comment_13 : decode cX5_comment 13 = .ok (.iload_n 2, 1) := by decide +kernel
theorem dX5_comment_14 : decode cX5_comment 14 = .ok (.ifCond .lt 38, 3) := by decide +kernel
theorem dX5_comment_17 : decode cX5_comment 17 = .ok (.iload_n 2, 1) := by decide +kernel
theorem dX5_comment_18 : decode cX5_comment 18 = .ok (.sipush 255, 3) := by decide +kernel
theorem dX5_comment_21 : decode cX5_comment 21 = .ok (.if_icmp .gt 31, 3) := by decide +kernel
theorem dX5_comment_24 : decode cX5_comment 24 = .ok (.lload_n 3, 1) := by decide +kernel
theorem dX5_comment_25 : decode cX5_comment 25 = .ok (.invokestatic 103, 3) := by decide +kernel
theorem dX5_comment_28 : decode cX5_comment 28 = .ok (.ifCond .eq 24, 3) := by decide +kernel
theorem dX5_comment_31 : decode cX5_comment 31 = .ok (.lload_n 3, 1) := by decide +kernel
theorem dX5_comment_32 : decode cX5_comment 32 = .ok (.aload_n 0, 1) := by decide +kernel
theorem dX5_comment_33 : decode cX5_comment 33 = .ok (.getfield 123, 3) := by decide +kernel
theorem dX5_comment_36 : decode cX5_comment 36 = .ok (.lcmp, 1) := by decide +kernel
theorem dX5_comment_37 : decode cX5_comment 37 = .ok (.ifCond .lt 15, 3) := by decide +kernel
theorem dX5_comment_40 : decode cX5_comment 40 = .ok (.aload_n 0, 1) := by decide +kernel
theorem dX5_comment_41 : decode cX5_comment 41 = .ok (.getfield 35, 3) := by decide +kernel
theorem dX5_comment_44 : decode cX5_comment 44 = .ok (.iload_n 1, 1) := by decide +kernel
theorem dX5_comment_45 : decode cX5_comment 45 = .ok (.iaload, 1) := by decide +kernel
theorem dX5_comment_46 : decode cX5_comment 46 = .ok (.sipush 200, 3) := by decide +kernel
theorem dX5_comment_49 : decode cX5_comment 49 = .ok (.if_icmp .ne 5, 3) := by decide +kernel
theorem dX5_comment_52 : decode cX5_comment 52 = .ok (.iconst 0, 1) := by decide +kernel
theorem dX5_comment_53 : decode cX5_comment 53 = .ok (.ireturn, 1) := by decide +kernel
theorem dX5_comment_54 : decode cX5_comment 54 = .ok (.aload_n 0, 1) := by decide +kernel
theorem dX5_comment_55 : decode cX5_comment 55 = .ok (.getfield 38, 3) := by decide +kernel
theorem dX5_comment_58 : decode cX5_comment 58 = .ok (.sipush 200, 3) := by decide +kernel
theorem dX5_comment_61 : decode cX5_comment 61 = .ok (.iload_n 1, 1) := by decide +kernel
theorem dX5_comment_62 : decode cX5_comment 62 = .ok (.imul, 1) := by decide +kernel
theorem dX5_comment_63 : decode cX5_comment 63 = .ok (.aload_n 0, 1) := by decide +kernel
theorem dX5_comment_64 : decode cX5_comment 64 = .ok (.getfield 35, 3) := by decide +kernel
theorem dX5_comment_67 : decode cX5_comment 67 = .ok (.iload_n 1, 1) := by decide +kernel
theorem dX5_comment_68 : decode cX5_comment 68 = .ok (.iaload, 1) := by decide +kernel
theorem dX5_comment_69 : decode cX5_comment 69 = .ok (.iadd, 1) := by decide +kernel
theorem dX5_comment_70 : decode cX5_comment 70 = .ok (.iload_n 2, 1) := by decide +kernel
theorem dX5_comment_71 : decode cX5_comment 71 = .ok (.iastore, 1) := by decide +kernel
theorem dX5_comment_72 : decode cX5_comment 72 = .ok (.aload_n 0, 1) := by decide +kernel
theorem dX5_comment_73 : decode cX5_comment 73 = .ok (.getfield 35, 3) := by decide +kernel
theorem dX5_comment_76 : decode cX5_comment 76 = .ok (.iload_n 1, 1) := by decide +kernel
theorem dX5_comment_77 : decode cX5_comment 77 = .ok (.dup2, 1) := by decide +kernel
theorem dX5_comment_78 : decode cX5_comment 78 = .ok (.iaload, 1) := by decide +kernel
theorem dX5_comment_79 : decode cX5_comment 79 = .ok (.iconst 1, 1) := by decide +kernel
theorem dX5_comment_80 : decode cX5_comment 80 = .ok (.iadd, 1) := by decide +kernel
theorem dX5_comment_81 : decode cX5_comment 81 = .ok (.iastore, 1) := by decide +kernel
theorem dX5_comment_82 : decode cX5_comment 82 = .ok (.aload_n 0, 1) := by decide +kernel
theorem dX5_comment_83 : decode cX5_comment 83 = .ok (.lload_n 3, 1) := by decide +kernel
theorem dX5_comment_84 : decode cX5_comment 84 = .ok (.putfield 123, 3) := by decide +kernel
theorem dX5_comment_87 : decode cX5_comment 87 = .ok (.iconst 1, 1) := by decide +kernel
theorem dX5_comment_88 : decode cX5_comment 88 = .ok (.ireturn, 1) := by decide +kernel
theorem dX5_root_0 : decode cX5_root 0 = .ok (.iload_n 0, 1) := by decide +kernel
theorem dX5_root_1 : decode cX5_root 1 = .ok (.i2d, 1) := by decide +kernel
theorem dX5_root_2 : decode cX5_root 2 = .ok (.dstore_n 2, 1) := by decide +kernel
theorem dX5_root_3 : decode cX5_root 3 = .ok (.iconst 0, 1) := by decide +kernel
theorem dX5_root_4 : decode cX5_root 4 = .ok (.istore 4, 2) := by decide +kernel
theorem dX5_root_6 : decode cX5_root 6 = .ok (.iload 4, 2) := by decide +kernel
theorem dX5_root_8 : decode cX5_root 8 = .ok (.bipush 40, 2) := by decide +kernel
theorem dX5_root_10 : decode cX5_root 10 = .ok (.if_icmp .ge 41, 3) := by decide +kernel
theorem dX5_root_13 : decode cX5_root 13 = .ok (.iload_n 1, 1) := by decide +kernel
theorem dX5_root_14 : decode cX5_root 14 = .ok (.ifCond .eq 20, 3) := by decide +kernel
theorem dX5_root_17 : decode cX5_root 17 = .ok (.dload_n 2, 1) := by decide +kernel
theorem dX5_root_18 : decode cX5_root 18 = .ok (.dload_n 2, 1) := by decide +kernel
theorem dX5_root_19 : decode cX5_root 19 = .ok (.dadd, 1) := by decide +kernel
theorem dX5_root_20 : decode cX5_root 20 = .ok (.iload_n 0, 1) := by decide +kernel
theorem dX5_root_21 : decode cX5_root 21 = .ok (.i2d, 1) := by decide +kernel
theorem dX5_root_22 : decode cX5_root 22 = .ok (.dload_n 2, 1) := by decide +kernel
theorem dX5_root_23 : decode cX5_root 23 = .ok (.dload_n 2, 1) := by decide +kernel
theorem dX5_root_24 : decode cX5_root 24 = .ok (.dmul, 1) := by decide +kernel
theorem dX5_root_25 : decode cX5_root 25 = .ok (.ddiv, 1) := by decide +kernel
theorem dX5_root_26 : decode cX5_root 26 = .ok (.dadd, 1) := by decide +kernel
theorem dX5_root_27 : decode cX5_root 27 = .ok (.ldc2_w 143, 3) := by decide +kernel
theorem dX5_root_30 : decode cX5_root 30 = .ok (.ddiv, 1) := by decide +kernel
theorem dX5_root_31 : decode cX5_root 31 = .ok (.goto 13, 3) := by decide +kernel
theorem dX5_root_34 : decode cX5_root 34 = .ok (.dload_n 2, 1) := by decide +kernel
theorem dX5_root_35 : decode cX5_root 35 = .ok (.iload_n 0, 1) := by decide +kernel
theorem dX5_root_36 : decode cX5_root 36 = .ok (.i2d, 1) := by decide +kernel
theorem dX5_root_37 : decode cX5_root 37 = .ok (.dload_n 2, 1) := by decide +kernel
theorem dX5_root_38 : decode cX5_root 38 = .ok (.ddiv, 1) := by decide +kernel
theorem dX5_root_39 : decode cX5_root 39 = .ok (.dadd, 1) := by decide +kernel
theorem dX5_root_40 : decode cX5_root 40 = .ok (.ldc2_w 145, 3) := by decide +kernel
theorem dX5_root_43 : decode cX5_root 43 = .ok (.ddiv, 1) := by decide +kernel
theorem dX5_root_44 : decode cX5_root 44 = .ok (.dstore_n 2, 1) := by decide +kernel
theorem dX5_root_45 : decode cX5_root 45 = .ok (.iinc 4 1, 3) := by decide +kernel
theorem dX5_root_48 : decode cX5_root 48 = .ok (.goto (-42), 3) := by decide +kernel
theorem dX5_root_51 : decode cX5_root 51 = .ok (.dload_n 2, 1) := by decide +kernel
theorem dX5_root_52 : decode cX5_root 52 = .ok (.d2l, 1) := by decide +kernel
theorem dX5_root_53 : decode cX5_root 53 = .ok (.lstore 4, 2) := by decide +kernel
theorem dX5_root_55 : decode cX5_root 55 = .ok (.dload_n 2, 1) := by decide +kernel
theorem dX5_root_56 : decode cX5_root 56 = .ok (.lload 4, 2) := by decide +kernel
theorem dX5_root_58 : decode cX5_root 58 = .ok (.l2d, 1) := by decide +kernel
theorem dX5_root_59 : decode cX5_root 59 = .ok (.dsub, 1) := by decide +kernel
theorem dX5_root_60 : decode cX5_root 60 = .ok (.ldc2_w 147, 3) := by decide +kernel
theorem dX5_root_63 : decode cX5_root 63 = .ok (.dmul, 1) := by decide +kernel
theorem dX5_root_64 : decode cX5_root 64 = .ok (.d2l, 1) := by decide +kernel
theorem dX5_root_65 : decode cX5_root 65 = .ok (.l2i, 1) := by decide +kernel
theorem dX5_root_66 : decode cX5_root 66 = .ok (.ireturn, 1) := by decide +kernel
theorem dX5_prepare_0 : decode cX5_prepare 0 = .ok (.iconst 0, 1) := by decide +kernel
theorem dX5_prepare_1 : decode cX5_prepare 1 = .ok (.istore_n 1, 1) := by decide +kernel
theorem dX5_prepare_2 : decode cX5_prepare 2 = .ok (.iconst 2, 1) := by decide +kernel
theorem dX5_prepare_3 : decode cX5_prepare 3 = .ok (.istore_n 2, 1) := by decide +kernel
theorem dX5_prepare_4 : decode cX5_prepare 4 = .ok (.iload_n 1, 1) := by decide +kernel
theorem dX5_prepare_5 : decode cX5_prepare 5 = .ok (.bipush 64, 2) := by decide +kernel
theorem dX5_prepare_7 : decode cX5_prepare 7 = .ok (.if_icmp .ge 81, 3) := by decide +kernel
theorem dX5_prepare_10 : decode cX5_prepare 10 = .ok (.iconst 1, 1) := by decide +kernel
theorem dX5_prepare_11 : decode cX5_prepare 11 = .ok (.istore_n 3, 1) := by decide +kernel
theorem dX5_prepare_12 : decode cX5_prepare 12 = .ok (.iconst 2, 1) := by decide +kernel
theorem dX5_prepare_13 : decode cX5_prepare 13 = .ok (.istore 4, 2) := by decide +kernel
theorem dX5_prepare_15 : decode cX5_prepare 15 = .ok (.iload 4, 2) := by decide +kernel
theorem dX5_prepare_17 : decode cX5_prepare 17 = .ok (.iload 4, 2) := by decide +kernel
theorem dX5_prepare_19 : decode cX5_prepare 19 = .ok (.imul, 1) := by decide +kernel
theorem dX5_prepare_20 : decode cX5_prepare 20 = .ok (.iload_n 2, 1) := by decide +kernel
theorem dX5_prepare_21 : decode cX5_prepare 21 = .ok (.if_icmp .gt 26, 3) := by decide +kernel
theorem dX5_prepare_24 : decode cX5_prepare 24 = .ok (.iload_n 3, 1) := by decide +kernel
theorem dX5_prepare_25 : decode cX5_prepare 25 = .ok (.ifCond .eq 14, 3) := by decide +kernel
theorem dX5_prepare_28 : decode cX5_prepare 28 = .ok (.iload_n 2, 1) := by decide +kernel
theorem dX5_prepare_29 : decode cX5_prepare 29 = .ok (.iload 4, 2) := by decide +kernel
theorem dX5_prepare_31 : decode cX5_prepare 31 = .ok (.irem, 1) := by decide +kernel
theorem dX5_prepare_32 : decode cX5_prepare 32 = .ok (.ifCond .eq 7, 3) := by decide +kernel
theorem dX5_prepare_35 : decode cX5_prepare 35 = .ok (.iconst 1, 1) := by decide +kernel
theorem dX5_prepare_36 : decode cX5_prepare 36 = .ok (.goto 4, 3) := by decide +kernel
theorem dX5_prepare_39 : decode cX5_prepare 39 = .ok (.iconst 0, 1) := by decide +kernel
theorem dX5_prepare_40 : decode cX5_prepare 40 = .ok (.istore_n 3, 1) := by decide +kernel
theorem dX5_prepare_41 : decode cX5_prepare 41 = .ok (.iinc 4 1, 3) := by decide +kernel
theorem dX5_prepare_44 : decode cX5_prepare 44 = .ok (.goto (-29), 3) := by decide +kernel
theorem dX5_prepare_47 : decode cX5_prepare 47 = .ok (.iload_n 3, 1) := by decide +kernel
theorem dX5_prepare_48 : decode cX5_prepare 48 = .ok (.ifCond .eq 34, 3) := by decide +kernel
theorem dX5_prepare_51 : decode cX5_prepare 51 = .ok (.aload_n 0, 1) := by decide +kernel
theorem dX5_prepare_52 : decode cX5_prepare 52 = .ok (.getfield 69, 3) := by decide +kernel
theorem dX5_prepare_55 : decode cX5_prepare 55 = .ok (.iload_n 1, 1) := by decide +kernel
theorem dX5_prepare_56 : decode cX5_prepare 56 = .ok (.iload_n 2, 1) := by decide +kernel
theorem dX5_prepare_57 : decode cX5_prepare 57 = .ok (.iconst 1, 1) := by decide +kernel
theorem dX5_prepare_58 : decode cX5_prepare 58 = .ok (.invokestatic 149, 3) := by decide +kernel
theorem dX5_prepare_61 : decode cX5_prepare 61 = .ok (.iastore, 1) := by decide +kernel
theorem dX5_prepare_62 : decode cX5_prepare 62 = .ok (.iload_n 1, 1) := by decide +kernel
theorem dX5_prepare_63 : decode cX5_prepare 63 = .ok (.bipush 8, 2) := by decide +kernel
theorem dX5_prepare_65 : decode cX5_prepare 65 = .ok (.if_icmp .ge 14, 3) := by decide +kernel
theorem dX5_prepare_68 : decode cX5_prepare 68 = .ok (.aload_n 0, 1) := by decide +kernel
theorem dX5_prepare_69 : decode cX5_prepare 69 = .ok (.getfield 72, 3) := by decide +kernel
theorem dX5_prepare_72 : decode cX5_prepare 72 = .ok (.iload_n 1, 1) := by decide +kernel
theorem dX5_prepare_73 : decode cX5_prepare 73 = .ok (.iload_n 2, 1) := by decide +kernel
theorem dX5_prepare_74 : decode cX5_prepare 74 = .ok (.iconst 0, 1) := by decide +kernel
theorem dX5_prepare_75 : decode cX5_prepare 75 = .ok (.invokestatic 149, 3) := by decide +kernel
theorem dX5_prepare_78 : decode cX5_prepare 78 = .ok (.iastore, 1) := by decide +kernel
theorem dX5_prepare_79 : decode cX5_prepare 79 = .ok (.iinc 1 1, 3) := by decide +kernel
theorem dX5_prepare_82 : decode cX5_prepare 82 = .ok (.iinc 2 1, 3) := by decide +kernel
theorem dX5_prepare_85 : decode cX5_prepare 85 = .ok (.goto (-81), 3) := by decide +kernel
theorem dX5_prepare_88 : decode cX5_prepare 88 = .ok (.aload_n 0, 1) := by decide +kernel
theorem dX5_prepare_89 : decode cX5_prepare 89 = .ok (.iconst 1, 1) := by decide +kernel
theorem dX5_prepare_90 : decode cX5_prepare 90 = .ok (.putfield 153, 3) := by decide +kernel
theorem dX5_prepare_93 : decode cX5_prepare 93 = .ok (.return_, 1) := by decide +kernel
theorem dX5_turn_0 : decode cX5_turn 0 = .ok (.iload_n 0, 1) := by decide +kernel
theorem dX5_turn_1 : decode cX5_turn 1 = .ok (.iload_n 1, 1) := by decide +kernel
theorem dX5_turn_2 : decode cX5_turn 2 = .ok (.iushr, 1) := by decide +kernel
theorem dX5_turn_3 : decode cX5_turn 3 = .ok (.iload_n 0, 1) := by decide +kernel
theorem dX5_turn_4 : decode cX5_turn 4 = .ok (.bipush 32, 2) := by decide +kernel
theorem dX5_turn_6 : decode cX5_turn 6 = .ok (.iload_n 1, 1) := by decide +kernel
theorem dX5_turn_7 : decode cX5_turn 7 = .ok (.isub, 1) := by decide +kernel
theorem dX5_turn_8 : decode cX5_turn 8 = .ok (.ishl, 1) := by decide +kernel
theorem dX5_turn_9 : decode cX5_turn 9 = .ok (.ior, 1) := by decide +kernel
theorem dX5_turn_10 : decode cX5_turn 10 = .ok (.ireturn, 1) := by decide +kernel
theorem dX5_padded_0 : decode cX5_padded 0 = .ok (.aload_n 0, 1) := by decide +kernel
theorem dX5_padded_1 : decode cX5_padded 1 = .ok (.getfield 26, 3) := by decide +kernel
theorem dX5_padded_4 : decode cX5_padded 4 = .ok (.iload_n 1, 1) := by decide +kernel
theorem dX5_padded_5 : decode cX5_padded 5 = .ok (.iaload, 1) := by decide +kernel
theorem dX5_padded_6 : decode cX5_padded 6 = .ok (.istore 4, 2) := by decide +kernel
theorem dX5_padded_8 : decode cX5_padded 8 = .ok (.iload_n 2, 1) := by decide +kernel
theorem dX5_padded_9 : decode cX5_padded 9 = .ok (.iload 4, 2) := by decide +kernel
theorem dX5_padded_11 : decode cX5_padded 11 = .ok (.if_icmp .ge 16, 3) := by decide +kernel
theorem dX5_padded_14 : decode cX5_padded 14 = .ok (.aload_n 0, 1) := by decide +kernel
theorem dX5_padded_15 : decode cX5_padded 15 = .ok (.getfield 32, 3) := by decide +kernel
theorem dX5_padded_18 : decode cX5_padded 18 = .ok (.sipush 1000, 3) := by decide +kernel
theorem dX5_padded_21 : decode cX5_padded 21 = .ok (.iload_n 1, 1) := by decide +kernel
theorem dX5_padded_22 : decode cX5_padded 22 = .ok (.imul, 1) := by decide +kernel
theorem dX5_padded_23 : decode cX5_padded 23 = .ok (.iload_n 2, 1) := by decide +kernel
theorem dX5_padded_24 : decode cX5_padded 24 = .ok (.iadd, 1) := by decide +kernel
theorem dX5_padded_25 : decode cX5_padded 25 = .ok (.iaload, 1) := by decide +kernel
theorem dX5_padded_26 : decode cX5_padded 26 = .ok (.ireturn, 1) := by decide +kernel
theorem dX5_padded_27 : decode cX5_padded 27 = .ok (.bipush 8, 2) := by decide +kernel
theorem dX5_padded_29 : decode cX5_padded 29 = .ok (.iload_n 3, 1) := by decide +kernel
theorem dX5_padded_30 : decode cX5_padded 30 = .ok (.iconst 1, 1) := by decide +kernel
theorem dX5_padded_31 : decode cX5_padded 31 = .ok (.isub, 1) := by decide +kernel
theorem dX5_padded_32 : decode cX5_padded 32 = .ok (.iload_n 2, 1) := by decide +kernel
theorem dX5_padded_33 : decode cX5_padded 33 = .ok (.isub, 1) := by decide +kernel
theorem dX5_padded_34 : decode cX5_padded 34 = .ok (.imul, 1) := by decide +kernel
theorem dX5_padded_35 : decode cX5_padded 35 = .ok (.istore 5, 2) := by decide +kernel
theorem dX5_padded_37 : decode cX5_padded 37 = .ok (.iload_n 2, 1) := by decide +kernel
theorem dX5_padded_38 : decode cX5_padded 38 = .ok (.iload 4, 2) := by decide +kernel
theorem dX5_padded_40 : decode cX5_padded 40 = .ok (.if_icmp .ne 9, 3) := by decide +kernel
theorem dX5_padded_43 : decode cX5_padded 43 = .ok (.sipush 128, 3) := by decide +kernel
theorem dX5_padded_46 : decode cX5_padded 46 = .ok (.goto 26, 3) := by decide +kernel
theorem dX5_padded_49 : decode cX5_padded 49 = .ok (.iload 5, 2) := by decide +kernel
theorem dX5_padded_51 : decode cX5_padded 51 = .ok (.bipush 32, 2) := by decide +kernel
theorem dX5_padded_53 : decode cX5_padded 53 = .ok (.if_icmp .ge 18, 3) := by decide +kernel
theorem dX5_padded_56 : decode cX5_padded 56 = .ok (.bipush 8, 2) := by decide +kernel
theorem dX5_padded_58 : decode cX5_padded 58 = .ok (.iload 4, 2) := by decide +kernel
theorem dX5_padded_60 : decode cX5_padded 60 = .ok (.imul, 1) := by decide +kernel
theorem dX5_padded_61 : decode cX5_padded 61 = .ok (.iload 5, 2) := by decide +kernel
theorem dX5_padded_63 : decode cX5_padded 63 = .ok (.iushr, 1) := by decide +kernel
theorem dX5_padded_64 : decode cX5_padded 64 = .ok (.sipush 255, 3) := by decide +kernel
theorem dX5_padded_67 : decode cX5_padded 67 = .ok (.iand, 1) := by decide +kernel
theorem dX5_padded_68 : decode cX5_padded 68 = .ok (.goto 4, 3) := by decide +kernel
theorem dX5_padded_71 : decode cX5_padded 71 = .ok (.iconst 0, 1) := by decide +kernel
theorem dX5_padded_72 : decode cX5_padded 72 = .ok (.ireturn, 1) := by decide +kernel
theorem dX5_reckon_0 : decode cX5_reckon 0 = .ok (.aload_n 0, 1) := by decide +kernel
theorem dX5_reckon_1 : decode cX5_reckon 1 = .ok (.getfield 153, 3) := by decide +kernel
theorem dX5_reckon_4 : decode cX5_reckon 4 = .ok (.ifCond .ne 7, 3) := by decide +kernel
theorem dX5_reckon_7 : decode cX5_reckon 7 = .ok (.aload_n 0, 1) := by decide +kernel
theorem dX5_reckon_8 : decode cX5_reckon 8 = .ok (.invokevirtual 157, 3) := by decide +kernel
theorem dX5_reckon_11 : decode cX5_reckon 11 = .ok (.aload_n 0, 1) := by decide +kernel
theorem dX5_reckon_12 : decode cX5_reckon 12 = .ok (.getfield 26, 3) := by decide +kernel
theorem dX5_reckon_15 : decode cX5_reckon 15 = .ok (.iload_n 1, 1) := by decide +kernel
theorem dX5_reckon_16 : decode cX5_reckon 16 = .ok (.iaload, 1) := by decide +kernel
theorem dX5_reckon_17 : decode cX5_reckon 17 = .ok (.bipush 9, 2) := by decide +kernel
theorem dX5_reckon_19 : decode cX5_reckon 19 = .ok (.iadd, 1) := by decide +kernel
theorem dX5_reckon_20 : decode cX5_reckon 20 = .ok (.bipush 63, 2) := by decide +kernel
theorem dX5_reckon_22 : decode cX5_reckon 22 = .ok (.iadd, 1) := by decide +kernel
theorem dX5_reckon_23 : decode cX5_reckon 23 = .ok (.bipush 64, 2) := by decide +kernel
theorem dX5_reckon_25 : decode cX5_reckon 25 = .ok (.idiv, 1) := by decide +kernel
theorem dX5_reckon_26 : decode cX5_reckon 26 = .ok (.bipush 64, 2) := by decide +kernel
theorem dX5_reckon_28 : decode cX5_reckon 28 = .ok (.imul, 1) := by decide +kernel
theorem dX5_reckon_29 : decode cX5_reckon 29 = .ok (.istore_n 2, 1) := by decide +kernel
theorem dX5_reckon_30 : decode cX5_reckon 30 = .ok (.aload_n 0, 1) := by decide +kernel
theorem dX5_reckon_31 : decode cX5_reckon 31 = .ok (.getfield 72, 3) := by decide +kernel
theorem dX5_reckon_34 : decode cX5_reckon 34 = .ok (.iconst 0, 1) := by decide +kernel
theorem dX5_reckon_35 : decode cX5_reckon 35 = .ok (.aload_n 0, 1) := by decide +kernel
theorem dX5_reckon_36 : decode cX5_reckon 36 = .ok (.getfield 78, 3) := by decide +kernel
theorem dX5_reckon_39 : decode cX5_reckon 39 = .ok (.iconst 0, 1) := by decide +kernel
theorem dX5_reckon_40 : decode cX5_reckon 40 = .ok (.bipush 8, 2) := by decide +kernel
theorem dX5_reckon_42 : decode cX5_reckon 42 = .ok (.invokestatic 131, 3) := by decide +kernel
theorem dX5_reckon_45 : decode cX5_reckon 45 = .ok (.iconst 0, 1) := by decide +kernel
theorem dX5_reckon_46 : decode cX5_reckon 46 = .ok (.istore_n 3, 1) := by decide +kernel
theorem dX5_reckon_47 : decode cX5_reckon 47 = .ok (.iload_n 3, 1) := by decide +kernel
theorem dX5_reckon_48 : decode cX5_reckon 48 = .ok (.iload_n 2, 1) := by decide +kernel
theorem dX5_reckon_49 : decode cX5_reckon 49 = .ok (.if_icmp .ge 205, 3) := by decide +kernel
theorem dX5_reckon_52 : decode cX5_reckon 52 = .ok (.iconst 0, 1) := by decide +kernel
theorem dX5_reckon_53 : decode cX5_reckon 53 = .ok (.istore 4, 2) := by decide +kernel
theorem dX5_reckon_55 : decode cX5_reckon 55 = .ok (.iload 4, 2) := by decide +kernel
theorem dX5_reckon_57 : decode cX5_reckon 57 = .ok (.bipush 16, 2) := by decide +kernel
theorem dX5_reckon_59 : decode cX5_reckon 59 = .ok (.if_icmp .ge 74, 3) := by decide +kernel
theorem dX5_reckon_62 : decode cX5_reckon 62 = .ok (.iload_n 3, 1) := by decide +kernel
theorem dX5_reckon_63 : decode cX5_reckon 63 = .ok (.iconst 4, 1) := by decide +kernel
theorem dX5_reckon_64 : decode cX5_reckon 64 = .ok (.iload 4, 2) := by decide +kernel
theorem dX5_reckon_66 : decode cX5_reckon 66 = .ok (.imul, 1) := by decide +kernel
theorem dX5_reckon_67 : decode cX5_reckon 67 = .ok (.iadd, 1) := by decide +kernel
theorem dX5_reckon_68 : decode cX5_reckon 68 = .ok (.istore 5, 2) := by decide +kernel
theorem dX5_reckon_70 : decode cX5_reckon 70 = .ok (.aload_n 0, 1) := by decide +kernel
theorem dX5_reckon_71 : decode cX5_reckon 71 = .ok (.getfield 75, 3) := by decide +kernel
theorem dX5_reckon_74 : decode cX5_reckon 74 = .ok (.iload 4, 2) := by decide +kernel
theorem dX5_reckon_76 : decode cX5_reckon 76 = .ok (.aload_n 0, 1) := by decide +kernel
theorem dX5_reckon_77 : decode cX5_reckon 77 = .ok (.iload_n 1, 1) := by decide +kernel
theorem dX5_reckon_78 : decode cX5_reckon 78 = .ok (.iload 5, 2) := by decide +kernel
theorem dX5_reckon_80 : decode cX5_reckon 80 = .ok (.iload_n 2, 1) := by decide +kernel
theorem dX5_reckon_81 : decode cX5_reckon 81 = .ok (.invokevirtual 160, 3) := by decide +kernel
theorem dX5_reckon_84 : decode cX5_reckon 84 = .ok (.bipush 24, 2) := by decide +kernel
theorem dX5_reckon_86 : decode cX5_reckon 86 = .ok (.ishl, 1) := by decide +kernel
theorem dX5_reckon_87 : decode cX5_reckon 87 = .ok (.aload_n 0, 1) := by decide +kernel
theorem dX5_reckon_88 : decode cX5_reckon 88 = .ok (.iload_n 1, 1) := by decide +kernel
theorem dX5_reckon_89 : decode cX5_reckon 89 = .ok (.iload 5, 2) := by decide +kernel
theorem dX5_reckon_91 : decode cX5_reckon 91 = .ok (.iconst 1, 1) := by decide +kernel
theorem dX5_reckon_92 : decode cX5_reckon 92 = .ok (.iadd, 1) := by decide +kernel
theorem dX5_reckon_93 : decode cX5_reckon 93 = .ok (.iload_n 2, 1) := by decide +kernel
theorem dX5_reckon_94 : decode cX5_reckon 94 = .ok (.invokevirtual 160, 3) := by decide +kernel
theorem dX5_reckon_97 : decode cX5_reckon 97 = .ok (.bipush 16, 2) := by decide +kernel
theorem dX5_reckon_99 : decode cX5_reckon 99 = .ok (.ishl, 1) := by decide +kernel
theorem dX5_reckon_100 : decode cX5_reckon 100 = .ok (.ior, 1) := by decide +kernel
theorem dX5_reckon_101 : decode cX5_reckon 101 = .ok (.aload_n 0, 1) := by decide +kernel
theorem dX5_reckon_102 : decode cX5_reckon 102 = .ok (.iload_n 1, 1) := by decide +kernel
theorem dX5_reckon_103 : decode cX5_reckon 103 = .ok (.iload 5, 2) := by decide +kernel
theorem dX5_reckon_105 : decode cX5_reckon 105 = .ok (.iconst 2, 1) := by decide +kernel
theorem dX5_reckon_106 : decode cX5_reckon 106 = .ok (.iadd, 1) := by decide +kernel
theorem dX5_reckon_107 : decode cX5_reckon 107 = .ok (.iload_n 2, 1) := by decide +kernel
theorem dX5_reckon_108 : decode cX5_reckon 108 = .ok (.invokevirtual 160, 3) := by decide +kernel
theorem dX5_reckon_111 : decode cX5_reckon 111 = .ok (.bipush 8, 2) := by decide +kernel
theorem dX5_reckon_113 : decode cX5_reckon 113 = .ok (.ishl, 1) := by decide +kernel
theorem dX5_reckon_114 : decode cX5_reckon 114 = .ok (.ior, 1) := by decide +kernel
theorem dX5_reckon_115 : decode cX5_reckon 115 = .ok (.aload_n 0, 1) := by decide +kernel
theorem dX5_reckon_116 : decode cX5_reckon 116 = .ok (.iload_n 1, 1) := by decide +kernel
theorem dX5_reckon_117 : decode cX5_reckon 117 = .ok (.iload 5, 2) := by decide +kernel
theorem dX5_reckon_119 : decode cX5_reckon 119 = .ok (.iconst 3, 1) := by decide +kernel
theorem dX5_reckon_120 : decode cX5_reckon 120 = .ok (.iadd, 1) := by decide +kernel
theorem dX5_reckon_121 : decode cX5_reckon 121 = .ok (.iload_n 2, 1) := by decide +kernel
theorem dX5_reckon_122 : decode cX5_reckon 122 = .ok (.invokevirtual 160, 3) := by decide +kernel
theorem dX5_reckon_125 : decode cX5_reckon 125 = .ok (.ior, 1) := by decide +kernel
theorem dX5_reckon_126 : decode cX5_reckon 126 = .ok (.iastore, 1) := by decide +kernel
theorem dX5_reckon_127 : decode cX5_reckon 127 = .ok (.iinc 4 1, 3) := by decide +kernel
theorem dX5_reckon_130 : decode cX5_reckon 130 = .ok (.goto (-75), 3) := by decide +kernel
theorem dX5_reckon_133 : decode cX5_reckon 133 = .ok (.bipush 16, 2) := by decide +kernel
theorem dX5_reckon_135 : decode cX5_reckon 135 = .ok (.istore 4, 2) := by decide +kernel
theorem dX5_reckon_137 : decode cX5_reckon 137 = .ok (.iload 4, 2) := by decide +kernel
theorem dX5_reckon_139 : decode cX5_reckon 139 = .ok (.bipush 64, 2) := by decide +kernel
theorem dX5_reckon_141 : decode cX5_reckon 141 = .ok (.if_icmp .ge 103, 3) := by decide +kernel
theorem dX5_reckon_144 : decode cX5_reckon 144 = .ok (.aload_n 0, 1) := by decide +kernel
theorem dX5_reckon_145 : decode cX5_reckon 145 = .ok (.getfield 75, 3) := by decide +kernel
theorem dX5_reckon_148 : decode cX5_reckon 148 = .ok (.iload 4, 2) := by decide +kernel
theorem dX5_reckon_150 : decode cX5_reckon 150 = .ok (.bipush 15, 2) := by decide +kernel
theorem dX5_reckon_152 : decode cX5_reckon 152 = .ok (.isub, 1) := by decide +kernel
theorem dX5_reckon_153 : decode cX5_reckon 153 = .ok (.iaload, 1) := by decide +kernel
theorem dX5_reckon_154 : decode cX5_reckon 154 = .ok (.istore 5, 2) := by decide +kernel
theorem dX5_reckon_156 : decode cX5_reckon 156 = .ok (.aload_n 0, 1) := by decide +kernel
theorem dX5_reckon_157 : decode cX5_reckon 157 = .ok (.getfield 75, 3) := by decide +kernel
theorem dX5_reckon_160 : decode cX5_reckon 160 = .ok (.iload 4, 2) := by decide +kernel
theorem dX5_reckon_162 : decode cX5_reckon 162 = .ok (.iconst 2, 1) := by decide +kernel
theorem dX5_reckon_163 : decode cX5_reckon 163 = .ok (.isub, 1) := by decide +kernel
theorem dX5_reckon_164 : decode cX5_reckon 164 = .ok (.iaload, 1) := by decide +kernel
theorem dX5_reckon_165 : decode cX5_reckon 165 = .ok (.istore 6, 2) := by decide +kernel
theorem dX5_reckon_167 : decode cX5_reckon 167 = .ok (.aload_n 0, 1) := by decide +kernel
theorem dX5_reckon_168 : decode cX5_reckon 168 = .ok (.getfield 75, 3) := by decide +kernel
theorem dX5_reckon_171 : decode cX5_reckon 171 = .ok (.iload 4, 2) := by decide +kernel
theorem dX5_reckon_173 : decode cX5_reckon 173 = .ok (.aload_n 0, 1) := by decide +kernel
theorem dX5_reckon_174 : decode cX5_reckon 174 = .ok (.getfield 75, 3) := by decide +kernel
theorem dX5_reckon_177 : decode cX5_reckon 177 = .ok (.iload 4, 2) := by decide +kernel
theorem dX5_reckon_179 : decode cX5_reckon 179 = .ok (.bipush 16, 2) := by decide +kernel
theorem dX5_reckon_181 : decode cX5_reckon 181 = .ok (.isub, 1) := by decide +kernel
theorem dX5_reckon_182 : decode cX5_reckon 182 = .ok (.iaload, 1) := by decide +kernel
theorem dX5_reckon_183 : decode cX5_reckon 183 = .ok (.aload_n 0, 1) := by decide +kernel
theorem dX5_reckon_184 : decode cX5_reckon 184 = .ok (.getfield 75, 3) := by decide +kernel
theorem dX5_reckon_187 : decode cX5_reckon 187 = .ok (.iload 4, 2) := by decide +kernel
theorem dX5_reckon_189 : decode cX5_reckon 189 = .ok (.bipush 7, 2) := by decide +kernel
theorem dX5_reckon_191 : decode cX5_reckon 191 = .ok (.isub, 1) := by decide +kernel
theorem dX5_reckon_192 : decode cX5_reckon 192 = .ok (.iaload, 1) := by decide +kernel
theorem dX5_reckon_193 : decode cX5_reckon 193 = .ok (.iadd, 1) := by decide +kernel
theorem dX5_reckon_194 : decode cX5_reckon 194 = .ok (.iload 5, 2) := by decide +kernel
theorem dX5_reckon_196 : decode cX5_reckon 196 = .ok (.bipush 7, 2) := by decide +kernel
theorem dX5_reckon_198 : decode cX5_reckon 198 = .ok (.invokestatic 164, 3) := by decide +kernel
theorem dX5_reckon_201 : decode cX5_reckon 201 = .ok (.iload 5, 2) := by decide +kernel
theorem dX5_reckon_203 : decode cX5_reckon 203 = .ok (.bipush 18, 2) := by decide +kernel
theorem dX5_reckon_205 : decode cX5_reckon 205 = .ok (.invokestatic 164, 3) := by decide +kernel
theorem dX5_reckon_208 : decode cX5_reckon 208 = .ok (.ixor, 1) := by decide +kernel
theorem dX5_reckon_209 : decode cX5_reckon 209 = .ok (.iload 5, 2) := by decide +kernel
theorem dX5_reckon_211 : decode cX5_reckon 211 = .ok (.iconst 3, 1) := by decide +kernel
theorem dX5_reckon_212 : decode cX5_reckon 212 = .ok (.iushr, 1) := by decide +kernel
theorem dX5_reckon_213 : decode cX5_reckon 213 = .ok (.ixor, 1) := by decide +kernel
theorem dX5_reckon_214 : decode cX5_reckon 214 = .ok (.iadd, 1) := by decide +kernel
theorem dX5_reckon_215 : decode cX5_reckon 215 = .ok (.iload 6, 2) := by decide +kernel
theorem dX5_reckon_217 : decode cX5_reckon 217 = .ok (.bipush 17, 2) := by decide +kernel
theorem dX5_reckon_219 : decode cX5_reckon 219 = .ok (.invokestatic 164, 3) := by decide +kernel
theorem dX5_reckon_222 : decode cX5_reckon 222 = .ok (.iload 6, 2) := by decide +kernel
theorem dX5_reckon_224 : decode cX5_reckon 224 = .ok (.bipush 19, 2) := by decide +kernel
theorem dX5_reckon_226 : decode cX5_reckon 226 = .ok (.invokestatic 164, 3) := by decide +kernel
theorem dX5_reckon_229 : decode cX5_reckon 229 = .ok (.ixor, 1) := by decide +kernel
theorem dX5_reckon_230 : decode cX5_reckon 230 = .ok (.iload 6, 2) := by decide +kernel
theorem dX5_reckon_232 : decode cX5_reckon 232 = .ok (.bipush 10, 2) := by decide +kernel
theorem dX5_reckon_234 : decode cX5_reckon 234 = .ok (.iushr, 1) := by decide +kernel
theorem dX5_reckon_235 : decode cX5_reckon 235 = .ok (.ixor, 1) := by decide +kernel
theorem dX5_reckon_236 : decode cX5_reckon 236 = .ok (.iadd, 1) := by decide +kernel
theorem dX5_reckon_237 : decode cX5_reckon 237 = .ok (.iastore, 1) := by decide +kernel
theorem dX5_reckon_238 : decode cX5_reckon 238 = .ok (.iinc 4 1, 3) := by decide +kernel
theorem dX5_reckon_241 : decode cX5_reckon 241 = .ok (.goto (-104), 3) := by decide +kernel
theorem dX5_reckon_244 : decode cX5_reckon 244 = .ok (.aload_n 0, 1) := by decide +kernel
theorem dX5_reckon_245 : decode cX5_reckon 245 = .ok (.invokevirtual 168, 3) := by decide +kernel
theorem dX5_reckon_248 : decode cX5_reckon 248 = .ok (.iinc 3 64, 3) := by decide +kernel
theorem dX5_reckon_251 : decode cX5_reckon 251 = .ok (.goto (-204), 3) := by decide +kernel
theorem dX5_reckon_254 : decode cX5_reckon 254 = .ok (.aload_n 0, 1) := by decide +kernel
theorem dX5_reckon_255 : decode cX5_reckon 255 = .ok (.getfield 78, 3) := by decide +kernel
theorem dX5_reckon_258 : decode cX5_reckon 258 = .ok (.iconst 0, 1) := by decide +kernel
theorem dX5_reckon_259 : decode cX5_reckon 259 = .ok (.aload_n 0, 1) := by decide +kernel
theorem dX5_reckon_260 : decode cX5_reckon 260 = .ok (.getfield 29, 3) := by decide +kernel
theorem dX5_reckon_263 : decode cX5_reckon 263 = .ok (.bipush 8, 2) := by decide +kernel
theorem dX5_reckon_265 : decode cX5_reckon 265 = .ok (.iload_n 1, 1) := by decide +kernel
theorem dX5_reckon_266 : decode cX5_reckon 266 = .ok (.imul, 1) := by decide +kernel
theorem dX5_reckon_267 : decode cX5_reckon 267 = .ok (.bipush 8, 2) := by decide +kernel
theorem dX5_reckon_269 : decode cX5_reckon 269 = .ok (.invokestatic 131, 3) := by decide +kernel
theorem dX5_reckon_272 : decode cX5_reckon 272 = .ok (.return_, 1) := by decide +kernel
theorem dX5_block_0 : decode cX5_block 0 = .ok (.aload_n 0, 1) := by decide +kernel
theorem dX5_block_1 : decode cX5_block 1 = .ok (.getfield 78, 3) := by decide +kernel
theorem dX5_block_4 : decode cX5_block 4 = .ok (.iconst 0, 1) := by decide +kernel
theorem dX5_block_5 : decode cX5_block 5 = .ok (.aload_n 0, 1) := by decide +kernel
theorem dX5_block_6 : decode cX5_block 6 = .ok (.getfield 81, 3) := by decide +kernel
theorem dX5_block_9 : decode cX5_block 9 = .ok (.iconst 0, 1) := by decide +kernel
theorem dX5_block_10 : decode cX5_block 10 = .ok (.bipush 8, 2) := by decide +kernel
theorem dX5_block_12 : decode cX5_block 12 = .ok (.invokestatic 131, 3) := by decide +kernel
theorem dX5_block_15 : decode cX5_block 15 = .ok (.iconst 0, 1) := by decide +kernel
theorem dX5_block_16 : decode cX5_block 16 = .ok (.istore_n 1, 1) := by decide +kernel
theorem dX5_block_17 : decode cX5_block 17 = .ok (.iload_n 1, 1) := by decide +kernel
theorem dX5_block_18 : decode cX5_block 18 = .ok (.bipush 64, 2) := by decide +kernel
theorem dX5_block_20 : decode cX5_block 20 = .ok (.if_icmp .ge 223, 3) := by decide +kernel
theorem dX5_block_23 : decode cX5_block 23 = .ok (.aload_n 0, 1) := by decide +kernel
theorem dX5_block_24 : decode cX5_block 24 = .ok (.getfield 81, 3) := by decide +kernel
theorem dX5_block_27 : decode cX5_block 27 = .ok (.iload_n 1, 1) := by decide +kernel
theorem dX5_block_28 : decode cX5_block 28 = .ok (.ineg, 1) := by decide +kernel
theorem dX5_block_29 : decode cX5_block 29 = .ok (.bipush 7, 2) := by decide +kernel
theorem dX5_block_31 : decode cX5_block 31 = .ok (.iand, 1) := by decide +kernel
theorem dX5_block_32 : decode cX5_block 32 = .ok (.iaload, 1) := by decide +kernel
theorem dX5_block_33 : decode cX5_block 33 = .ok (.istore_n 2, 1) := by decide +kernel
theorem dX5_block_34 : decode cX5_block 34 = .ok (.aload_n 0, 1) := by decide +kernel
theorem dX5_block_35 : decode cX5_block 35 = .ok (.getfield 81, 3) := by decide +kernel
theorem dX5_block_38 : decode cX5_block 38 = .ok (.iconst 1, 1) := by decide +kernel
theorem dX5_block_39 : decode cX5_block 39 = .ok (.iload_n 1, 1) := by decide +kernel
theorem dX5_block_40 : decode cX5_block 40 = .ok (.isub, 1) := by decide +kernel
theorem dX5_block_41 : decode cX5_block 41 = .ok (.bipush 7, 2) := by decide +kernel
theorem dX5_block_43 : decode cX5_block 43 = .ok (.iand, 1) := by decide +kernel
theorem dX5_block_44 : decode cX5_block 44 = .ok (.iaload, 1) := by decide +kernel
theorem dX5_block_45 : decode cX5_block 45 = .ok (.istore_n 3, 1) := by decide +kernel
theorem dX5_block_46 : decode cX5_block 46 = .ok (.aload_n 0, 1) := by decide +kernel
theorem dX5_block_47 : decode cX5_block 47 = .ok (.getfield 81, 3) := by decide +kernel
theorem dX5_block_50 : decode cX5_block 50 = .ok (.iconst 2, 1) := by decide +kernel
theorem dX5_block_51 : decode cX5_block 51 = .ok (.iload_n 1, 1) := by decide +kernel
theorem dX5_block_52 : decode cX5_block 52 = .ok (.isub, 1) := by decide +kernel
theorem dX5_block_53 : decode cX5_block 53 = .ok (.bipush 7, 2) := by decide +kernel
theorem dX5_block_55 : decode cX5_block 55 = .ok (.iand, 1) := by decide +kernel
theorem dX5_block_56 : decode cX5_block 56 = .ok (.iaload, 1) := by decide +kernel
theorem dX5_block_57 : decode cX5_block 57 = .ok (.istore 4, 2) := by decide +kernel
theorem dX5_block_59 : decode cX5_block 59 = .ok (.aload_n 0, 1) := by decide +kernel
theorem dX5_block_60 : decode cX5_block 60 = .ok (.getfield 81, 3) := by decide +kernel
theorem dX5_block_63 : decode cX5_block 63 = .ok (.iconst 4, 1) := by decide +kernel
theorem dX5_block_64 : decode cX5_block 64 = .ok (.iload_n 1, 1) := by decide +kernel
theorem dX5_block_65 : decode cX5_block 65 = .ok (.isub, 1) := by decide +kernel
theorem dX5_block_66 : decode cX5_block 66 = .ok (.bipush 7, 2) := by decide +kernel
theorem dX5_block_68 : decode cX5_block 68 = .ok (.iand, 1) := by decide +kernel
theorem dX5_block_69 : decode cX5_block 69 = .ok (.iaload, 1) := by decide +kernel
theorem dX5_block_70 : decode cX5_block 70 = .ok (.istore 5, 2) := by decide +kernel
theorem dX5_block_72 : decode cX5_block 72 = .ok (.aload_n 0, 1) := by decide +kernel
theorem dX5_block_73 : decode cX5_block 73 = .ok (.getfield 81, 3) := by decide +kernel
theorem dX5_block_76 : decode cX5_block 76 = .ok (.iconst 5, 1) := by decide +kernel
theorem dX5_block_77 : decode cX5_block 77 = .ok (.iload_n 1, 1) := by decide +kernel
theorem dX5_block_78 : decode cX5_block 78 = .ok (.isub, 1) := by decide +kernel
theorem dX5_block_79 : decode cX5_block 79 = .ok (.bipush 7, 2) := by decide +kernel
theorem dX5_block_81 : decode cX5_block 81 = .ok (.iand, 1) := by decide +kernel
theorem dX5_block_82 : decode cX5_block 82 = .ok (.iaload, 1) := by decide +kernel
theorem dX5_block_83 : decode cX5_block 83 = .ok (.istore 6, 2) := by decide +kernel
theorem dX5_block_85 : decode cX5_block 85 = .ok (.aload_n 0, 1) := by decide +kernel
theorem dX5_block_86 : decode cX5_block 86 = .ok (.getfield 81, 3) := by decide +kernel
theorem dX5_block_89 : decode cX5_block 89 = .ok (.bipush 6, 2) := by decide +kernel
theorem dX5_block_91 : decode cX5_block 91 = .ok (.iload_n 1, 1) := by decide +kernel
theorem dX5_block_92 : decode cX5_block 92 = .ok (.isub, 1) := by decide +kernel
theorem dX5_block_93 : decode cX5_block 93 = .ok (.bipush 7, 2) := by decide +kernel
theorem dX5_block_95 : decode cX5_block 95 = .ok (.iand, 1) := by decide +kernel
theorem dX5_block_96 : decode cX5_block 96 = .ok (.iaload, 1) := by decide +kernel
theorem dX5_block_97 : decode cX5_block 97 = .ok (.istore 7, 2) := by decide +kernel
theorem dX5_block_99 : decode cX5_block 99 = .ok (.aload_n 0, 1) := by decide +kernel
theorem dX5_block_100 : decode cX5_block 100 = .ok (.getfield 81, 3) := by decide +kernel
theorem dX5_block_103 : decode cX5_block 103 = .ok (.bipush 7, 2) := by decide +kernel
theorem dX5_block_105 : decode cX5_block 105 = .ok (.iload_n 1, 1) := by decide +kernel
theorem dX5_block_106 : decode cX5_block 106 = .ok (.isub, 1) := by decide +kernel
theorem dX5_block_107 : decode cX5_block 107 = .ok (.bipush 7, 2) := by decide +kernel
theorem dX5_block_109 : decode cX5_block 109 = .ok (.iand, 1) := by decide +kernel
theorem dX5_block_110 : decode cX5_block 110 = .ok (.iaload, 1) := by decide +kernel
theorem dX5_block_111 : decode cX5_block 111 = .ok (.istore 8, 2) := by decide +kernel
theorem dX5_block_113 : decode cX5_block 113 = .ok (.iload 8, 2) := by decide +kernel
theorem dX5_block_115 : decode cX5_block 115 = .ok (.iload 5, 2) := by decide +kernel
theorem dX5_block_117 : decode cX5_block 117 = .ok (.bipush 6, 2) := by decide +kernel
theorem dX5_block_119 : decode cX5_block 119 = .ok (.invokestatic 164, 3) := by decide +kernel
theorem dX5_block_122 : decode cX5_block 122 = .ok (.iload 5, 2) := by decide +kernel
theorem dX5_block_124 : decode cX5_block 124 = .ok (.bipush 11, 2) := by decide +kernel
theorem dX5_block_126 : decode cX5_block 126 = .ok (.invokestatic 164, 3) := by decide +kernel
theorem dX5_block_129 : decode cX5_block 129 = .ok (.ixor, 1) := by decide +kernel
theorem dX5_block_130 : decode cX5_block 130 = .ok (.iload 5, 2) := by decide +kernel
theorem dX5_block_132 : decode cX5_block 132 = .ok (.bipush 25, 2) := by decide +kernel
theorem dX5_block_134 : decode cX5_block 134 = .ok (.invokestatic 164, 3) := by decide +kernel
theorem dX5_block_137 : decode cX5_block 137 = .ok (.ixor, 1) := by decide +kernel
theorem dX5_block_138 : decode cX5_block 138 = .ok (.iadd, 1) := by decide +kernel
theorem dX5_block_139 : decode cX5_block 139 = .ok (.iload 5, 2) := by decide +kernel
theorem dX5_block_141 : decode cX5_block 141 = .ok (.iload 6, 2) := by decide +kernel
theorem dX5_block_143 : decode cX5_block 143 = .ok (.iand, 1) := by decide +kernel
theorem dX5_block_144 : decode cX5_block 144 = .ok (.iload 5, 2) := by decide +kernel
theorem dX5_block_146 : decode cX5_block 146 = .ok (.iconst (-1), 1) := by decide +kernel
theorem dX5_block_147 : decode cX5_block 147 = .ok (.ixor, 1) := by decide +kernel
theorem dX5_block_148 : decode cX5_block 148 = .ok (.iload 7, 2) := by decide +kernel
theorem dX5_block_150 : decode cX5_block 150 = .ok (.iand, 1) := by decide +kernel
theorem dX5_block_151 : decode cX5_block 151 = .ok (.ixor, 1) := by decide +kernel
theorem dX5_block_152 : decode cX5_block 152 = .ok (.iadd, 1) := by decide +kernel
theorem dX5_block_153 : decode cX5_block 153 = .ok (.aload_n 0, 1) := by decide +kernel
theorem dX5_block_154 : decode cX5_block 154 = .ok (.getfield 69, 3) := by decide +kernel
theorem dX5_block_157 : decode cX5_block 157 = .ok (.iload_n 1, 1) := by decide +kernel
theorem dX5_block_158 : decode cX5_block 158 = .ok (.iaload, 1) := by decide +kernel
theorem dX5_block_159 : decode cX5_block 159 = .ok (.iadd, 1) := by decide +kernel
theorem dX5_block_160 : decode cX5_block 160 = .ok (.aload_n 0, 1) := by decide +kernel
theorem dX5_block_161 : decode cX5_block 161 = .ok (.getfield 75, 3) := by decide +kernel
theorem dX5_block_164 : decode cX5_block 164 = .ok (.iload_n 1, 1) := by decide +kernel
theorem dX5_block_165 : decode cX5_block 165 = .ok (.iaload, 1) := by decide +kernel
theorem dX5_block_166 : decode cX5_block 166 = .ok (.iadd, 1) := by decide +kernel
theorem dX5_block_167 : decode cX5_block 167 = .ok (.istore 9, 2) := by decide +kernel
theorem dX5_block_169 : decode cX5_block 169 = .ok (.iload_n 2, 1) := by decide +kernel
theorem dX5_block_170 : decode cX5_block 170 = .ok (.iconst 2, 1) := by decide +kernel
theorem dX5_block_171 : decode cX5_block 171 = .ok (.invokestatic 164, 3) := by decide +kernel
theorem dX5_block_174 : decode cX5_block 174 = .ok (.iload_n 2, 1) := by decide +kernel
theorem dX5_block_175 : decode cX5_block 175 = .ok (.bipush 13, 2) := by decide +kernel
theorem dX5_block_177 : decode cX5_block 177 = .ok (.invokestatic 164, 3) := by decide +kernel
theorem dX5_block_180 : decode cX5_block 180 = .ok (.ixor, 1) := by decide +kernel
theorem dX5_block_181 : decode cX5_block 181 = .ok (.iload_n 2, 1) := by decide +kernel
theorem dX5_block_182 : decode cX5_block 182 = .ok (.bipush 22, 2) := by decide +kernel
theorem dX5_block_184 : decode cX5_block 184 = .ok (.invokestatic 164, 3) := by decide +kernel
theorem dX5_block_187 : decode cX5_block 187 = .ok (.ixor, 1) := by decide +kernel
theorem dX5_block_188 : decode cX5_block 188 = .ok (.iload_n 2, 1) := by decide +kernel
theorem dX5_block_189 : decode cX5_block 189 = .ok (.iload_n 3, 1) := by decide +kernel
theorem dX5_block_190 : decode cX5_block 190 = .ok (.iand, 1) := by decide +kernel
theorem dX5_block_191 : decode cX5_block 191 = .ok (.iload_n 2, 1) := by decide +kernel
theorem dX5_block_192 : decode cX5_block 192 = .ok (.iload 4, 2) := by decide +kernel
theorem dX5_block_194 : decode cX5_block 194 = .ok (.iand, 1) := by decide +kernel
theorem dX5_block_195 : decode cX5_block 195 = .ok (.ixor, 1) := by decide +kernel
theorem dX5_block_196 : decode cX5_block 196 = .ok (.iload_n 3, 1) := by decide +kernel
theorem dX5_block_197 : decode cX5_block 197 = .ok (.iload 4, 2) := by decide +kernel
theorem dX5_block_199 : decode cX5_block 199 = .ok (.iand, 1) := by decide +kernel
theorem dX5_block_200 : decode cX5_block 200 = .ok (.ixor, 1) := by decide +kernel
theorem dX5_block_201 : decode cX5_block 201 = .ok (.iadd, 1) := by decide +kernel
theorem dX5_block_202 : decode cX5_block 202 = .ok (.istore 10, 2) := by decide +kernel
theorem dX5_block_204 : decode cX5_block 204 = .ok (.aload_n 0, 1) := by decide +kernel
theorem dX5_block_205 : decode cX5_block 205 = .ok (.getfield 81, 3) := by decide +kernel
theorem dX5_block_208 : decode cX5_block 208 = .ok (.iconst 3, 1) := by decide +kernel
theorem dX5_block_209 : decode cX5_block 209 = .ok (.iload_n 1, 1) := by decide +kernel
theorem dX5_block_210 : decode cX5_block 210 = .ok (.isub, 1) := by decide +kernel
theorem dX5_block_211 : decode cX5_block 211 = .ok (.bipush 7, 2) := by decide +kernel
theorem dX5_block_213 : decode cX5_block 213 = .ok (.iand, 1) := by decide +kernel
theorem dX5_block_214 : decode cX5_block 214 = .ok (.dup2, 1) := by decide +kernel
theorem dX5_block_215 : decode cX5_block 215 = .ok (.iaload, 1) := by decide +kernel
theorem dX5_block_216 : decode cX5_block 216 = .ok (.iload 9, 2) := by decide +kernel
theorem dX5_block_218 : decode cX5_block 218 = .ok (.iadd, 1) := by decide +kernel
theorem dX5_block_219 : decode cX5_block 219 = .ok (.iastore, 1) := by decide +kernel
theorem dX5_block_220 : decode cX5_block 220 = .ok (.aload_n 0, 1) := by decide +kernel
theorem dX5_block_221 : decode cX5_block 221 = .ok (.getfield 81, 3) := by decide +kernel
theorem dX5_block_224 : decode cX5_block 224 = .ok (.bipush 7, 2) := by decide +kernel
theorem dX5_block_226 : decode cX5_block 226 = .ok (.iload_n 1, 1) := by decide +kernel
theorem dX5_block_227 : decode cX5_block 227 = .ok (.isub, 1) := by decide +kernel
theorem dX5_block_228 : decode cX5_block 228 = .ok (.bipush 7, 2) := by decide +kernel
theorem dX5_block_230 : decode cX5_block 230 = .ok (.iand, 1) := by decide +kernel
theorem dX5_block_231 : decode cX5_block 231 = .ok (.iload 9, 2) := by decide +kernel
theorem dX5_block_233 : decode cX5_block 233 = .ok (.iload 10, 2) := by decide +kernel
theorem dX5_block_235 : decode cX5_block 235 = .ok (.iadd, 1) := by decide +kernel
theorem dX5_block_236 : decode cX5_block 236 = .ok (.iastore, 1) := by decide +kernel
theorem dX5_block_237 : decode cX5_block 237 = .ok (.iinc 1 1, 3) := by decide +kernel
theorem dX5_block_240 : decode cX5_block 240 = .ok (.goto (-223), 3) := by decide +kernel
theorem dX5_block_243 : decode cX5_block 243 = .ok (.iconst 0, 1) := by decide +kernel
theorem dX5_block_244 : decode cX5_block 244 = .ok (.istore_n 1, 1) := by decide +kernel
theorem dX5_block_245 : decode cX5_block 245 = .ok (.iload_n 1, 1) := by decide +kernel
theorem dX5_block_246 : decode cX5_block 246 = .ok (.bipush 8, 2) := by decide +kernel
theorem dX5_block_248 : decode cX5_block 248 = .ok (.if_icmp .ge 24, 3) := by decide +kernel
theorem dX5_block_251 : decode cX5_block 251 = .ok (.aload_n 0, 1) := by decide +kernel
theorem dX5_block_252 : decode cX5_block 252 = .ok (.getfield 78, 3) := by decide +kernel
theorem dX5_block_255 : decode cX5_block 255 = .ok (.iload_n 1, 1) := by decide +kernel
theorem dX5_block_256 : decode cX5_block 256 = .ok (.dup2, 1) := by decide +kernel
theorem dX5_block_257 : decode cX5_block 257 = .ok (.iaload, 1) := by decide +kernel
theorem dX5_block_258 : decode cX5_block 258 = .ok (.aload_n 0, 1) := by decide +kernel
theorem dX5_block_259 : decode cX5_block 259 = .ok (.getfield 81, 3) := by decide +kernel
theorem dX5_block_262 : decode cX5_block 262 = .ok (.iload_n 1, 1) := by decide +kernel
theorem dX5_block_263 : decode cX5_block 263 = .ok (.iaload, 1) := by decide +kernel
theorem dX5_block_264 : decode cX5_block 264 = .ok (.iadd, 1) := by decide +kernel
theorem dX5_block_265 : decode cX5_block 265 = .ok (.iastore, 1) := by decide +kernel
theorem dX5_block_266 : decode cX5_block 266 = .ok (.iinc 1 1, 3) := by decide +kernel
theorem dX5_block_269 : decode cX5_block 269 = .ok (.goto (-24), 3) := by decide +kernel
theorem dX5_block_272 : decode cX5_block 272 = .ok (.return_, 1) := by decide +kernel
theorem dX5_digest_0 : decode cX5_digest 0 = .ok (.aload_n 0, 1) := by decide +kernel
theorem dX5_digest_1 : decode cX5_digest 1 = .ok (.iconst 0, 1) := by decide +kernel
theorem dX5_digest_2 : decode cX5_digest 2 = .ok (.putfield 84, 3) := by decide +kernel
theorem dX5_digest_5 : decode cX5_digest 5 = .ok (.aload_n 0, 1) := by decide +kernel
theorem dX5_digest_6 : decode cX5_digest 6 = .ok (.iload_n 1, 1) := by decide +kernel
theorem dX5_digest_7 : decode cX5_digest 7 = .ok (.invokevirtual 114, 3) := by decide +kernel
theorem dX5_digest_10 : decode cX5_digest 10 = .ok (.ifCond .eq 20, 3) := by decide +kernel
theorem dX5_digest_13 : decode cX5_digest 13 = .ok (.iload_n 2, 1) := by decide +kernel
theorem dX5_digest_14 : decode cX5_digest 14 = .ok (.ifCond .lt 16, 3) := by decide +kernel
theorem dX5_digest_17 : decode cX5_digest 17 = .ok (.iload_n 2, 1) := by decide +kernel
theorem dX5_digest_18 : decode cX5_digest 18 = .ok (.bipush 32, 2) := by decide +kernel
theorem dX5_digest_20 : decode cX5_digest 20 = .ok (.aload_n 0, 1) := by decide +kernel
theorem dX5_digest_21 : decode cX5_digest 21 = .ok (.getfield 35, 3) := by decide +kernel
theorem dX5_digest_24 : decode cX5_digest 24 = .ok (.iload_n 1, 1) := by decide +kernel
theorem dX5_digest_25 : decode cX5_digest 25 = .ok (.iaload, 1) := by decide +kernel
theorem dX5_digest_26 : decode cX5_digest 26 = .ok (.iadd, 1) := by decide +kernel
theorem dX5_digest_27 : decode cX5_digest 27 = .ok (.if_icmp .lt 5, 3) := by decide +kernel
theorem dX5_digest_30 : decode cX5_digest 30 = .ok (.iconst (-1), 1) := by decide +kernel
theorem dX5_digest_31 : decode cX5_digest 31 = .ok (.ireturn, 1) := by decide +kernel
theorem dX5_digest_32 : decode cX5_digest 32 = .ok (.iload_n 2, 1) := by decide +kernel
theorem dX5_digest_33 : decode cX5_digest 33 = .ok (.bipush 32, 2) := by decide +kernel
theorem dX5_digest_35 : decode cX5_digest 35 = .ok (.if_icmp .lt 19, 3) := by decide +kernel
theorem dX5_digest_38 : decode cX5_digest 38 = .ok (.aload_n 0, 1) := by decide +kernel
theorem dX5_digest_39 : decode cX5_digest 39 = .ok (.getfield 38, 3) := by decide +kernel
theorem dX5_digest_42 : decode cX5_digest 42 = .ok (.sipush 200, 3) := by decide +kernel
theorem dX5_digest_45 : decode cX5_digest 45 = .ok (.iload_n 1, 1) := by decide +kernel
theorem dX5_digest_46 : decode cX5_digest 46 = .ok (.imul, 1) := by decide +kernel
theorem dX5_digest_47 : decode cX5_digest 47 = .ok (.iload_n 2, 1) := by decide +kernel
theorem dX5_digest_48 : decode cX5_digest 48 = .ok (.iadd, 1) := by decide +kernel
theorem dX5_digest_49 : decode cX5_digest 49 = .ok (.bipush 32, 2) := by decide +kernel
theorem dX5_digest_51 : decode cX5_digest 51 = .ok (.isub, 1) := by decide +kernel
theorem dX5_digest_52 : decode cX5_digest 52 = .ok (.iaload, 1) := by decide +kernel
theorem dX5_digest_53 : decode cX5_digest 53 = .ok (.ireturn, 1) := by decide +kernel
theorem dX5_digest_54 : decode cX5_digest 54 = .ok (.aload_n 0, 1) := by decide +kernel
theorem dX5_digest_55 : decode cX5_digest 55 = .ok (.getfield 29, 3) := by decide +kernel
theorem dX5_digest_58 : decode cX5_digest 58 = .ok (.bipush 8, 2) := by decide +kernel
theorem dX5_digest_60 : decode cX5_digest 60 = .ok (.iload_n 1, 1) := by decide +kernel
theorem dX5_digest_61 : decode cX5_digest 61 = .ok (.imul, 1) := by decide +kernel
theorem dX5_digest_62 : decode cX5_digest 62 = .ok (.iload_n 2, 1) := by decide +kernel
theorem dX5_digest_63 : decode cX5_digest 63 = .ok (.iconst 4, 1) := by decide +kernel
theorem dX5_digest_64 : decode cX5_digest 64 = .ok (.idiv, 1) := by decide +kernel
theorem dX5_digest_65 : decode cX5_digest 65 = .ok (.iadd, 1) := by decide +kernel
theorem dX5_digest_66 : decode cX5_digest 66 = .ok (.iaload, 1) := by decide +kernel
theorem dX5_digest_67 : decode cX5_digest 67 = .ok (.bipush 24, 2) := by decide +kernel
theorem dX5_digest_69 : decode cX5_digest 69 = .ok (.bipush 8, 2) := by decide +kernel
theorem dX5_digest_71 : decode cX5_digest 71 = .ok (.iload_n 2, 1) := by decide +kernel
theorem dX5_digest_72 : decode cX5_digest 72 = .ok (.iconst 4, 1) := by decide +kernel
theorem dX5_digest_73 : decode cX5_digest 73 = .ok (.irem, 1) := by decide +kernel
theorem dX5_digest_74 : decode cX5_digest 74 = .ok (.imul, 1) := by decide +kernel
theorem dX5_digest_75 : decode cX5_digest 75 = .ok (.isub, 1) := by decide +kernel
theorem dX5_digest_76 : decode cX5_digest 76 = .ok (.iushr, 1) := by decide +kernel
theorem dX5_digest_77 : decode cX5_digest 77 = .ok (.sipush 255, 3) := by decide +kernel
theorem dX5_digest_80 : decode cX5_digest 80 = .ok (.iand, 1) := by decide +kernel
theorem dX5_digest_81 : decode cX5_digest 81 = .ok (.ireturn, 1) := by decide +kernel
theorem dX5_listed_0 : decode cX5_listed 0 = .ok (.aload_n 0, 1) := by decide +kernel
theorem dX5_listed_1 : decode cX5_listed 1 = .ok (.iconst 0, 1) := by decide +kernel
theorem dX5_listed_2 : decode cX5_listed 2 = .ok (.putfield 84, 3) := by decide +kernel
theorem dX5_listed_5 : decode cX5_listed 5 = .ok (.iload_n 1, 1) := by decide +kernel
theorem dX5_listed_6 : decode cX5_listed 6 = .ok (.ifCond .lt 11, 3) := by decide +kernel
theorem dX5_listed_9 : decode cX5_listed 9 = .ok (.iload_n 1, 1) := by decide +kernel
theorem dX5_listed_10 : decode cX5_listed 10 = .ok (.aload_n 0, 1) := by decide +kernel
theorem dX5_listed_11 : decode cX5_listed 11 = .ok (.getfield 137, 3) := by decide +kernel
theorem dX5_listed_14 : decode cX5_listed 14 = .ok (.if_icmp .lt 7, 3) := by decide +kernel
theorem dX5_listed_17 : decode cX5_listed 17 = .ok (.iconst (-1), 1) := by decide +kernel
theorem dX5_listed_18 : decode cX5_listed 18 = .ok (.goto 9, 3) := by decide +kernel
theorem dX5_listed_21 : decode cX5_listed 21 = .ok (.aload_n 0, 1) := by decide +kernel
theorem dX5_listed_22 : decode cX5_listed 22 = .ok (.getfield 63, 3) := by decide +kernel
theorem dX5_listed_25 : decode cX5_listed 25 = .ok (.iload_n 1, 1) := by decide +kernel
theorem dX5_listed_26 : decode cX5_listed 26 = .ok (.iaload, 1) := by decide +kernel
theorem dX5_listed_27 : decode cX5_listed 27 = .ok (.ireturn, 1) := by decide +kernel
theorem dX5_needs_0 : decode cX5_needs 0 = .ok (.aload_n 0, 1) := by decide +kernel
theorem dX5_needs_1 : decode cX5_needs 1 = .ok (.iconst 0, 1) := by decide +kernel
theorem dX5_needs_2 : decode cX5_needs 2 = .ok (.putfield 84, 3) := by decide +kernel
theorem dX5_needs_5 : decode cX5_needs 5 = .ok (.aload_n 0, 1) := by decide +kernel
theorem dX5_needs_6 : decode cX5_needs 6 = .ok (.iload_n 1, 1) := by decide +kernel
theorem dX5_needs_7 : decode cX5_needs 7 = .ok (.invokevirtual 114, 3) := by decide +kernel
theorem dX5_needs_10 : decode cX5_needs 10 = .ok (.ifCond .eq 10, 3) := by decide +kernel
theorem dX5_needs_13 : decode cX5_needs 13 = .ok (.iload_n 2, 1) := by decide +kernel
theorem dX5_needs_14 : decode cX5_needs 14 = .ok (.invokestatic 100, 3) := by decide +kernel
theorem dX5_needs_17 : decode cX5_needs 17 = .ok (.ifCond .ne 5, 3) := by decide +kernel
theorem dX5_needs_20 : decode cX5_needs 20 = .ok (.iconst (-1), 1) := by decide +kernel
theorem dX5_needs_21 : decode cX5_needs 21 = .ok (.ireturn, 1) := by decide +kernel
theorem dX5_needs_22 : decode cX5_needs 22 = .ok (.aload_n 0, 1) := by decide +kernel
theorem dX5_needs_23 : decode cX5_needs 23 = .ok (.getfield 41, 3) := by decide +kernel
theorem dX5_needs_26 : decode cX5_needs 26 = .ok (.iload_n 1, 1) := by decide +kernel
theorem dX5_needs_27 : decode cX5_needs 27 = .ok (.iaload, 1) := by decide +kernel
theorem dX5_needs_28 : decode cX5_needs 28 = .ok (.istore_n 3, 1) := by decide +kernel
theorem dX5_needs_29 : decode cX5_needs 29 = .ok (.iconst 0, 1) := by decide +kernel
theorem dX5_needs_30 : decode cX5_needs 30 = .ok (.istore 4, 2) := by decide +kernel
theorem dX5_needs_32 : decode cX5_needs 32 = .ok (.iload 4, 2) := by decide +kernel
theorem dX5_needs_34 : decode cX5_needs 34 = .ok (.iload_n 3, 1) := by decide +kernel
theorem dX5_needs_35 : decode cX5_needs 35 = .ok (.if_icmp .ge 28, 3) := by decide +kernel
theorem dX5_needs_38 : decode cX5_needs 38 = .ok (.aload_n 0, 1) := by decide +kernel
theorem dX5_needs_39 : decode cX5_needs 39 = .ok (.getfield 44, 3) := by decide +kernel
theorem dX5_needs_42 : decode cX5_needs 42 = .ok (.bipush 10, 2) := by decide +kernel
theorem dX5_needs_44 : decode cX5_needs 44 = .ok (.iload_n 1, 1) := by decide +kernel
theorem dX5_needs_45 : decode cX5_needs 45 = .ok (.imul, 1) := by decide +kernel
theorem dX5_needs_46 : decode cX5_needs 46 = .ok (.iload 4, 2) := by decide +kernel
theorem dX5_needs_48 : decode cX5_needs 48 = .ok (.iadd, 1) := by decide +kernel
theorem dX5_needs_49 : decode cX5_needs 49 = .ok (.iaload, 1) := by decide +kernel
theorem dX5_needs_50 : decode cX5_needs 50 = .ok (.iload_n 2, 1) := by decide +kernel
theorem dX5_needs_51 : decode cX5_needs 51 = .ok (.if_icmp .ne 6, 3) := by decide +kernel
theorem dX5_needs_54 : decode cX5_needs 54 = .ok (.iload 4, 2) := by decide +kernel
theorem dX5_needs_56 : decode cX5_needs 56 = .ok (.ireturn, 1) := by decide +kernel
theorem dX5_needs_57 : decode cX5_needs 57 = .ok (.iinc 4 1, 3) := by decide +kernel
theorem dX5_needs_60 : decode cX5_needs 60 = .ok (.goto (-28), 3) := by decide +kernel
theorem dX5_needs_63 : decode cX5_needs 63 = .ok (.aload_n 0, 1) := by decide +kernel
theorem dX5_needs_64 : decode cX5_needs 64 = .ok (.getfield 44, 3) := by decide +kernel
theorem dX5_needs_67 : decode cX5_needs 67 = .ok (.bipush 10, 2) := by decide +kernel
theorem dX5_needs_69 : decode cX5_needs 69 = .ok (.iload_n 1, 1) := by decide +kernel
theorem dX5_needs_70 : decode cX5_needs 70 = .ok (.imul, 1) := by decide +kernel
theorem dX5_needs_71 : decode cX5_needs 71 = .ok (.iload_n 3, 1) := by decide +kernel
theorem dX5_needs_72 : decode cX5_needs 72 = .ok (.iadd, 1) := by decide +kernel
theorem dX5_needs_73 : decode cX5_needs 73 = .ok (.iload_n 2, 1) := by decide +kernel
theorem dX5_needs_74 : decode cX5_needs 74 = .ok (.iastore, 1) := by decide +kernel
theorem dX5_needs_75 : decode cX5_needs 75 = .ok (.aload_n 0, 1) := by decide +kernel
theorem dX5_needs_76 : decode cX5_needs 76 = .ok (.getfield 41, 3) := by decide +kernel
theorem dX5_needs_79 : decode cX5_needs 79 = .ok (.iload_n 1, 1) := by decide +kernel
theorem dX5_needs_80 : decode cX5_needs 80 = .ok (.dup2, 1) := by decide +kernel
theorem dX5_needs_81 : decode cX5_needs 81 = .ok (.iaload, 1) := by decide +kernel
theorem dX5_needs_82 : decode cX5_needs 82 = .ok (.iconst 1, 1) := by decide +kernel
theorem dX5_needs_83 : decode cX5_needs 83 = .ok (.iadd, 1) := by decide +kernel
theorem dX5_needs_84 : decode cX5_needs 84 = .ok (.iastore, 1) := by decide +kernel
theorem dX5_needs_85 : decode cX5_needs 85 = .ok (.iload_n 3, 1) := by decide +kernel
theorem dX5_needs_86 : decode cX5_needs 86 = .ok (.ireturn, 1) := by decide +kernel
end
section
theorem dL_sign_0 : decode cL_sign 0 = .ok (.aload 6, 2) := by decide +kernel
theorem dL_sign_2 : decode cL_sign 2 = .ok (.iconst 0, 1) := by decide +kernel
theorem dL_sign_3 : decode cL_sign 3 = .ok (.aload_n 0, 1) := by decide +kernel
theorem dL_sign_4 : decode cL_sign 4 = .ok (.iload_n 1, 1) := by decide +kernel
theorem dL_sign_5 : decode cL_sign 5 = .ok (.iload_n 2, 1) := by decide +kernel
theorem dL_sign_6 : decode cL_sign 6 = .ok (.iload_n 3, 1) := by decide +kernel
theorem dL_sign_7 : decode cL_sign 7 = .ok (.lload 4, 2) := by decide +kernel
theorem dL_sign_9 : decode cL_sign 9 = .ok (.invokevirtual 7, 3) := by decide +kernel
theorem dL_sign_12 : decode cL_sign 12 = .ok (.i2l, 1) := by decide +kernel
theorem dL_sign_13 : decode cL_sign 13 = .ok (.lastore, 1) := by decide +kernel
theorem dL_sign_14 : decode cL_sign 14 = .ok (.goto 7, 3) := by decide +kernel
theorem dL_sign_17 : decode cL_sign 17 = .ok (.astore 7, 2) := by decide +kernel
theorem dL_sign_19 : decode cL_sign 19 = .ok (.iconst 1, 1) := by decide +kernel
theorem dL_sign_20 : decode cL_sign 20 = .ok (.ireturn, 1) := by decide +kernel
theorem dL_sign_21 : decode cL_sign 21 = .ok (.iconst 0, 1) := by decide +kernel
theorem dL_sign_22 : decode cL_sign 22 = .ok (.ireturn, 1) := by decide +kernel
theorem dL_law_0 : decode cL_law 0 = .ok (.new 8, 3) := by decide +kernel
theorem dL_law_3 : decode cL_law 3 = .ok (.dup, 1) := by decide +kernel
theorem dL_law_4 : decode cL_law 4 = .ok (.invokespecial 15, 3) := by decide +kernel
theorem dL_law_7 : decode cL_law 7 = .ok (.astore_n 1, 1) := by decide +kernel
theorem dL_law_8 : decode cL_law 8 = .ok (.new 16, 3) := by decide +kernel
theorem dL_law_11 : decode cL_law 11 = .ok (.dup, 1) := by decide +kernel
theorem dL_law_12 : decode cL_law 12 = .ok (.invokespecial 18, 3) := by decide +kernel
theorem dL_law_15 : decode cL_law 15 = .ok (.astore_n 2, 1) := by decide +kernel
theorem dL_law_16 : decode cL_law 16 = .ok (.iconst 1, 1) := by decide +kernel
theorem dL_law_17 : decode cL_law 17 = .ok (.newarray .long, 2) := by decide +kernel
theorem dL_law_19 : decode cL_law 19 = .ok (.astore_n 3, 1) := by decide +kernel
theorem dL_law_20 : decode cL_law 20 = .ok (.iconst 0, 1) := by decide +kernel
theorem dL_law_21 : decode cL_law 21 = .ok (.istore 4, 2) := by decide +kernel
theorem dL_law_23 : decode cL_law 23 = .ok (.iload 4, 2) := by decide +kernel
theorem dL_law_25 : decode cL_law 25 = .ok (.aload_n 0, 1) := by decide +kernel
theorem dL_law_26 : decode cL_law 26 = .ok (.arraylength, 1) := by decide +kernel
theorem dL_law_27 : decode cL_law 27 = .ok (.bipush 7, 2) := by decide +kernel
theorem dL_law_29 : decode cL_law 29 = .ok (.isub, 1) := by decide +kernel
theorem dL_law_30 : decode cL_law 30 = .ok (.if_icmp .gt 702, 3) := by decide +kernel
theorem dL_law_33 : decode cL_law 33 = .ok (.aload_n 0, 1) := by decide +kernel
theorem dL_law_34 : decode cL_law 34 = .ok (.iload 4, 2) := by decide +kernel
theorem dL_law_36 : decode cL_law 36 = .ok (.iaload, 1) := by decide +kernel
theorem dL_law_37 : decode cL_law 37 = .ok (.bipush 15, 2) := by decide +kernel
theorem dL_law_39 : decode cL_law 39 = .ok (.iand, 1) := by decide +kernel
theorem dL_law_40 : decode cL_law 40 = .ok (.tableswitch 686 0 12 #[68, 81, 208, 233, 270, 394, 419, 444, 481, 506, 587, 624, 649], 68) := by decide +kernel
theorem dL_law_108 : decode cL_law 108 = .ok (.aload_n 1, 1) := by decide +kernel
theorem dL_law_109 : decode cL_law 109 = .ok (.invokevirtual 19, 3) := by decide +kernel
theorem dL_law_112 : decode cL_law 112 = .ok (.aload_n 2, 1) := by decide +kernel
theorem dL_law_113 : decode cL_law 113 = .ok (.invokevirtual 23, 3) := by decide +kernel
theorem dL_law_116 : decode cL_law 116 = .ok (.if_icmp .eq 610, 3) := by decide +kernel
theorem dL_law_119 : decode cL_law 119 = .ok (.iconst 0, 1) := by decide +kernel
theorem dL_law_120 : decode cL_law 120 = .ok (.ireturn, 1) := by decide +kernel
theorem dL_law_121 : decode cL_law 121 = .ok (.aload_n 1, 1) := by decide +kernel
theorem dL_law_122 : decode cL_law 122 = .ok (.aload_n 0, 1) := by decide +kernel
theorem dL_law_123 : decode cL_law 123 = .ok (.iload 4, 2) := by decide +kernel
theorem dL_law_125 : decode cL_law 125 = .ok (.iconst 1, 1) := by decide +kernel
theorem dL_law_126 : decode cL_law 126 = .ok (.iadd, 1) := by decide +kernel
theorem dL_law_127 : decode cL_law 127 = .ok (.iaload, 1) := by decide +kernel
theorem dL_law_128 : decode cL_law 128 = .ok (.aload_n 0, 1) := by decide +kernel
theorem dL_law_129 : decode cL_law 129 = .ok (.iload 4, 2) := by decide +kernel
theorem dL_law_131 : decode cL_law 131 = .ok (.iconst 2, 1) := by decide +kernel
theorem dL_law_132 : decode cL_law 132 = .ok (.iadd, 1) := by decide +kernel
theorem dL_law_133 : decode cL_law 133 = .ok (.iaload, 1) := by decide +kernel
theorem dL_law_134 : decode cL_law 134 = .ok (.aload_n 0, 1) := by decide +kernel
theorem dL_law_135 : decode cL_law 135 = .ok (.iload 4, 2) := by decide +kernel
theorem dL_law_137 : decode cL_law 137 = .ok (.iconst 3, 1) := by decide +kernel
theorem dL_law_138 : decode cL_law 138 = .ok (.iadd, 1) := by decide +kernel
theorem dL_law_139 : decode cL_law 139 = .ok (.iaload, 1) := by decide +kernel
theorem dL_law_140 : decode cL_law 140 = .ok (.i2l, 1) := by decide +kernel
theorem dL_law_141 : decode cL_law 141 = .ok (.bipush 32, 2) := by decide +kernel
theorem dL_law_143 : decode cL_law 143 = .ok (.lshl, 1) := by decide +kernel
theorem dL_law_144 : decode cL_law 144 = .ok (.aload_n 0, 1) := by decide +kernel
theorem dL_law_145 : decode cL_law 145 = .ok (.iload 4, 2) := by decide +kernel
theorem dL_law_147 : decode cL_law 147 = .ok (.iconst 4, 1) := by decide +kernel
theorem dL_law_148 : decode cL_law 148 = .ok (.iadd, 1) := by decide +kernel
theorem dL_law_149 : decode cL_law 149 = .ok (.iaload, 1) := by decide +kernel
theorem dL_law_150 : decode cL_law 150 = .ok (.i2l, 1) := by decide +kernel
theorem dL_law_151 : decode cL_law 151 = .ok (.ldc2_w 24, 3) := by decide +kernel
theorem dL_law_154 : decode cL_law 154 = .ok (.land, 1) := by decide +kernel
theorem dL_law_155 : decode cL_law 155 = .ok (.lor, 1) := by decide +kernel
theorem dL_law_156 : decode cL_law 156 = .ok (.aload_n 0, 1) := by decide +kernel
theorem dL_law_157 : decode cL_law 157 = .ok (.iload 4, 2) := by decide +kernel
theorem dL_law_159 : decode cL_law 159 = .ok (.iconst 5, 1) := by decide +kernel
theorem dL_law_160 : decode cL_law 160 = .ok (.iadd, 1) := by decide +kernel
theorem dL_law_161 : decode cL_law 161 = .ok (.iaload, 1) := by decide +kernel
theorem dL_law_162 : decode cL_law 162 = .ok (.i2l, 1) := by decide +kernel
theorem dL_law_163 : decode cL_law 163 = .ok (.bipush 32, 2) := by decide +kernel
theorem dL_law_165 : decode cL_law 165 = .ok (.lshl, 1) := by decide +kernel
theorem dL_law_166 : decode cL_law 166 = .ok (.aload_n 0, 1) := by decide +kernel
theorem dL_law_167 : decode cL_law 167 = .ok (.iload 4, 2) := by decide +kernel
theorem dL_law_169 : decode cL_law 169 = .ok (.bipush 6, 2) := by decide +kernel
theorem dL_law_171 : decode cL_law 171 = .ok (.iadd, 1) := by decide +kernel
theorem dL_law_172 : decode cL_law 172 = .ok (.iaload, 1) := by decide +kernel
theorem dL_law_173 : decode cL_law 173 = .ok (.i2l, 1) := by decide +kernel
theorem dL_law_174 : decode cL_law 174 = .ok (.ldc2_w 24, 3) := by decide +kernel
theorem dL_law_177 : decode cL_law 177 = .ok (.land, 1) := by decide +kernel
theorem dL_law_178 : decode cL_law 178 = .ok (.lor, 1) := by decide +kernel
theorem dL_law_179 : decode cL_law 179 = .ok (.invokevirtual 26, 3) := by decide +kernel
theorem dL_law_182 : decode cL_law 182 = .ok (.aload_n 2, 1) := by decide +kernel
theorem dL_law_183 : decode cL_law 183 = .ok (.aload_n 0, 1) := by decide +kernel
theorem dL_law_184 : decode cL_law 184 = .ok (.iload 4, 2) := by decide +kernel
theorem dL_law_186 : decode cL_law 186 = .ok (.iconst 1, 1) := by decide +kernel
theorem dL_law_187 : decode cL_law 187 = .ok (.iadd, 1) := by decide +kernel
theorem dL_law_188 : decode cL_law 188 = .ok (.iaload, 1) := by decide +kernel
theorem dL_law_189 : decode cL_law 189 = .ok (.aload_n 0, 1) := by decide +kernel
theorem dL_law_190 : decode cL_law 190 = .ok (.iload 4, 2) := by decide +kernel
theorem dL_law_192 : decode cL_law 192 = .ok (.iconst 2, 1) := by decide +kernel
theorem dL_law_193 : decode cL_law 193 = .ok (.iadd, 1) := by decide +kernel
theorem dL_law_194 : decode cL_law 194 = .ok (.iaload, 1) := by decide +kernel
theorem dL_law_195 : decode cL_law 195 = .ok (.aload_n 0, 1) := by decide +kernel
theorem dL_law_196 : decode cL_law 196 = .ok (.iload 4, 2) := by decide +kernel
theorem dL_law_198 : decode cL_law 198 = .ok (.iconst 3, 1) := by decide +kernel
theorem dL_law_199 : decode cL_law 199 = .ok (.iadd, 1) := by decide +kernel
theorem dL_law_200 : decode cL_law 200 = .ok (.iaload, 1) := by decide +kernel
theorem dL_law_201 : decode cL_law 201 = .ok (.i2l, 1) := by decide +kernel
theorem dL_law_202 : decode cL_law 202 = .ok (.bipush 32, 2) := by decide +kernel
theorem dL_law_204 : decode cL_law 204 = .ok (.lshl, 1) := by decide +kernel
theorem dL_law_205 : decode cL_law 205 = .ok (.aload_n 0, 1) := by decide +kernel
theorem dL_law_206 : decode cL_law 206 = .ok (.iload 4, 2) := by decide +kernel
theorem dL_law_208 : decode cL_law 208 = .ok (.iconst 4, 1) := by decide +kernel
theorem dL_law_209 : decode cL_law 209 = .ok (.iadd, 1) := by decide +kernel
theorem dL_law_210 : decode cL_law 210 = .ok (.iaload, 1) := by decide +kernel
theorem dL_law_211 : decode cL_law 211 = .ok (.i2l, 1) := by decide +kernel
theorem dL_law_212 : decode cL_law 212 = .ok (.ldc2_w 24, 3) := by decide +kernel
theorem dL_law_215 : decode cL_law 215 = .ok (.land, 1) := by decide +kernel
theorem dL_law_216 : decode cL_law 216 = .ok (.lor, 1) := by decide +kernel
theorem dL_law_217 : decode cL_law 217 = .ok (.aload_n 0, 1) := by decide +kernel
theorem dL_law_218 : decode cL_law 218 = .ok (.iload 4, 2) := by decide +kernel
theorem dL_law_220 : decode cL_law 220 = .ok (.iconst 5, 1) := by decide +kernel
theorem dL_law_221 : decode cL_law 221 = .ok (.iadd, 1) := by decide +kernel
theorem dL_law_222 : decode cL_law 222 = .ok (.iaload, 1) := by decide +kernel
theorem dL_law_223 : decode cL_law 223 = .ok (.i2l, 1) := by decide +kernel
theorem dL_law_224 : decode cL_law 224 = .ok (.bipush 32, 2) := by decide +kernel
theorem dL_law_226 : decode cL_law 226 = .ok (.lshl, 1) := by decide +kernel
theorem dL_law_227 : decode cL_law 227 = .ok (.aload_n 0, 1) := by decide +kernel
theorem dL_law_228 : decode cL_law 228 = .ok (.iload 4, 2) := by decide +kernel
theorem dL_law_230 : decode cL_law 230 = .ok (.bipush 6, 2) := by decide +kernel
theorem dL_law_232 : decode cL_law 232 = .ok (.iadd, 1) := by decide +kernel
theorem dL_law_233 : decode cL_law 233 = .ok (.iaload, 1) := by decide +kernel
theorem dL_law_234 : decode cL_law 234 = .ok (.i2l, 1) := by decide +kernel
theorem dL_law_235 : decode cL_law 235 = .ok (.ldc2_w 24, 3) := by decide +kernel
theorem dL_law_238 : decode cL_law 238 = .ok (.land, 1) := by decide +kernel
theorem dL_law_239 : decode cL_law 239 = .ok (.lor, 1) := by decide +kernel
theorem dL_law_240 : decode cL_law 240 = .ok (.invokevirtual 30, 3) := by decide +kernel
theorem dL_law_243 : decode cL_law 243 = .ok (.if_icmp .eq 483, 3) := by decide +kernel
theorem dL_law_246 : decode cL_law 246 = .ok (.iconst 0, 1) := by decide +kernel
theorem dL_law_247 : decode cL_law 247 = .ok (.ireturn, 1) := by decide +kernel
theorem dL_law_248 : decode cL_law 248 = .ok (.aload_n 1, 1) := by decide +kernel
theorem dL_law_249 : decode cL_law 249 = .ok (.aload_n 0, 1) := by decide +kernel
theorem dL_law_250 : decode cL_law 250 = .ok (.iload 4, 2) := by decide +kernel
theorem dL_law_252 : decode cL_law 252 = .ok (.iconst 1, 1) := by decide +kernel
theorem dL_law_253 : decode cL_law 253 = .ok (.iadd, 1) := by decide +kernel
theorem dL_law_254 : decode cL_law 254 = .ok (.iaload, 1) := by decide +kernel
theorem dL_law_255 : decode cL_law 255 = .ok (.invokevirtual 31, 3) := by decide +kernel
theorem dL_law_258 : decode cL_law 258 = .ok (.aload_n 2, 1) := by decide +kernel
theorem dL_law_259 : decode cL_law 259 = .ok (.aload_n 0, 1) := by decide +kernel
theorem dL_law_260 : decode cL_law 260 = .ok (.iload 4, 2) := by decide +kernel
theorem dL_law_262 : decode cL_law 262 = .ok (.iconst 1, 1) := by decide +kernel
theorem dL_law_263 : decode cL_law 263 = .ok (.iadd, 1) := by decide +kernel
theorem dL_law_264 : decode cL_law 264 = .ok (.iaload, 1) := by decide +kernel
theorem dL_law_265 : decode cL_law 265 = .ok (.invokevirtual 35, 3) := by decide +kernel
theorem dL_law_268 : decode cL_law 268 = .ok (.if_icmp .eq 458, 3) := by decide +kernel
theorem dL_law_271 : decode cL_law 271 = .ok (.iconst 0, 1) := by decide +kernel
theorem dL_law_272 : decode cL_law 272 = .ok (.ireturn, 1) := by decide +kernel
theorem dL_law_273 : decode cL_law 273 = .ok (.aload_n 1, 1) := by decide +kernel
theorem dL_law_274 : decode cL_law 274 = .ok (.aload_n 0, 1) := by decide +kernel
theorem dL_law_275 : decode cL_law 275 = .ok (.iload 4, 2) := by decide +kernel
theorem dL_law_277 : decode cL_law 277 = .ok (.iconst 1, 1) := by decide +kernel
theorem dL_law_278 : decode cL_law 278 = .ok (.iadd, 1) := by decide +kernel
theorem dL_law_279 : decode cL_law 279 = .ok (.iaload, 1) := by decide +kernel
theorem dL_law_280 : decode cL_law 280 = .ok (.aload_n 0, 1) := by decide +kernel
theorem dL_law_281 : decode cL_law 281 = .ok (.iload 4, 2) := by decide +kernel
theorem dL_law_283 : decode cL_law 283 = .ok (.iconst 2, 1) := by decide +kernel
theorem dL_law_284 : decode cL_law 284 = .ok (.iadd, 1) := by decide +kernel
theorem dL_law_285 : decode cL_law 285 = .ok (.iaload, 1) := by decide +kernel
theorem dL_law_286 : decode cL_law 286 = .ok (.invokevirtual 36, 3) := by decide +kernel
theorem dL_law_289 : decode cL_law 289 = .ok (.aload_n 2, 1) := by decide +kernel
theorem dL_law_290 : decode cL_law 290 = .ok (.aload_n 0, 1) := by decide +kernel
theorem dL_law_291 : decode cL_law 291 = .ok (.iload 4, 2) := by decide +kernel
theorem dL_law_293 : decode cL_law 293 = .ok (.iconst 1, 1) := by decide +kernel
theorem dL_law_294 : decode cL_law 294 = .ok (.iadd, 1) := by decide +kernel
theorem dL_law_295 : decode cL_law 295 = .ok (.iaload, 1) := by decide +kernel
theorem dL_law_296 : decode cL_law 296 = .ok (.aload_n 0, 1) := by decide +kernel
theorem dL_law_297 : decode cL_law 297 = .ok (.iload 4, 2) := by decide +kernel
theorem dL_law_299 : decode cL_law 299 = .ok (.iconst 2, 1) := by decide +kernel
theorem dL_law_300 : decode cL_law 300 = .ok (.iadd, 1) := by decide +kernel
theorem dL_law_301 : decode cL_law 301 = .ok (.iaload, 1) := by decide +kernel
theorem dL_law_302 : decode cL_law 302 = .ok (.invokevirtual 40, 3) := by decide +kernel
theorem dL_law_305 : decode cL_law 305 = .ok (.if_icmp .eq 421, 3) := by decide +kernel
theorem dL_law_308 : decode cL_law 308 = .ok (.iconst 0, 1) := by decide +kernel
theorem dL_law_309 : decode cL_law 309 = .ok (.ireturn, 1) := by decide +kernel
theorem dL_law_310 : decode cL_law 310 = .ok (.aload_n 1, 1) := by decide +kernel
theorem dL_law_311 : decode cL_law 311 = .ok (.aload_n 0, 1) := by decide +kernel
theorem dL_law_312 : decode cL_law 312 = .ok (.iload 4, 2) := by decide +kernel
theorem dL_law_314 : decode cL_law 314 = .ok (.iconst 1, 1) := by decide +kernel
theorem dL_law_315 : decode cL_law 315 = .ok (.iadd, 1) := by decide +kernel
theorem dL_law_316 : decode cL_law 316 = .ok (.iaload, 1) := by decide +kernel
theorem dL_law_317 : decode cL_law 317 = .ok (.aload_n 0, 1) := by decide +kernel
theorem dL_law_318 : decode cL_law 318 = .ok (.iload 4, 2) := by decide +kernel
theorem dL_law_320 : decode cL_law 320 = .ok (.iconst 2, 1) := by decide +kernel
theorem dL_law_321 : decode cL_law 321 = .ok (.iadd, 1) := by decide +kernel
theorem dL_law_322 : decode cL_law 322 = .ok (.iaload, 1) := by decide +kernel
theorem dL_law_323 : decode cL_law 323 = .ok (.aload_n 0, 1) := by decide +kernel
theorem dL_law_324 : decode cL_law 324 = .ok (.iload 4, 2) := by decide +kernel
theorem dL_law_326 : decode cL_law 326 = .ok (.iconst 3, 1) := by decide +kernel
theorem dL_law_327 : decode cL_law 327 = .ok (.iadd, 1) := by decide +kernel
theorem dL_law_328 : decode cL_law 328 = .ok (.iaload, 1) := by decide +kernel
theorem dL_law_329 : decode cL_law 329 = .ok (.aload_n 0, 1) := by decide +kernel
theorem dL_law_330 : decode cL_law 330 = .ok (.iload 4, 2) := by decide +kernel
theorem dL_law_332 : decode cL_law 332 = .ok (.iconst 4, 1) := by decide +kernel
theorem dL_law_333 : decode cL_law 333 = .ok (.iadd, 1) := by decide +kernel
theorem dL_law_334 : decode cL_law 334 = .ok (.iaload, 1) := by decide +kernel
theorem dL_law_335 : decode cL_law 335 = .ok (.i2l, 1) := by decide +kernel
theorem dL_law_336 : decode cL_law 336 = .ok (.bipush 32, 2) := by decide +kernel
theorem dL_law_338 : decode cL_law 338 = .ok (.lshl, 1) := by decide +kernel
theorem dL_law_339 : decode cL_law 339 = .ok (.aload_n 0, 1) := by decide +kernel
theorem dL_law_340 : decode cL_law 340 = .ok (.iload 4, 2) := by decide +kernel
theorem dL_law_342 : decode cL_law 342 = .ok (.iconst 5, 1) := by decide +kernel
theorem dL_law_343 : decode cL_law 343 = .ok (.iadd, 1) := by decide +kernel
theorem dL_law_344 : decode cL_law 344 = .ok (.iaload, 1) := by decide +kernel
theorem dL_law_345 : decode cL_law 345 = .ok (.i2l, 1) := by decide +kernel
theorem dL_law_346 : decode cL_law 346 = .ok (.ldc2_w 24, 3) := by decide +kernel
theorem dL_law_349 : decode cL_law 349 = .ok (.land, 1) := by decide +kernel
theorem dL_law_350 : decode cL_law 350 = .ok (.lor, 1) := by decide +kernel
theorem dL_law_351 : decode cL_law 351 = .ok (.aload_n 3, 1) := by decide +kernel
theorem dL_law_352 : decode cL_law 352 = .ok (.invokestatic 41, 3) := by decide +kernel
theorem dL_law_355 : decode cL_law 355 = .ok (.istore 5, 2) := by decide +kernel
theorem dL_law_357 : decode cL_law 357 = .ok (.aload_n 2, 1) := by decide +kernel
theorem dL_law_358 : decode cL_law 358 = .ok (.aload_n 0, 1) := by decide +kernel
theorem dL_law_359 : decode cL_law 359 = .ok (.iload 4, 2) := by decide +kernel
theorem dL_law_361 : decode cL_law 361 = .ok (.iconst 1, 1) := by decide +kernel
theorem dL_law_362 : decode cL_law 362 = .ok (.iadd, 1) := by decide +kernel
theorem dL_law_363 : decode cL_law 363 = .ok (.iaload, 1) := by decide +kernel
theorem dL_law_364 : decode cL_law 364 = .ok (.aload_n 0, 1) := by decide +kernel
theorem dL_law_365 : decode cL_law 365 = .ok (.iload 4, 2) := by decide +kernel
theorem dL_law_367 : decode cL_law 367 = .ok (.iconst 2, 1) := by decide +kernel
theorem dL_law_368 : decode cL_law 368 = .ok (.iadd, 1) := by decide +kernel
theorem dL_law_369 : decode cL_law 369 = .ok (.iaload, 1) := by decide +kernel
theorem dL_law_370 : decode cL_law 370 = .ok (.aload_n 0, 1) := by decide +kernel
theorem dL_law_371 : decode cL_law 371 = .ok (.iload 4, 2) := by decide +kernel
theorem dL_law_373 : decode cL_law 373 = .ok (.iconst 3, 1) := by decide +kernel
theorem dL_law_374 : decode cL_law 374 = .ok (.iadd, 1) := by decide +kernel
theorem dL_law_375 : decode cL_law 375 = .ok (.iaload, 1) := by decide +kernel
theorem dL_law_376 : decode cL_law 376 = .ok (.aload_n 0, 1) := by decide +kernel
theorem dL_law_377 : decode cL_law 377 = .ok (.iload 4, 2) := by decide +kernel
theorem dL_law_379 : decode cL_law 379 = .ok (.iconst 4, 1) := by decide +kernel
theorem dL_law_380 : decode cL_law 380 = .ok (.iadd, 1) := by decide +kernel
theorem dL_law_381 : decode cL_law 381 = .ok (.iaload, 1) := by decide +kernel
theorem dL_law_382 : decode cL_law 382 = .ok (.i2l, 1) := by decide +kernel
theorem dL_law_383 : decode cL_law 383 = .ok (.bipush 32, 2) := by decide +kernel
theorem dL_law_385 : decode cL_law 385 = .ok (.lshl, 1) := by decide +kernel
theorem dL_law_386 : decode cL_law 386 = .ok (.aload_n 0, 1) := by decide +kernel
theorem dL_law_387 : decode cL_law 387 = .ok (.iload 4, 2) := by decide +kernel
theorem dL_law_389 : decode cL_law 389 = .ok (.iconst 5, 1) := by decide +kernel
theorem dL_law_390 : decode cL_law 390 = .ok (.iadd, 1) := by decide +kernel
theorem dL_law_391 : decode cL_law 391 = .ok (.iaload, 1) := by decide +kernel
theorem dL_law_392 : decode cL_law 392 = .ok (.i2l, 1) := by decide +kernel
theorem dL_law_393 : decode cL_law 393 = .ok (.ldc2_w 24, 3) := by decide +kernel
theorem dL_law_396 : decode cL_law 396 = .ok (.land, 1) := by decide +kernel
theorem dL_law_397 : decode cL_law 397 = .ok (.lor, 1) := by decide +kernel
theorem dL_law_398 : decode cL_law 398 = .ok (.invokevirtual 46, 3) := by decide +kernel
theorem dL_law_401 : decode cL_law 401 = .ok (.istore 6, 2) := by decide +kernel
theorem dL_law_403 : decode cL_law 403 = .ok (.aload_n 2, 1) := by decide +kernel
theorem dL_law_404 : decode cL_law 404 = .ok (.invokevirtual 47, 3) := by decide +kernel
theorem dL_law_407 : decode cL_law 407 = .ok (.iload 5, 2) := by decide +kernel
theorem dL_law_409 : decode cL_law 409 = .ok (.if_icmp .eq 5, 3) := by decide +kernel
theorem dL_law_412 : decode cL_law 412 = .ok (.iconst 0, 1) := by decide +kernel
theorem dL_law_413 : decode cL_law 413 = .ok (.ireturn, 1) := by decide +kernel
theorem dL_law_414 : decode cL_law 414 = .ok (.iload 5, 2) := by decide +kernel
theorem dL_law_416 : decode cL_law 416 = .ok (.ifCond .ne 15, 3) := by decide +kernel
theorem dL_law_419 : decode cL_law 419 = .ok (.aload_n 3, 1) := by decide +kernel
theorem dL_law_420 : decode cL_law 420 = .ok (.iconst 0, 1) := by decide +kernel
theorem dL_law_421 : decode cL_law 421 = .ok (.laload, 1) := by decide +kernel
theorem dL_law_422 : decode cL_law 422 = .ok (.iload 6, 2) := by decide +kernel
theorem dL_law_424 : decode cL_law 424 = .ok (.i2l, 1) := by decide +kernel
theorem dL_law_425 : decode cL_law 425 = .ok (.lcmp, 1) := by decide +kernel
theorem dL_law_426 : decode cL_law 426 = .ok (.ifCond .eq 5, 3) := by decide +kernel
theorem dL_law_429 : decode cL_law 429 = .ok (.iconst 0, 1) := by decide +kernel
theorem dL_law_430 : decode cL_law 430 = .ok (.ireturn, 1) := by decide +kernel
theorem dL_law_431 : decode cL_law 431 = .ok (.goto 295, 3) := by decide +kernel
theorem dL_law_434 : decode cL_law 434 = .ok (.aload_n 1, 1) := by decide +kernel
theorem dL_law_435 : decode cL_law 435 = .ok (.aload_n 0, 1) := by decide +kernel
theorem dL_law_436 : decode cL_law 436 = .ok (.iload 4, 2) := by decide +kernel
theorem dL_law_438 : decode cL_law 438 = .ok (.iconst 1, 1) := by decide +kernel
theorem dL_law_439 : decode cL_law 439 = .ok (.iadd, 1) := by decide +kernel
theorem dL_law_440 : decode cL_law 440 = .ok (.iaload, 1) := by decide +kernel
theorem dL_law_441 : decode cL_law 441 = .ok (.invokevirtual 50, 3) := by decide +kernel
theorem dL_law_444 : decode cL_law 444 = .ok (.aload_n 2, 1) := by decide +kernel
theorem dL_law_445 : decode cL_law 445 = .ok (.aload_n 0, 1) := by decide +kernel
theorem dL_law_446 : decode cL_law 446 = .ok (.iload 4, 2) := by decide +kernel
theorem dL_law_448 : decode cL_law 448 = .ok (.iconst 1, 1) := by decide +kernel
theorem dL_law_449 : decode cL_law 449 = .ok (.iadd, 1) := by decide +kernel
theorem dL_law_450 : decode cL_law 450 = .ok (.iaload, 1) := by decide +kernel
theorem dL_law_451 : decode cL_law 451 = .ok (.invokevirtual 54, 3) := by decide +kernel
theorem dL_law_454 : decode cL_law 454 = .ok (.if_icmp .eq 272, 3) := by decide +kernel
theorem dL_law_457 : decode cL_law 457 = .ok (.iconst 0, 1) := by decide +kernel
theorem dL_law_458 : decode cL_law 458 = .ok (.ireturn, 1) := by decide +kernel
theorem dL_law_459 : decode cL_law 459 = .ok (.aload_n 1, 1) := by decide +kernel
theorem dL_law_460 : decode cL_law 460 = .ok (.aload_n 0, 1) := by decide +kernel
theorem dL_law_461 : decode cL_law 461 = .ok (.iload 4, 2) := by decide +kernel
theorem dL_law_463 : decode cL_law 463 = .ok (.iconst 1, 1) := by decide +kernel
theorem dL_law_464 : decode cL_law 464 = .ok (.iadd, 1) := by decide +kernel
theorem dL_law_465 : decode cL_law 465 = .ok (.iaload, 1) := by decide +kernel
theorem dL_law_466 : decode cL_law 466 = .ok (.invokevirtual 55, 3) := by decide +kernel
theorem dL_law_469 : decode cL_law 469 = .ok (.aload_n 2, 1) := by decide +kernel
theorem dL_law_470 : decode cL_law 470 = .ok (.aload_n 0, 1) := by decide +kernel
theorem dL_law_471 : decode cL_law 471 = .ok (.iload 4, 2) := by decide +kernel
theorem dL_law_473 : decode cL_law 473 = .ok (.iconst 1, 1) := by decide +kernel
theorem dL_law_474 : decode cL_law 474 = .ok (.iadd, 1) := by decide +kernel
theorem dL_law_475 : decode cL_law 475 = .ok (.iaload, 1) := by decide +kernel
theorem dL_law_476 : decode cL_law 476 = .ok (.invokevirtual 58, 3) := by decide +kernel
theorem dL_law_479 : decode cL_law 479 = .ok (.if_icmp .eq 247, 3) := by decide +kernel
theorem dL_law_482 : decode cL_law 482 = .ok (.iconst 0, 1) := by decide +kernel
theorem dL_law_483 : decode cL_law 483 = .ok (.ireturn, 1) := by decide +kernel
theorem dL_law_484 : decode cL_law 484 = .ok (.aload_n 1, 1) := by decide +kernel
theorem dL_law_485 : decode cL_law 485 = .ok (.aload_n 0, 1) := by decide +kernel
theorem dL_law_486 : decode cL_law 486 = .ok (.iload 4, 2) := by decide +kernel
theorem dL_law_488 : decode cL_law 488 = .ok (.iconst 1, 1) := by decide +kernel
theorem dL_law_489 : decode cL_law 489 = .ok (.iadd, 1) := by decide +kernel
theorem dL_law_490 : decode cL_law 490 = .ok (.iaload, 1) := by decide +kernel
theorem dL_law_491 : decode cL_law 491 = .ok (.aload_n 0, 1) := by decide +kernel
theorem dL_law_492 : decode cL_law 492 = .ok (.iload 4, 2) := by decide +kernel
theorem dL_law_494 : decode cL_law 494 = .ok (.iconst 2, 1) := by decide +kernel
theorem dL_law_495 : decode cL_law 495 = .ok (.iadd, 1) := by decide +kernel
theorem dL_law_496 : decode cL_law 496 = .ok (.iaload, 1) := by decide +kernel
theorem dL_law_497 : decode cL_law 497 = .ok (.invokevirtual 59, 3) := by decide +kernel
theorem dL_law_500 : decode cL_law 500 = .ok (.aload_n 2, 1) := by decide +kernel
theorem dL_law_501 : decode cL_law 501 = .ok (.aload_n 0, 1) := by decide +kernel
theorem dL_law_502 : decode cL_law 502 = .ok (.iload 4, 2) := by decide +kernel
theorem dL_law_504 : decode cL_law 504 = .ok (.iconst 1, 1) := by decide +kernel
theorem dL_law_505 : decode cL_law 505 = .ok (.iadd, 1) := by decide +kernel
theorem dL_law_506 : decode cL_law 506 = .ok (.iaload, 1) := by decide +kernel
theorem dL_law_507 : decode cL_law 507 = .ok (.aload_n 0, 1) := by decide +kernel
theorem dL_law_508 : decode cL_law 508 = .ok (.iload 4, 2) := by decide +kernel
theorem dL_law_510 : decode cL_law 510 = .ok (.iconst 2, 1) := by decide +kernel
theorem dL_law_511 : decode cL_law 511 = .ok (.iadd, 1) := by decide +kernel
theorem dL_law_512 : decode cL_law 512 = .ok (.iaload, 1) := by decide +kernel
theorem dL_law_513 : decode cL_law 513 = .ok (.invokevirtual 62, 3) := by decide +kernel
theorem dL_law_516 : decode cL_law 516 = .ok (.if_icmp .eq 210, 3) := by decide +kernel
theorem dL_law_519 : decode cL_law 519 = .ok (.iconst 0, 1) := by decide +kernel
theorem dL_law_520 : decode cL_law 520 = .ok (.ireturn, 1) := by decide +kernel
theorem dL_law_521 : decode cL_law 521 = .ok (.aload_n 1, 1) := by decide +kernel
theorem dL_law_522 : decode cL_law 522 = .ok (.aload_n 0, 1) := by decide +kernel
theorem dL_law_523 : decode cL_law 523 = .ok (.iload 4, 2) := by decide +kernel
theorem dL_law_525 : decode cL_law 525 = .ok (.iconst 1, 1) := by decide +kernel
theorem dL_law_526 : decode cL_law 526 = .ok (.iadd, 1) := by decide +kernel
theorem dL_law_527 : decode cL_law 527 = .ok (.iaload, 1) := by decide +kernel
theorem dL_law_528 : decode cL_law 528 = .ok (.invokevirtual 63, 3) := by decide +kernel
theorem dL_law_531 : decode cL_law 531 = .ok (.aload_n 2, 1) := by decide +kernel
theorem dL_law_532 : decode cL_law 532 = .ok (.aload_n 0, 1) := by decide +kernel
theorem dL_law_533 : decode cL_law 533 = .ok (.iload 4, 2) := by decide +kernel
theorem dL_law_535 : decode cL_law 535 = .ok (.iconst 1, 1) := by decide +kernel
theorem dL_law_536 : decode cL_law 536 = .ok (.iadd, 1) := by decide +kernel
theorem dL_law_537 : decode cL_law 537 = .ok (.iaload, 1) := by decide +kernel
theorem dL_law_538 : decode cL_law 538 = .ok (.invokevirtual 66, 3) := by decide +kernel
theorem dL_law_541 : decode cL_law 541 = .ok (.if_icmp .eq 185, 3) := by decide +kernel
theorem dL_law_544 : decode cL_law 544 = .ok (.iconst 0, 1) := by decide +kernel
theorem dL_law_545 : decode cL_law 545 = .ok (.ireturn, 1) := by decide +kernel
theorem dL_law_546 : decode cL_law 546 = .ok (.aload_n 1, 1) := by decide +kernel
theorem dL_law_547 : decode cL_law 547 = .ok (.aload_n 0, 1) := by decide +kernel
theorem dL_law_548 : decode cL_law 548 = .ok (.iload 4, 2) := by decide +kernel
theorem dL_law_550 : decode cL_law 550 = .ok (.iconst 1, 1) := by decide +kernel
theorem dL_law_551 : decode cL_law 551 = .ok (.iadd, 1) := by decide +kernel
theorem dL_law_552 : decode cL_law 552 = .ok (.iaload, 1) := by decide +kernel
theorem dL_law_553 : decode cL_law 553 = .ok (.aload_n 0, 1) := by decide +kernel
theorem dL_law_554 : decode cL_law 554 = .ok (.iload 4, 2) := by decide +kernel
theorem dL_law_556 : decode cL_law 556 = .ok (.iconst 2, 1) := by decide +kernel
theorem dL_law_557 : decode cL_law 557 = .ok (.iadd, 1) := by decide +kernel
theorem dL_law_558 : decode cL_law 558 = .ok (.iaload, 1) := by decide +kernel
theorem dL_law_559 : decode cL_law 559 = .ok (.aload_n 0, 1) := by decide +kernel
theorem dL_law_560 : decode cL_law 560 = .ok (.iload 4, 2) := by decide +kernel
theorem dL_law_562 : decode cL_law 562 = .ok (.iconst 3, 1) := by decide +kernel
theorem dL_law_563 : decode cL_law 563 = .ok (.iadd, 1) := by decide +kernel
theorem dL_law_564 : decode cL_law 564 = .ok (.iaload, 1) := by decide +kernel
theorem dL_law_565 : decode cL_law 565 = .ok (.i2l, 1) := by decide +kernel
theorem dL_law_566 : decode cL_law 566 = .ok (.bipush 32, 2) := by decide +kernel
theorem dL_law_568 : decode cL_law 568 = .ok (.lshl, 1) := by decide +kernel
theorem dL_law_569 : decode cL_law 569 = .ok (.aload_n 0, 1) := by decide +kernel
theorem dL_law_570 : decode cL_law 570 = .ok (.iload 4, 2) := by decide +kernel
theorem dL_law_572 : decode cL_law 572 = .ok (.iconst 4, 1) := by decide +kernel
theorem dL_law_573 : decode cL_law 573 = .ok (.iadd, 1) := by decide +kernel
theorem dL_law_574 : decode cL_law 574 = .ok (.iaload, 1) := by decide +kernel
theorem dL_law_575 : decode cL_law 575 = .ok (.i2l, 1) := by decide +kernel
theorem dL_law_576 : decode cL_law 576 = .ok (.ldc2_w 24, 3) := by decide +kernel
theorem dL_law_579 : decode cL_law 579 = .ok (.land, 1) := by decide +kernel
theorem dL_law_580 : decode cL_law 580 = .ok (.lor, 1) := by decide +kernel
theorem dL_law_581 : decode cL_law 581 = .ok (.invokevirtual 67, 3) := by decide +kernel
theorem dL_law_584 : decode cL_law 584 = .ok (.aload_n 2, 1) := by decide +kernel
theorem dL_law_585 : decode cL_law 585 = .ok (.aload_n 0, 1) := by decide +kernel
theorem dL_law_586 : decode cL_law 586 = .ok (.iload 4, 2) := by decide +kernel
theorem dL_law_588 : decode cL_law 588 = .ok (.iconst 1, 1) := by decide +kernel
theorem dL_law_589 : decode cL_law 589 = .ok (.iadd, 1) := by decide +kernel
theorem dL_law_590 : decode cL_law 590 = .ok (.iaload, 1) := by decide +kernel
theorem dL_law_591 : decode cL_law 591 = .ok (.aload_n 0, 1) := by decide +kernel
theorem dL_law_592 : decode cL_law 592 = .ok (.iload 4, 2) := by decide +kernel
theorem dL_law_594 : decode cL_law 594 = .ok (.iconst 2, 1) := by decide +kernel
theorem dL_law_595 : decode cL_law 595 = .ok (.iadd, 1) := by decide +kernel
theorem dL_law_596 : decode cL_law 596 = .ok (.iaload, 1) := by decide +kernel
theorem dL_law_597 : decode cL_law 597 = .ok (.aload_n 0, 1) := by decide +kernel
theorem dL_law_598 : decode cL_law 598 = .ok (.iload 4, 2) := by decide +kernel
theorem dL_law_600 : decode cL_law 600 = .ok (.iconst 3, 1) := by decide +kernel
theorem dL_law_601 : decode cL_law 601 = .ok (.iadd, 1) := by decide +kernel
theorem dL_law_602 : decode cL_law 602 = .ok (.iaload, 1) := by decide +kernel
theorem dL_law_603 : decode cL_law 603 = .ok (.i2l, 1) := by decide +kernel
theorem dL_law_604 : decode cL_law 604 = .ok (.bipush 32, 2) := by decide +kernel
theorem dL_law_606 : decode cL_law 606 = .ok (.lshl, 1) := by decide +kernel
theorem dL_law_607 : decode cL_law 607 = .ok (.aload_n 0, 1) := by decide +kernel
theorem dL_law_608 : decode cL_law 608 = .ok (.iload 4, 2) := by decide +kernel
theorem dL_law_610 : decode cL_law 610 = .ok (.iconst 4, 1) := by decide +kernel
theorem dL_law_611 : decode cL_law 611 = .ok (.iadd, 1) := by decide +kernel
theorem dL_law_612 : decode cL_law 612 = .ok (.iaload, 1) := by decide +kernel
theorem dL_law_613 : decode cL_law 613 = .ok (.i2l, 1) := by decide +kernel
theorem dL_law_614 : decode cL_law 614 = .ok (.ldc2_w 24, 3) := by decide +kernel
theorem dL_law_617 : decode cL_law 617 = .ok (.land, 1) := by decide +kernel
theorem dL_law_618 : decode cL_law 618 = .ok (.lor, 1) := by decide +kernel
theorem dL_law_619 : decode cL_law 619 = .ok (.invokevirtual 71, 3) := by decide +kernel
theorem dL_law_622 : decode cL_law 622 = .ok (.if_icmp .eq 104, 3) := by decide +kernel
theorem dL_law_625 : decode cL_law 625 = .ok (.iconst 0, 1) := by decide +kernel
theorem dL_law_626 : decode cL_law 626 = .ok (.ireturn, 1) := by decide +kernel
theorem dL_law_627 : decode cL_law 627 = .ok (.aload_n 1, 1) := by decide +kernel
theorem dL_law_628 : decode cL_law 628 = .ok (.aload_n 0, 1) := by decide +kernel
theorem dL_law_629 : decode cL_law 629 = .ok (.iload 4, 2) := by decide +kernel
theorem dL_law_631 : decode cL_law 631 = .ok (.iconst 1, 1) := by decide +kernel
theorem dL_law_632 : decode cL_law 632 = .ok (.iadd, 1) := by decide +kernel
theorem dL_law_633 : decode cL_law 633 = .ok (.iaload, 1) := by decide +kernel
theorem dL_law_634 : decode cL_law 634 = .ok (.aload_n 0, 1) := by decide +kernel
theorem dL_law_635 : decode cL_law 635 = .ok (.iload 4, 2) := by decide +kernel
theorem dL_law_637 : decode cL_law 637 = .ok (.iconst 2, 1) := by decide +kernel
theorem dL_law_638 : decode cL_law 638 = .ok (.iadd, 1) := by decide +kernel
theorem dL_law_639 : decode cL_law 639 = .ok (.iaload, 1) := by decide +kernel
theorem dL_law_640 : decode cL_law 640 = .ok (.invokevirtual 72, 3) := by decide +kernel
theorem dL_law_643 : decode cL_law 643 = .ok (.aload_n 2, 1) := by decide +kernel
theorem dL_law_644 : decode cL_law 644 = .ok (.aload_n 0, 1) := by decide +kernel
theorem dL_law_645 : decode cL_law 645 = .ok (.iload 4, 2) := by decide +kernel
theorem dL_law_647 : decode cL_law 647 = .ok (.iconst 1, 1) := by decide +kernel
theorem dL_law_648 : decode cL_law 648 = .ok (.iadd, 1) := by decide +kernel
theorem dL_law_649 : decode cL_law 649 = .ok (.iaload, 1) := by decide +kernel
theorem dL_law_650 : decode cL_law 650 = .ok (.aload_n 0, 1) := by decide +kernel
theorem dL_law_651 : decode cL_law 651 = .ok (.iload 4, 2) := by decide +kernel
theorem dL_law_653 : decode cL_law 653 = .ok (.iconst 2, 1) := by decide +kernel
theorem dL_law_654 : decode cL_law 654 = .ok (.iadd, 1) := by decide +kernel
theorem dL_law_655 : decode cL_law 655 = .ok (.iaload, 1) := by decide +kernel
theorem dL_law_656 : decode cL_law 656 = .ok (.invokevirtual 76, 3) := by decide +kernel
theorem dL_law_659 : decode cL_law 659 = .ok (.if_icmp .eq 67, 3) := by decide +kernel
theorem dL_law_662 : decode cL_law 662 = .ok (.iconst 0, 1) := by decide +kernel
theorem dL_law_663 : decode cL_law 663 = .ok (.ireturn, 1) := by decide +kernel
theorem dL_law_664 : decode cL_law 664 = .ok (.aload_n 1, 1) := by decide +kernel
theorem dL_law_665 : decode cL_law 665 = .ok (.aload_n 0, 1) := by decide +kernel
theorem dL_law_666 : decode cL_law 666 = .ok (.iload 4, 2) := by decide +kernel
theorem dL_law_668 : decode cL_law 668 = .ok (.iconst 1, 1) := by decide +kernel
theorem dL_law_669 : decode cL_law 669 = .ok (.iadd, 1) := by decide +kernel
theorem dL_law_670 : decode cL_law 670 = .ok (.iaload, 1) := by decide +kernel
theorem dL_law_671 : decode cL_law 671 = .ok (.invokevirtual 77, 3) := by decide +kernel
theorem dL_law_674 : decode cL_law 674 = .ok (.aload_n 2, 1) := by decide +kernel
theorem dL_law_675 : decode cL_law 675 = .ok (.aload_n 0, 1) := by decide +kernel
theorem dL_law_676 : decode cL_law 676 = .ok (.iload 4, 2) := by decide +kernel
theorem dL_law_678 : decode cL_law 678 = .ok (.iconst 1, 1) := by decide +kernel
theorem dL_law_679 : decode cL_law 679 = .ok (.iadd, 1) := by decide +kernel
theorem dL_law_680 : decode cL_law 680 = .ok (.iaload, 1) := by decide +kernel
theorem dL_law_681 : decode cL_law 681 = .ok (.invokevirtual 80, 3) := by decide +kernel
theorem dL_law_684 : decode cL_law 684 = .ok (.if_icmp .eq 42, 3) := by decide +kernel
theorem dL_law_687 : decode cL_law 687 = .ok (.iconst 0, 1) := by decide +kernel
theorem dL_law_688 : decode cL_law 688 = .ok (.ireturn, 1) := by decide +kernel
theorem dL_law_689 : decode cL_law 689 = .ok (.aload_n 1, 1) := by decide +kernel
theorem dL_law_690 : decode cL_law 690 = .ok (.aload_n 0, 1) := by decide +kernel
theorem dL_law_691 : decode cL_law 691 = .ok (.iload 4, 2) := by decide +kernel
theorem dL_law_693 : decode cL_law 693 = .ok (.iconst 1, 1) := by decide +kernel
theorem dL_law_694 : decode cL_law 694 = .ok (.iadd, 1) := by decide +kernel
theorem dL_law_695 : decode cL_law 695 = .ok (.iaload, 1) := by decide +kernel
theorem dL_law_696 : decode cL_law 696 = .ok (.aload_n 0, 1) := by decide +kernel
theorem dL_law_697 : decode cL_law 697 = .ok (.iload 4, 2) := by decide +kernel
theorem dL_law_699 : decode cL_law 699 = .ok (.iconst 2, 1) := by decide +kernel
theorem dL_law_700 : decode cL_law 700 = .ok (.iadd, 1) := by decide +kernel
theorem dL_law_701 : decode cL_law 701 = .ok (.iaload, 1) := by decide +kernel
theorem dL_law_702 : decode cL_law 702 = .ok (.invokevirtual 81, 3) := by decide +kernel
theorem dL_law_705 : decode cL_law 705 = .ok (.aload_n 2, 1) := by decide +kernel
theorem dL_law_706 : decode cL_law 706 = .ok (.aload_n 0, 1) := by decide +kernel
theorem dL_law_707 : decode cL_law 707 = .ok (.iload 4, 2) := by decide +kernel
theorem dL_law_709 : decode cL_law 709 = .ok (.iconst 1, 1) := by decide +kernel
theorem dL_law_710 : decode cL_law 710 = .ok (.iadd, 1) := by decide +kernel
theorem dL_law_711 : decode cL_law 711 = .ok (.iaload, 1) := by decide +kernel
theorem dL_law_712 : decode cL_law 712 = .ok (.aload_n 0, 1) := by decide +kernel
theorem dL_law_713 : decode cL_law 713 = .ok (.iload 4, 2) := by decide +kernel
theorem dL_law_715 : decode cL_law 715 = .ok (.iconst 2, 1) := by decide +kernel
theorem dL_law_716 : decode cL_law 716 = .ok (.iadd, 1) := by decide +kernel
theorem dL_law_717 : decode cL_law 717 = .ok (.iaload, 1) := by decide +kernel
theorem dL_law_718 : decode cL_law 718 = .ok (.invokevirtual 84, 3) := by decide +kernel
theorem dL_law_721 : decode cL_law 721 = .ok (.if_icmp .eq 5, 3) := by decide +kernel
theorem dL_law_724 : decode cL_law 724 = .ok (.iconst 0, 1) := by decide +kernel
theorem dL_law_725 : decode cL_law 725 = .ok (.ireturn, 1) := by decide +kernel
theorem dL_law_726 : decode cL_law 726 = .ok (.iinc 4 7, 3) := by decide +kernel
theorem dL_law_729 : decode cL_law 729 = .ok (.goto (-706), 3) := by decide +kernel
theorem dL_law_732 : decode cL_law 732 = .ok (.iconst 1, 1) := by decide +kernel
theorem dL_law_733 : decode cL_law 733 = .ok (.ireturn, 1) := by decide +kernel
end
section
/-! the words that the tables give, one list for all methods -/
def lw_all : List Cond := lw_tbl.filter goodWord
theorem lw_in {w : Cond} (i : Nat) (h : tables_1[i]? = some w) (hg : goodWord w = true) : w ∈ lw_all := List.mem_filter.mpr ⟨List.mem_append_right _ (List.mem_of_getElem? h), hg⟩
theorem lw_inS {w : Cond} (i : Nat) (h : (k2_sels lw_privs)[i]? = some w) (hg : goodWord w = true) : w ∈ lw_all := List.mem_filter.mpr ⟨List.mem_append_left _ (List.mem_of_getElem? h), hg⟩
theorem lw_all_tbl {w : Cond} (h : w ∈ lw_all) : w ∈ lw_tbl := (List.mem_filter.mp h).1
theorem lw_all_good {w : Cond} (h : w ∈ lw_all) : goodWord w = true := (List.mem_filter.mp h).2
abbrev ws_ (y : MethodName) (cc : ByteArray) (n : Nat) (r : Option FieldType) : List Cond := .code y cc n r :: lw_all
theorem lw_good_ws {y : MethodName} {cc : ByteArray} {n : Nat} {r : Option FieldType} (h : Cond.code y cc n r ∈ lw_all) : GoodIn lw_all (ws_ y cc n r) := by
  intro w hw
  rcases List.mem_cons.mp hw with rfl | h2
  · exact ⟨h, good_of_word (lw_all_good h)⟩
  · exact ⟨h2, good_of_word (lw_all_good h2)⟩
theorem qn_L : Cond.initialized RL ∈ lw_all := lw_in 0 (by decide +kernel) (by decide +kernel)
theorem qn_X4 : Cond.initialized RX4 ∈ lw_all := lw_in 1 (by decide +kernel) (by decide +kernel)
theorem qn_X1 : Cond.initialized RX1 ∈ lw_all := lw_in 2 (by decide +kernel) (by decide +kernel)
theorem qn_X5 : Cond.initialized RX5 ∈ lw_all := lw_in 3 (by decide +kernel) (by decide +kernel)
theorem qn_X0 : Cond.initialized RX0 ∈ lw_all := lw_in 4 (by decide +kernel) (by decide +kernel)
theorem qn_X3 : Cond.initialized RX3 ∈ lw_all := lw_in 5 (by decide +kernel) (by decide +kernel)
theorem qn_sys : Cond.initialized "java/lang/System" ∈ lw_all := lw_in 6 (by decide +kernel) (by decide +kernel)
theorem qn_ise : Cond.initialized "java/lang/IllegalStateException" ∈ lw_all := lw_in 10 (by decide +kernel) (by decide +kernel)
theorem qn_X2 : Cond.initialized RX2 ∈ lw_all := lw_in 11 (by decide +kernel) (by decide +kernel)
theorem ql_L_8 : Cond.classLink RL 8 RX4 ∈ lw_all := lw_in 12 (by decide +kernel) (by decide +kernel)
theorem qx_X4 : Cond.instantiable RX4 13 ∈ lw_all := lw_in 13 (by decide +kernel) (by decide +kernel)
theorem qm_L_15 : Cond.methodLink RL 15 yX4_init ∈ lw_all := lw_in 14 (by decide +kernel) (by decide +kernel)
theorem qi_X4_init : Cond.instanceMethod yX4_init ∈ lw_all := lw_in 15 (by decide +kernel) (by decide +kernel)
theorem qc_X4_init : Cond.code yX4_init cX4_init 1 none ∈ lw_all := lw_in 16 (by decide +kernel) (by decide +kernel)
theorem qm_X4_1 : Cond.methodLink RX4 1 objectInit ∈ lw_all := lw_in 17 (by decide +kernel) (by decide +kernel)
theorem qi_obj : Cond.instanceMethod objectInit ∈ lw_all := lw_in 18 (by decide +kernel) (by decide +kernel)
theorem qc_obj : Cond.code objectInit ⟨#[0xb1]⟩ 1 none ∈ lw_all := lw_in 19 (by decide +kernel) (by decide +kernel)
theorem ql_X4_9 : Cond.classLink RX4 9 RX0 ∈ lw_all := lw_in 20 (by decide +kernel) (by decide +kernel)
theorem ql_X4_15 : Cond.classLink RX4 15 RX3 ∈ lw_all := lw_in 22 (by decide +kernel) (by decide +kernel)
theorem ql_X4_21 : Cond.classLink RX4 21 RX2 ∈ lw_all := lw_in 24 (by decide +kernel) (by decide +kernel)
theorem ql_X4_37 : Cond.classLink RX4 37 RX1 ∈ lw_all := lw_in 26 (by decide +kernel) (by decide +kernel)
theorem qx_X1 : Cond.instantiable RX1 2 ∈ lw_all := lw_in 27 (by decide +kernel) (by decide +kernel)
theorem qm_X4_39 : Cond.methodLink RX4 39 yX1_init ∈ lw_all := lw_in 28 (by decide +kernel) (by decide +kernel)
theorem qi_X1_init : Cond.instanceMethod yX1_init ∈ lw_all := lw_in 29 (by decide +kernel) (by decide +kernel)
theorem qc_X1_init : Cond.code yX1_init cX1_init 1 none ∈ lw_all := lw_in 30 (by decide +kernel) (by decide +kernel)
theorem qm_X1_3 : Cond.methodLink RX1 3 objectInit ∈ lw_all := lw_in 31 (by decide +kernel) (by decide +kernel)
theorem qf_X1_9 : Cond.fieldLink RX1 9 "SignRows$Sha256" "state" "[I" ∈ lw_all := lw_in 32 (by decide +kernel) (by decide +kernel)
theorem qf_X1_15 : Cond.fieldLink RX1 15 "SignRows$Sha256" "schedule" "[I" ∈ lw_all := lw_in 34 (by decide +kernel) (by decide +kernel)
theorem qy_X1_0 : u_lay RX1 TX1 0 ∈ lw_all := lw_in 35 (by decide +kernel) (by decide +kernel)
theorem qy_X1_1 : u_lay RX1 TX1 1 ∈ lw_all := lw_in 37 (by decide +kernel) (by decide +kernel)
theorem qa_int : Cond.arrayClass .int ∈ lw_all := lw_in 40 (by decide +kernel) (by decide +kernel)
theorem qf_X4_44 : Cond.fieldLink RX4 44 "SignRows" "personCount" "I" ∈ lw_all := lw_in 41 (by decide +kernel) (by decide +kernel)
theorem qf_X4_11 : Cond.fieldLink RX4 11 "SignRows" "roles" "[LSignRows$Role;" ∈ lw_all := lw_in 42 (by decide +kernel) (by decide +kernel)
theorem qf_X4_57 : Cond.fieldLink RX4 57 "SignRows" "roleCount" "I" ∈ lw_all := lw_in 43 (by decide +kernel) (by decide +kernel)
theorem qf_X4_17 : Cond.fieldLink RX4 17 "SignRows" "things" "[LSignRows$Thing;" ∈ lw_all := lw_in 44 (by decide +kernel) (by decide +kernel)
theorem qf_X4_63 : Cond.fieldLink RX4 63 "SignRows" "thingCount" "I" ∈ lw_all := lw_in 45 (by decide +kernel) (by decide +kernel)
theorem qf_X4_23 : Cond.fieldLink RX4 23 "SignRows" "signatures" "[LSignRows$Signature;" ∈ lw_all := lw_in 46 (by decide +kernel) (by decide +kernel)
theorem qf_X4_113 : Cond.fieldLink RX4 113 "SignRows" "signatureCount" "I" ∈ lw_all := lw_in 47 (by decide +kernel) (by decide +kernel)
theorem qf_X4_27 : Cond.fieldLink RX4 27 "SignRows" "withdrawn" "[I" ∈ lw_all := lw_in 48 (by decide +kernel) (by decide +kernel)
theorem qf_X4_145 : Cond.fieldLink RX4 145 "SignRows" "withdrawnCount" "I" ∈ lw_all := lw_in 49 (by decide +kernel) (by decide +kernel)
theorem qf_X4_31 : Cond.fieldLink RX4 31 "SignRows" "toldBefore" "[I" ∈ lw_all := lw_in 50 (by decide +kernel) (by decide +kernel)
theorem qf_X4_34 : Cond.fieldLink RX4 34 "SignRows" "everBefore" "[I" ∈ lw_all := lw_in 51 (by decide +kernel) (by decide +kernel)
theorem qf_X4_130 : Cond.fieldLink RX4 130 "SignRows" "clock" "J" ∈ lw_all := lw_in 52 (by decide +kernel) (by decide +kernel)
theorem qf_X4_40 : Cond.fieldLink RX4 40 "SignRows" "sha" "LSignRows$Sha256;" ∈ lw_all := lw_in 53 (by decide +kernel) (by decide +kernel)
theorem qy_X4_0 : u_lay RX4 TX4 0 ∈ lw_all := lw_in 54 (by decide +kernel) (by decide +kernel)
theorem qy_X4_1 : u_lay RX4 TX4 1 ∈ lw_all := lw_in 56 (by decide +kernel) (by decide +kernel)
theorem qy_X4_2 : u_lay RX4 TX4 2 ∈ lw_all := lw_in 58 (by decide +kernel) (by decide +kernel)
theorem qy_X4_3 : u_lay RX4 TX4 3 ∈ lw_all := lw_in 60 (by decide +kernel) (by decide +kernel)
theorem qy_X4_4 : u_lay RX4 TX4 4 ∈ lw_all := lw_in 62 (by decide +kernel) (by decide +kernel)
theorem qy_X4_5 : u_lay RX4 TX4 5 ∈ lw_all := lw_in 64 (by decide +kernel) (by decide +kernel)
theorem qy_X4_6 : u_lay RX4 TX4 6 ∈ lw_all := lw_in 66 (by decide +kernel) (by decide +kernel)
theorem qy_X4_7 : u_lay RX4 TX4 7 ∈ lw_all := lw_in 68 (by decide +kernel) (by decide +kernel)
theorem qy_X4_8 : u_lay RX4 TX4 8 ∈ lw_all := lw_in 70 (by decide +kernel) (by decide +kernel)
theorem qy_X4_9 : u_lay RX4 TX4 9 ∈ lw_all := lw_in 72 (by decide +kernel) (by decide +kernel)
theorem qy_X4_10 : u_lay RX4 TX4 10 ∈ lw_all := lw_in 74 (by decide +kernel) (by decide +kernel)
theorem qy_X4_11 : u_lay RX4 TX4 11 ∈ lw_all := lw_in 76 (by decide +kernel) (by decide +kernel)
theorem qy_X4_12 : u_lay RX4 TX4 12 ∈ lw_all := lw_in 78 (by decide +kernel) (by decide +kernel)
theorem qm_L_19 : Cond.methodLink RL 19 yX4_person ∈ lw_all := lw_in 81 (by decide +kernel) (by decide +kernel)
theorem qi_X4_person : Cond.instanceMethod yX4_person ∈ lw_all := lw_in 82 (by decide +kernel) (by decide +kernel)
theorem qv_X4_person : Cond.selects RX4 yX4_person yX4_person ∈ lw_all := lw_in 83 (by decide +kernel) (by decide +kernel)
theorem qc_X4_person : Cond.code yX4_person cX4_person 1 (some .int) ∈ lw_all := lw_in 84 (by decide +kernel) (by decide +kernel)
theorem qm_L_26 : Cond.methodLink RL 26 yX4_role ∈ lw_all := lw_in 85 (by decide +kernel) (by decide +kernel)
theorem qi_X4_role : Cond.instanceMethod yX4_role ∈ lw_all := lw_in 86 (by decide +kernel) (by decide +kernel)
theorem qv_X4_role : Cond.selects RX4 yX4_role yX4_role ∈ lw_all := lw_in 87 (by decide +kernel) (by decide +kernel)
theorem qc_X4_role : Cond.code yX4_role cX4_role 7 (some .boolean) ∈ lw_all := lw_in 88 (by decide +kernel) (by decide +kernel)
theorem qm_X4_48 : Cond.methodLink RX4 48 yX4_isPerson ∈ lw_all := lw_in 89 (by decide +kernel) (by decide +kernel)
theorem qi_X4_isPerson : Cond.instanceMethod yX4_isPerson ∈ lw_all := lw_in 91 (by decide +kernel) (by decide +kernel)
theorem qc_X4_isPerson : Cond.code yX4_isPerson cX4_isPerson 2 (some .boolean) ∈ lw_all := lw_in 92 (by decide +kernel) (by decide +kernel)
theorem qm_X4_52 : Cond.methodLink RX4 52 yX4_isMeaning ∈ lw_all := lw_in 93 (by decide +kernel) (by decide +kernel)
theorem qs_X4_isMeaning : Cond.static yX4_isMeaning ∈ lw_all := lw_in 94 (by decide +kernel) (by decide +kernel)
theorem qc_X4_isMeaning : Cond.code yX4_isMeaning cX4_isMeaning 1 (some .boolean) ∈ lw_all := lw_in 95 (by decide +kernel) (by decide +kernel)
theorem qk_X4_55 : Cond.constantLong RX4 55 (1000000000000 : Int64) ∈ lw_all := lw_in 96 (by decide +kernel) (by decide +kernel)
theorem qx_X0 : Cond.instantiable RX0 4 ∈ lw_all := lw_in 97 (by decide +kernel) (by decide +kernel)
theorem qm_X4_60 : Cond.methodLink RX4 60 yX0_init ∈ lw_all := lw_in 98 (by decide +kernel) (by decide +kernel)
theorem qi_X0_init : Cond.instanceMethod yX0_init ∈ lw_all := lw_in 99 (by decide +kernel) (by decide +kernel)
theorem qc_X0_init : Cond.code yX0_init cX0_init 7 none ∈ lw_all := lw_in 100 (by decide +kernel) (by decide +kernel)
theorem qm_X0_1 : Cond.methodLink RX0 1 objectInit ∈ lw_all := lw_in 101 (by decide +kernel) (by decide +kernel)
theorem qf_X0_7 : Cond.fieldLink RX0 7 "SignRows$Role" "person" "I" ∈ lw_all := lw_in 102 (by decide +kernel) (by decide +kernel)
theorem qf_X0_13 : Cond.fieldLink RX0 13 "SignRows$Role" "number" "I" ∈ lw_all := lw_in 103 (by decide +kernel) (by decide +kernel)
theorem qf_X0_16 : Cond.fieldLink RX0 16 "SignRows$Role" "from" "J" ∈ lw_all := lw_in 104 (by decide +kernel) (by decide +kernel)
theorem qf_X0_20 : Cond.fieldLink RX0 20 "SignRows$Role" "to" "J" ∈ lw_all := lw_in 105 (by decide +kernel) (by decide +kernel)
theorem qy_X0_0 : u_lay RX0 TX0 0 ∈ lw_all := lw_in 106 (by decide +kernel) (by decide +kernel)
theorem qy_X0_1 : u_lay RX0 TX0 1 ∈ lw_all := lw_in 108 (by decide +kernel) (by decide +kernel)
theorem qy_X0_2 : u_lay RX0 TX0 2 ∈ lw_all := lw_in 110 (by decide +kernel) (by decide +kernel)
theorem qy_X0_3 : u_lay RX0 TX0 3 ∈ lw_all := lw_in 112 (by decide +kernel) (by decide +kernel)
theorem qm_L_31 : Cond.methodLink RL 31 yX4_thing ∈ lw_all := lw_in 115 (by decide +kernel) (by decide +kernel)
theorem qi_X4_thing : Cond.instanceMethod yX4_thing ∈ lw_all := lw_in 116 (by decide +kernel) (by decide +kernel)
theorem qv_X4_thing : Cond.selects RX4 yX4_thing yX4_thing ∈ lw_all := lw_in 117 (by decide +kernel) (by decide +kernel)
theorem qc_X4_thing : Cond.code yX4_thing cX4_thing 2 (some .int) ∈ lw_all := lw_in 118 (by decide +kernel) (by decide +kernel)
theorem qx_X3 : Cond.instantiable RX3 9 ∈ lw_all := lw_in 119 (by decide +kernel) (by decide +kernel)
theorem qm_X4_66 : Cond.methodLink RX4 66 yX3_init ∈ lw_all := lw_in 120 (by decide +kernel) (by decide +kernel)
theorem qi_X3_init : Cond.instanceMethod yX3_init ∈ lw_all := lw_in 121 (by decide +kernel) (by decide +kernel)
theorem qc_X3_init : Cond.code yX3_init cX3_init 2 none ∈ lw_all := lw_in 122 (by decide +kernel) (by decide +kernel)
theorem qm_X3_3 : Cond.methodLink RX3 3 objectInit ∈ lw_all := lw_in 123 (by decide +kernel) (by decide +kernel)
theorem qf_X3_29 : Cond.fieldLink RX3 29 "SignRows$Thing" "maker" "I" ∈ lw_all := lw_in 124 (by decide +kernel) (by decide +kernel)
theorem qf_X3_9 : Cond.fieldLink RX3 9 "SignRows$Thing" "bytes" "[B" ∈ lw_all := lw_in 126 (by decide +kernel) (by decide +kernel)
theorem qf_X3_15 : Cond.fieldLink RX3 15 "SignRows$Thing" "digestWords" "[I" ∈ lw_all := lw_in 129 (by decide +kernel) (by decide +kernel)
theorem qf_X3_19 : Cond.fieldLink RX3 19 "SignRows$Thing" "digestStale" "Z" ∈ lw_all := lw_in 131 (by decide +kernel) (by decide +kernel)
theorem qf_X3_23 : Cond.fieldLink RX3 23 "SignRows$Thing" "comments" "[B" ∈ lw_all := lw_in 133 (by decide +kernel) (by decide +kernel)
theorem qf_X3_26 : Cond.fieldLink RX3 26 "SignRows$Thing" "needed" "[I" ∈ lw_all := lw_in 136 (by decide +kernel) (by decide +kernel)
theorem qy_X3_0 : u_lay RX3 TX3 0 ∈ lw_all := lw_in 139 (by decide +kernel) (by decide +kernel)
theorem qy_X3_1 : u_lay RX3 TX3 1 ∈ lw_all := lw_in 141 (by decide +kernel) (by decide +kernel)
theorem qy_X3_2 : u_lay RX3 TX3 2 ∈ lw_all := lw_in 143 (by decide +kernel) (by decide +kernel)
theorem qy_X3_3 : u_lay RX3 TX3 3 ∈ lw_all := lw_in 145 (by decide +kernel) (by decide +kernel)
theorem qy_X3_4 : u_lay RX3 TX3 4 ∈ lw_all := lw_in 147 (by decide +kernel) (by decide +kernel)
theorem qy_X3_5 : u_lay RX3 TX3 5 ∈ lw_all := lw_in 149 (by decide +kernel) (by decide +kernel)
theorem qy_X3_6 : u_lay RX3 TX3 6 ∈ lw_all := lw_in 151 (by decide +kernel) (by decide +kernel)
theorem qy_X3_7 : u_lay RX3 TX3 7 ∈ lw_all := lw_in 153 (by decide +kernel) (by decide +kernel)
theorem qy_X3_8 : u_lay RX3 TX3 8 ∈ lw_all := lw_in 155 (by decide +kernel) (by decide +kernel)
theorem qa_byte : Cond.arrayClass .byte ∈ lw_all := lw_in 158 (by decide +kernel) (by decide +kernel)
theorem qm_L_36 : Cond.methodLink RL 36 yX4_byteOf ∈ lw_all := lw_in 159 (by decide +kernel) (by decide +kernel)
theorem qi_X4_byteOf : Cond.instanceMethod yX4_byteOf ∈ lw_all := lw_in 160 (by decide +kernel) (by decide +kernel)
theorem qv_X4_byteOf : Cond.selects RX4 yX4_byteOf yX4_byteOf ∈ lw_all := lw_in 161 (by decide +kernel) (by decide +kernel)
theorem qc_X4_byteOf : Cond.code yX4_byteOf cX4_byteOf 4 (some .boolean) ∈ lw_all := lw_in 162 (by decide +kernel) (by decide +kernel)
theorem qm_X4_69 : Cond.methodLink RX4 69 yX4_thingAt ∈ lw_all := lw_in 163 (by decide +kernel) (by decide +kernel)
theorem qi_X4_thingAt : Cond.instanceMethod yX4_thingAt ∈ lw_all := lw_in 165 (by decide +kernel) (by decide +kernel)
theorem qc_X4_thingAt : Cond.code yX4_thingAt cX4_thingAt 2 (some (.object "SignRows$Thing")) ∈ lw_all := lw_in 166 (by decide +kernel) (by decide +kernel)
theorem qm_X4_73 : Cond.methodLink RX4 73 yX4_isByte ∈ lw_all := lw_in 167 (by decide +kernel) (by decide +kernel)
theorem qs_X4_isByte : Cond.static yX4_isByte ∈ lw_all := lw_in 168 (by decide +kernel) (by decide +kernel)
theorem qc_X4_isByte : Cond.code yX4_isByte cX4_isByte 1 (some .boolean) ∈ lw_all := lw_in 169 (by decide +kernel) (by decide +kernel)
theorem qm_L_50 : Cond.methodLink RL 50 yX4_holds ∈ lw_all := lw_in 170 (by decide +kernel) (by decide +kernel)
theorem qi_X4_holds : Cond.instanceMethod yX4_holds ∈ lw_all := lw_in 171 (by decide +kernel) (by decide +kernel)
theorem qv_X4_holds : Cond.selects RX4 yX4_holds yX4_holds ∈ lw_all := lw_in 172 (by decide +kernel) (by decide +kernel)
theorem qc_X4_holds : Cond.code yX4_holds cX4_holds 3 (some .boolean) ∈ lw_all := lw_in 173 (by decide +kernel) (by decide +kernel)
theorem qm_X4_134 : Cond.methodLink RX4 134 yX4_signatureAt ∈ lw_all := lw_in 174 (by decide +kernel) (by decide +kernel)
theorem qi_X4_signatureAt : Cond.instanceMethod yX4_signatureAt ∈ lw_all := lw_in 176 (by decide +kernel) (by decide +kernel)
theorem qc_X4_signatureAt : Cond.code yX4_signatureAt cX4_signatureAt 2 (some (.object "SignRows$Signature")) ∈ lw_all := lw_in 177 (by decide +kernel) (by decide +kernel)
theorem qm_X4_138 : Cond.methodLink RX4 138 yX4_isStanding ∈ lw_all := lw_in 178 (by decide +kernel) (by decide +kernel)
theorem qi_X4_isStanding : Cond.instanceMethod yX4_isStanding ∈ lw_all := lw_in 180 (by decide +kernel) (by decide +kernel)
theorem qc_X4_isStanding : Cond.code yX4_isStanding cX4_isStanding 2 (some .boolean) ∈ lw_all := lw_in 181 (by decide +kernel) (by decide +kernel)
theorem qm_X4_119 : Cond.methodLink RX4 119 yX4_digestWordsOf ∈ lw_all := lw_in 182 (by decide +kernel) (by decide +kernel)
theorem qi_X4_digestWordsOf : Cond.instanceMethod yX4_digestWordsOf ∈ lw_all := lw_in 184 (by decide +kernel) (by decide +kernel)
theorem qc_X4_digestWordsOf : Cond.code yX4_digestWordsOf cX4_digestWordsOf 2 (some (.array .int)) ∈ lw_all := lw_in 185 (by decide +kernel) (by decide +kernel)
theorem qm_X4_181 : Cond.methodLink RX4 181 yX1_hashBytes ∈ lw_all := lw_in 186 (by decide +kernel) (by decide +kernel)
theorem qi_X1_hashBytes : Cond.instanceMethod yX1_hashBytes ∈ lw_all := lw_in 187 (by decide +kernel) (by decide +kernel)
theorem qv_X1_hashBytes : Cond.selects RX1 yX1_hashBytes yX1_hashBytes ∈ lw_all := lw_in 188 (by decide +kernel) (by decide +kernel)
theorem qc_X1_hashBytes : Cond.code yX1_hashBytes cX1_hashBytes 5 none ∈ lw_all := lw_in 189 (by decide +kernel) (by decide +kernel)
theorem qf_X1_18 : Cond.fieldLink RX1 18 "SignRows$Sha256" "FIRST_STATE" "[I" ∈ lw_all := lw_in 190 (by decide +kernel) (by decide +kernel)
theorem qs_X4_copyWords : Cond.static yX4_copyWords ∈ lw_all := lw_in 193 (by decide +kernel) (by decide +kernel)
theorem qc_X4_copyWords : Cond.code yX4_copyWords cX4_copyWords 3 none ∈ lw_all := lw_in 194 (by decide +kernel) (by decide +kernel)
theorem qm_X1_25 : Cond.methodLink RX1 25 yX1_loadBlock ∈ lw_all := lw_in 195 (by decide +kernel) (by decide +kernel)
theorem qi_X1_loadBlock : Cond.instanceMethod yX1_loadBlock ∈ lw_all := lw_in 197 (by decide +kernel) (by decide +kernel)
theorem qc_X1_loadBlock : Cond.code yX1_loadBlock cX1_loadBlock 7 none ∈ lw_all := lw_in 198 (by decide +kernel) (by decide +kernel)
theorem qm_X1_35 : Cond.methodLink RX1 35 yX1_paddedByte ∈ lw_all := lw_in 199 (by decide +kernel) (by decide +kernel)
theorem qs_X1_paddedByte : Cond.static yX1_paddedByte ∈ lw_all := lw_in 200 (by decide +kernel) (by decide +kernel)
theorem qc_X1_paddedByte : Cond.code yX1_paddedByte cX1_paddedByte 3 (some .int) ∈ lw_all := lw_in 201 (by decide +kernel) (by decide +kernel)
theorem qm_X1_29 : Cond.methodLink RX1 29 yX1_spreadBlock ∈ lw_all := lw_in 202 (by decide +kernel) (by decide +kernel)
theorem qi_X1_spreadBlock : Cond.instanceMethod yX1_spreadBlock ∈ lw_all := lw_in 204 (by decide +kernel) (by decide +kernel)
theorem qc_X1_spreadBlock : Cond.code yX1_spreadBlock cX1_spreadBlock 6 none ∈ lw_all := lw_in 205 (by decide +kernel) (by decide +kernel)
theorem qm_X1_39 : Cond.methodLink RX1 39 yX1_turned ∈ lw_all := lw_in 206 (by decide +kernel) (by decide +kernel)
theorem qs_X1_turned : Cond.static yX1_turned ∈ lw_all := lw_in 207 (by decide +kernel) (by decide +kernel)
theorem qc_X1_turned : Cond.code yX1_turned cX1_turned 2 (some .int) ∈ lw_all := lw_in 208 (by decide +kernel) (by decide +kernel)
theorem qm_X1_32 : Cond.methodLink RX1 32 yX1_mixBlock ∈ lw_all := lw_in 209 (by decide +kernel) (by decide +kernel)
theorem qi_X1_mixBlock : Cond.instanceMethod yX1_mixBlock ∈ lw_all := lw_in 211 (by decide +kernel) (by decide +kernel)
theorem qc_X1_mixBlock : Cond.code yX1_mixBlock cX1_mixBlock 15 none ∈ lw_all := lw_in 212 (by decide +kernel) (by decide +kernel)
theorem qf_X1_43 : Cond.fieldLink RX1 43 "SignRows$Sha256" "ROUND_WORDS" "[I" ∈ lw_all := lw_in 213 (by decide +kernel) (by decide +kernel)
theorem qm_X4_126 : Cond.methodLink RX4 126 yX4_copyWords ∈ lw_all := lw_in 215 (by decide +kernel) (by decide +kernel)
theorem qm_X4_177 : Cond.methodLink RX4 177 yX4_areSameWords ∈ lw_all := lw_in 216 (by decide +kernel) (by decide +kernel)
theorem qs_X4_areSameWords : Cond.static yX4_areSameWords ∈ lw_all := lw_in 217 (by decide +kernel) (by decide +kernel)
theorem qc_X4_areSameWords : Cond.code yX4_areSameWords cX4_areSameWords 3 (some .boolean) ∈ lw_all := lw_in 218 (by decide +kernel) (by decide +kernel)
theorem qm_L_55 : Cond.methodLink RL 55 yX4_withdraw ∈ lw_all := lw_in 219 (by decide +kernel) (by decide +kernel)
theorem qi_X4_withdraw : Cond.instanceMethod yX4_withdraw ∈ lw_all := lw_in 220 (by decide +kernel) (by decide +kernel)
theorem qv_X4_withdraw : Cond.selects RX4 yX4_withdraw yX4_withdraw ∈ lw_all := lw_in 221 (by decide +kernel) (by decide +kernel)
theorem qc_X4_withdraw : Cond.code yX4_withdraw cX4_withdraw 3 (some .boolean) ∈ lw_all := lw_in 222 (by decide +kernel) (by decide +kernel)
theorem qm_L_59 : Cond.methodLink RL 59 yX4_order ∈ lw_all := lw_in 223 (by decide +kernel) (by decide +kernel)
theorem qi_X4_order : Cond.instanceMethod yX4_order ∈ lw_all := lw_in 224 (by decide +kernel) (by decide +kernel)
theorem qv_X4_order : Cond.selects RX4 yX4_order yX4_order ∈ lw_all := lw_in 225 (by decide +kernel) (by decide +kernel)
theorem qc_X4_order : Cond.code yX4_order cX4_order 5 (some .boolean) ∈ lw_all := lw_in 226 (by decide +kernel) (by decide +kernel)
theorem qm_X4_148 : Cond.methodLink RX4 148 yX4_hasBit ∈ lw_all := lw_in 227 (by decide +kernel) (by decide +kernel)
theorem qs_X4_hasBit : Cond.static yX4_hasBit ∈ lw_all := lw_in 228 (by decide +kernel) (by decide +kernel)
theorem qc_X4_hasBit : Cond.code yX4_hasBit cX4_hasBit 2 (some .boolean) ∈ lw_all := lw_in 229 (by decide +kernel) (by decide +kernel)
theorem qm_L_63 : Cond.methodLink RL 63 yX4_complete ∈ lw_all := lw_in 230 (by decide +kernel) (by decide +kernel)
theorem qi_X4_complete : Cond.instanceMethod yX4_complete ∈ lw_all := lw_in 231 (by decide +kernel) (by decide +kernel)
theorem qv_X4_complete : Cond.selects RX4 yX4_complete yX4_complete ∈ lw_all := lw_in 232 (by decide +kernel) (by decide +kernel)
theorem qc_X4_complete : Cond.code yX4_complete cX4_complete 5 (some .int) ∈ lw_all := lw_in 233 (by decide +kernel) (by decide +kernel)
theorem qm_X4_105 : Cond.methodLink RX4 105 yX4_meaningsThatHold ∈ lw_all := lw_in 234 (by decide +kernel) (by decide +kernel)
theorem qi_X4_meaningsThatHold : Cond.instanceMethod yX4_meaningsThatHold ∈ lw_all := lw_in 236 (by decide +kernel) (by decide +kernel)
theorem qc_X4_meaningsThatHold : Cond.code yX4_meaningsThatHold cX4_meaningsThatHold 5 (some .int) ∈ lw_all := lw_in 237 (by decide +kernel) (by decide +kernel)
theorem qm_L_67 : Cond.methodLink RL 67 yX4_comment ∈ lw_all := lw_in 238 (by decide +kernel) (by decide +kernel)
theorem qi_X4_comment : Cond.instanceMethod yX4_comment ∈ lw_all := lw_in 239 (by decide +kernel) (by decide +kernel)
theorem qv_X4_comment : Cond.selects RX4 yX4_comment yX4_comment ∈ lw_all := lw_in 240 (by decide +kernel) (by decide +kernel)
theorem qc_X4_comment : Cond.code yX4_comment cX4_comment 6 (some .boolean) ∈ lw_all := lw_in 241 (by decide +kernel) (by decide +kernel)
theorem qm_X4_87 : Cond.methodLink RX4 87 yX4_isLate ∈ lw_all := lw_in 242 (by decide +kernel) (by decide +kernel)
theorem qi_X4_isLate : Cond.instanceMethod yX4_isLate ∈ lw_all := lw_in 244 (by decide +kernel) (by decide +kernel)
theorem qc_X4_isLate : Cond.code yX4_isLate cX4_isLate 3 (some .boolean) ∈ lw_all := lw_in 245 (by decide +kernel) (by decide +kernel)
theorem qm_L_72 : Cond.methodLink RL 72 yX4_digest ∈ lw_all := lw_in 246 (by decide +kernel) (by decide +kernel)
theorem qi_X4_digest : Cond.instanceMethod yX4_digest ∈ lw_all := lw_in 247 (by decide +kernel) (by decide +kernel)
theorem qv_X4_digest : Cond.selects RX4 yX4_digest yX4_digest ∈ lw_all := lw_in 248 (by decide +kernel) (by decide +kernel)
theorem qc_X4_digest : Cond.code yX4_digest cX4_digest 5 (some .int) ∈ lw_all := lw_in 249 (by decide +kernel) (by decide +kernel)
theorem qm_L_77 : Cond.methodLink RL 77 yX4_listed ∈ lw_all := lw_in 250 (by decide +kernel) (by decide +kernel)
theorem qi_X4_listed : Cond.instanceMethod yX4_listed ∈ lw_all := lw_in 251 (by decide +kernel) (by decide +kernel)
theorem qv_X4_listed : Cond.selects RX4 yX4_listed yX4_listed ∈ lw_all := lw_in 252 (by decide +kernel) (by decide +kernel)
theorem qc_X4_listed : Cond.code yX4_listed cX4_listed 2 (some .int) ∈ lw_all := lw_in 253 (by decide +kernel) (by decide +kernel)
theorem qm_L_81 : Cond.methodLink RL 81 yX4_needs ∈ lw_all := lw_in 254 (by decide +kernel) (by decide +kernel)
theorem qi_X4_needs : Cond.instanceMethod yX4_needs ∈ lw_all := lw_in 255 (by decide +kernel) (by decide +kernel)
theorem qv_X4_needs : Cond.selects RX4 yX4_needs yX4_needs ∈ lw_all := lw_in 256 (by decide +kernel) (by decide +kernel)
theorem qc_X4_needs : Cond.code yX4_needs cX4_needs 5 (some .int) ∈ lw_all := lw_in 257 (by decide +kernel) (by decide +kernel)
theorem qm_L_41 : Cond.methodLink RL 41 yL_sign ∈ lw_all := lw_in 258 (by decide +kernel) (by decide +kernel)
theorem qs_L_sign : Cond.static yL_sign ∈ lw_all := lw_in 259 (by decide +kernel) (by decide +kernel)
theorem ql_L_13 : Cond.classLink RL 13 "java/lang/IllegalStateException" ∈ lw_all := lw_in 261 (by decide +kernel) (by decide +kernel)
theorem qm_L_7 : Cond.methodLink RL 7 yX4_sign ∈ lw_all := lw_in 262 (by decide +kernel) (by decide +kernel)
theorem qi_X4_sign : Cond.instanceMethod yX4_sign ∈ lw_all := lw_in 263 (by decide +kernel) (by decide +kernel)
theorem qv_X4_sign : Cond.selects RX4 yX4_sign yX4_sign ∈ lw_all := lw_in 264 (by decide +kernel) (by decide +kernel)
theorem qc_X4_sign : Cond.code yX4_sign cX4_sign 8 (some .int) ∈ lw_all := lw_in 265 (by decide +kernel) (by decide +kernel)
theorem qm_X4_91 : Cond.methodLink RX4 91 yX4_hasRole ∈ lw_all := lw_in 266 (by decide +kernel) (by decide +kernel)
theorem qi_X4_hasRole : Cond.instanceMethod yX4_hasRole ∈ lw_all := lw_in 268 (by decide +kernel) (by decide +kernel)
theorem qc_X4_hasRole : Cond.code yX4_hasRole cX4_hasRole 7 (some .boolean) ∈ lw_all := lw_in 269 (by decide +kernel) (by decide +kernel)
theorem qm_X4_164 : Cond.methodLink RX4 164 yX0_isHeldBy ∈ lw_all := lw_in 270 (by decide +kernel) (by decide +kernel)
theorem qi_X0_isHeldBy : Cond.instanceMethod yX0_isHeldBy ∈ lw_all := lw_in 271 (by decide +kernel) (by decide +kernel)
theorem qv_X0_isHeldBy : Cond.selects RX0 yX0_isHeldBy yX0_isHeldBy ∈ lw_all := lw_in 272 (by decide +kernel) (by decide +kernel)
theorem qc_X0_isHeldBy : Cond.code yX0_isHeldBy cX0_isHeldBy 5 (some .boolean) ∈ lw_all := lw_in 273 (by decide +kernel) (by decide +kernel)
theorem ql_X4_95 : Cond.classLink RX4 95 "java/lang/IllegalStateException" ∈ lw_all := lw_in 274 (by decide +kernel) (by decide +kernel)
theorem qm_X4_99 : Cond.methodLink RX4 99 ⟨"java/lang/IllegalStateException", "<init>", "(Ljava/lang/String;)V"⟩ ∈ lw_all := lw_in 314 (by decide +kernel) (by decide +kernel)
theorem qm_X4_109 : Cond.methodLink RX4 109 yX4_isSignedBy ∈ lw_all := lw_in 339 (by decide +kernel) (by decide +kernel)
theorem qi_X4_isSignedBy : Cond.instanceMethod yX4_isSignedBy ∈ lw_all := lw_in 341 (by decide +kernel) (by decide +kernel)
theorem qc_X4_isSignedBy : Cond.code yX4_isSignedBy cX4_isSignedBy 6 (some .boolean) ∈ lw_all := lw_in 342 (by decide +kernel) (by decide +kernel)
theorem qm_X4_174 : Cond.methodLink RX4 174 yX2_isOf ∈ lw_all := lw_in 343 (by decide +kernel) (by decide +kernel)
theorem qi_X2_isOf : Cond.instanceMethod yX2_isOf ∈ lw_all := lw_in 344 (by decide +kernel) (by decide +kernel)
theorem qv_X2_isOf : Cond.selects RX2 yX2_isOf yX2_isOf ∈ lw_all := lw_in 345 (by decide +kernel) (by decide +kernel)
theorem qc_X2_isOf : Cond.code yX2_isOf cX2_isOf 4 (some .boolean) ∈ lw_all := lw_in 346 (by decide +kernel) (by decide +kernel)
theorem qx_X2 : Cond.instantiable RX2 5 ∈ lw_all := lw_in 347 (by decide +kernel) (by decide +kernel)
theorem qm_X4_116 : Cond.methodLink RX4 116 yX2_init ∈ lw_all := lw_in 348 (by decide +kernel) (by decide +kernel)
theorem qi_X2_init : Cond.instanceMethod yX2_init ∈ lw_all := lw_in 349 (by decide +kernel) (by decide +kernel)
theorem qc_X2_init : Cond.code yX2_init cX2_init 4 none ∈ lw_all := lw_in 350 (by decide +kernel) (by decide +kernel)
theorem qm_X2_3 : Cond.methodLink RX2 3 objectInit ∈ lw_all := lw_in 351 (by decide +kernel) (by decide +kernel)
theorem qf_X2_15 : Cond.fieldLink RX2 15 "SignRows$Signature" "thing" "LSignRows$Thing;" ∈ lw_all := lw_in 352 (by decide +kernel) (by decide +kernel)
theorem qf_X2_19 : Cond.fieldLink RX2 19 "SignRows$Signature" "person" "I" ∈ lw_all := lw_in 354 (by decide +kernel) (by decide +kernel)
theorem qf_X2_23 : Cond.fieldLink RX2 23 "SignRows$Signature" "meaning" "I" ∈ lw_all := lw_in 355 (by decide +kernel) (by decide +kernel)
theorem qf_X2_9 : Cond.fieldLink RX2 9 "SignRows$Signature" "digestWords" "[I" ∈ lw_all := lw_in 357 (by decide +kernel) (by decide +kernel)
theorem qy_X2_0 : u_lay RX2 TX2 0 ∈ lw_all := lw_in 360 (by decide +kernel) (by decide +kernel)
theorem qy_X2_1 : u_lay RX2 TX2 1 ∈ lw_all := lw_in 362 (by decide +kernel) (by decide +kernel)
theorem qy_X2_2 : u_lay RX2 TX2 2 ∈ lw_all := lw_in 364 (by decide +kernel) (by decide +kernel)
theorem qy_X2_3 : u_lay RX2 TX2 3 ∈ lw_all := lw_in 366 (by decide +kernel) (by decide +kernel)
theorem qy_X2_4 : u_lay RX2 TX2 4 ∈ lw_all := lw_in 368 (by decide +kernel) (by decide +kernel)
theorem ql_L_16 : Cond.classLink RL 16 RX5 ∈ lw_all := lw_in 371 (by decide +kernel) (by decide +kernel)
theorem qx_X5 : Cond.instantiable RX5 32 ∈ lw_all := lw_in 372 (by decide +kernel) (by decide +kernel)
theorem qm_L_18 : Cond.methodLink RL 18 yX5_init ∈ lw_all := lw_in 373 (by decide +kernel) (by decide +kernel)
theorem qi_X5_init : Cond.instanceMethod yX5_init ∈ lw_all := lw_in 374 (by decide +kernel) (by decide +kernel)
theorem qc_X5_init : Cond.code yX5_init cX5_init 1 none ∈ lw_all := lw_in 375 (by decide +kernel) (by decide +kernel)
theorem qm_X5_1 : Cond.methodLink RX5 1 objectInit ∈ lw_all := lw_in 376 (by decide +kernel) (by decide +kernel)
theorem qf_X5_88 : Cond.fieldLink RX5 88 "SignRowsModel" "persons" "I" ∈ lw_all := lw_in 377 (by decide +kernel) (by decide +kernel)
theorem qf_X5_107 : Cond.fieldLink RX5 107 "SignRowsModel" "roles" "I" ∈ lw_all := lw_in 378 (by decide +kernel) (by decide +kernel)
theorem qf_X5_9 : Cond.fieldLink RX5 9 "SignRowsModel" "rolePerson" "[I" ∈ lw_all := lw_in 379 (by decide +kernel) (by decide +kernel)
theorem qf_X5_13 : Cond.fieldLink RX5 13 "SignRowsModel" "roleKind" "[I" ∈ lw_all := lw_in 380 (by decide +kernel) (by decide +kernel)
theorem qf_X5_16 : Cond.fieldLink RX5 16 "SignRowsModel" "roleFrom" "[J" ∈ lw_all := lw_in 381 (by decide +kernel) (by decide +kernel)
theorem qf_X5_20 : Cond.fieldLink RX5 20 "SignRowsModel" "roleTo" "[J" ∈ lw_all := lw_in 382 (by decide +kernel) (by decide +kernel)
theorem qf_X5_91 : Cond.fieldLink RX5 91 "SignRowsModel" "things" "I" ∈ lw_all := lw_in 383 (by decide +kernel) (by decide +kernel)
theorem qf_X5_23 : Cond.fieldLink RX5 23 "SignRowsModel" "makers" "[I" ∈ lw_all := lw_in 384 (by decide +kernel) (by decide +kernel)
theorem qf_X5_26 : Cond.fieldLink RX5 26 "SignRowsModel" "lengths" "[I" ∈ lw_all := lw_in 385 (by decide +kernel) (by decide +kernel)
theorem qf_X5_29 : Cond.fieldLink RX5 29 "SignRowsModel" "digests" "[I" ∈ lw_all := lw_in 386 (by decide +kernel) (by decide +kernel)
theorem qf_X5_32 : Cond.fieldLink RX5 32 "SignRowsModel" "bytes" "[I" ∈ lw_all := lw_in 387 (by decide +kernel) (by decide +kernel)
theorem qf_X5_35 : Cond.fieldLink RX5 35 "SignRowsModel" "commentCounts" "[I" ∈ lw_all := lw_in 388 (by decide +kernel) (by decide +kernel)
theorem qf_X5_38 : Cond.fieldLink RX5 38 "SignRowsModel" "comments" "[I" ∈ lw_all := lw_in 389 (by decide +kernel) (by decide +kernel)
theorem qf_X5_41 : Cond.fieldLink RX5 41 "SignRowsModel" "needCounts" "[I" ∈ lw_all := lw_in 390 (by decide +kernel) (by decide +kernel)
theorem qf_X5_44 : Cond.fieldLink RX5 44 "SignRowsModel" "needs" "[I" ∈ lw_all := lw_in 391 (by decide +kernel) (by decide +kernel)
theorem qf_X5_117 : Cond.fieldLink RX5 117 "SignRowsModel" "signatures" "I" ∈ lw_all := lw_in 392 (by decide +kernel) (by decide +kernel)
theorem qf_X5_47 : Cond.fieldLink RX5 47 "SignRowsModel" "things2" "[I" ∈ lw_all := lw_in 393 (by decide +kernel) (by decide +kernel)
theorem qf_X5_50 : Cond.fieldLink RX5 50 "SignRowsModel" "signers" "[I" ∈ lw_all := lw_in 394 (by decide +kernel) (by decide +kernel)
theorem qf_X5_53 : Cond.fieldLink RX5 53 "SignRowsModel" "meanings" "[I" ∈ lw_all := lw_in 395 (by decide +kernel) (by decide +kernel)
theorem qf_X5_56 : Cond.fieldLink RX5 56 "SignRowsModel" "then" "[I" ∈ lw_all := lw_in 396 (by decide +kernel) (by decide +kernel)
theorem qf_X5_59 : Cond.fieldLink RX5 59 "SignRowsModel" "gone" "[Z" ∈ lw_all := lw_in 397 (by decide +kernel) (by decide +kernel)
theorem qf_X5_137 : Cond.fieldLink RX5 137 "SignRowsModel" "withdrawn" "I" ∈ lw_all := lw_in 398 (by decide +kernel) (by decide +kernel)
theorem qf_X5_63 : Cond.fieldLink RX5 63 "SignRowsModel" "list" "[I" ∈ lw_all := lw_in 399 (by decide +kernel) (by decide +kernel)
theorem qf_X5_66 : Cond.fieldLink RX5 66 "SignRowsModel" "behind" "[Z" ∈ lw_all := lw_in 400 (by decide +kernel) (by decide +kernel)
theorem qf_X5_123 : Cond.fieldLink RX5 123 "SignRowsModel" "clock" "J" ∈ lw_all := lw_in 401 (by decide +kernel) (by decide +kernel)
theorem qf_X5_84 : Cond.fieldLink RX5 84 "SignRowsModel" "thrown" "I" ∈ lw_all := lw_in 402 (by decide +kernel) (by decide +kernel)
theorem qf_X5_153 : Cond.fieldLink RX5 153 "SignRowsModel" "ready" "Z" ∈ lw_all := lw_in 403 (by decide +kernel) (by decide +kernel)
theorem qf_X5_69 : Cond.fieldLink RX5 69 "SignRowsModel" "constants" "[I" ∈ lw_all := lw_in 404 (by decide +kernel) (by decide +kernel)
theorem qf_X5_72 : Cond.fieldLink RX5 72 "SignRowsModel" "firsts" "[I" ∈ lw_all := lw_in 405 (by decide +kernel) (by decide +kernel)
theorem qf_X5_75 : Cond.fieldLink RX5 75 "SignRowsModel" "words" "[I" ∈ lw_all := lw_in 406 (by decide +kernel) (by decide +kernel)
theorem qf_X5_78 : Cond.fieldLink RX5 78 "SignRowsModel" "hash" "[I" ∈ lw_all := lw_in 407 (by decide +kernel) (by decide +kernel)
theorem qf_X5_81 : Cond.fieldLink RX5 81 "SignRowsModel" "now" "[I" ∈ lw_all := lw_in 408 (by decide +kernel) (by decide +kernel)
theorem qy_X5_0 : u_lay RX5 TX5 0 ∈ lw_all := lw_in 409 (by decide +kernel) (by decide +kernel)
theorem qy_X5_1 : u_lay RX5 TX5 1 ∈ lw_all := lw_in 411 (by decide +kernel) (by decide +kernel)
theorem qy_X5_2 : u_lay RX5 TX5 2 ∈ lw_all := lw_in 413 (by decide +kernel) (by decide +kernel)
theorem qy_X5_3 : u_lay RX5 TX5 3 ∈ lw_all := lw_in 415 (by decide +kernel) (by decide +kernel)
theorem qy_X5_4 : u_lay RX5 TX5 4 ∈ lw_all := lw_in 417 (by decide +kernel) (by decide +kernel)
theorem qy_X5_5 : u_lay RX5 TX5 5 ∈ lw_all := lw_in 419 (by decide +kernel) (by decide +kernel)
theorem qy_X5_6 : u_lay RX5 TX5 6 ∈ lw_all := lw_in 421 (by decide +kernel) (by decide +kernel)
theorem qy_X5_7 : u_lay RX5 TX5 7 ∈ lw_all := lw_in 423 (by decide +kernel) (by decide +kernel)
theorem qy_X5_8 : u_lay RX5 TX5 8 ∈ lw_all := lw_in 425 (by decide +kernel) (by decide +kernel)
theorem qy_X5_9 : u_lay RX5 TX5 9 ∈ lw_all := lw_in 427 (by decide +kernel) (by decide +kernel)
theorem qy_X5_10 : u_lay RX5 TX5 10 ∈ lw_all := lw_in 429 (by decide +kernel) (by decide +kernel)
theorem qy_X5_11 : u_lay RX5 TX5 11 ∈ lw_all := lw_in 431 (by decide +kernel) (by decide +kernel)
theorem qy_X5_12 : u_lay RX5 TX5 12 ∈ lw_all := lw_in 433 (by decide +kernel) (by decide +kernel)
theorem qy_X5_13 : u_lay RX5 TX5 13 ∈ lw_all := lw_in 435 (by decide +kernel) (by decide +kernel)
theorem qy_X5_14 : u_lay RX5 TX5 14 ∈ lw_all := lw_in 437 (by decide +kernel) (by decide +kernel)
theorem qy_X5_15 : u_lay RX5 TX5 15 ∈ lw_all := lw_in 439 (by decide +kernel) (by decide +kernel)
theorem qy_X5_16 : u_lay RX5 TX5 16 ∈ lw_all := lw_in 441 (by decide +kernel) (by decide +kernel)
theorem qy_X5_17 : u_lay RX5 TX5 17 ∈ lw_all := lw_in 443 (by decide +kernel) (by decide +kernel)
theorem qy_X5_18 : u_lay RX5 TX5 18 ∈ lw_all := lw_in 445 (by decide +kernel) (by decide +kernel)
theorem qy_X5_19 : u_lay RX5 TX5 19 ∈ lw_all := lw_in 447 (by decide +kernel) (by decide +kernel)
theorem qy_X5_20 : u_lay RX5 TX5 20 ∈ lw_all := lw_in 449 (by decide +kernel) (by decide +kernel)
theorem qy_X5_21 : u_lay RX5 TX5 21 ∈ lw_all := lw_in 451 (by decide +kernel) (by decide +kernel)
theorem qy_X5_22 : u_lay RX5 TX5 22 ∈ lw_all := lw_in 453 (by decide +kernel) (by decide +kernel)
theorem qy_X5_23 : u_lay RX5 TX5 23 ∈ lw_all := lw_in 455 (by decide +kernel) (by decide +kernel)
theorem qy_X5_24 : u_lay RX5 TX5 24 ∈ lw_all := lw_in 457 (by decide +kernel) (by decide +kernel)
theorem qy_X5_25 : u_lay RX5 TX5 25 ∈ lw_all := lw_in 459 (by decide +kernel) (by decide +kernel)
theorem qy_X5_26 : u_lay RX5 TX5 26 ∈ lw_all := lw_in 461 (by decide +kernel) (by decide +kernel)
theorem qy_X5_27 : u_lay RX5 TX5 27 ∈ lw_all := lw_in 463 (by decide +kernel) (by decide +kernel)
theorem qy_X5_28 : u_lay RX5 TX5 28 ∈ lw_all := lw_in 465 (by decide +kernel) (by decide +kernel)
theorem qy_X5_29 : u_lay RX5 TX5 29 ∈ lw_all := lw_in 467 (by decide +kernel) (by decide +kernel)
theorem qy_X5_30 : u_lay RX5 TX5 30 ∈ lw_all := lw_in 469 (by decide +kernel) (by decide +kernel)
theorem qy_X5_31 : u_lay RX5 TX5 31 ∈ lw_all := lw_in 471 (by decide +kernel) (by decide +kernel)
theorem qa_long : Cond.arrayClass .long ∈ lw_all := lw_in 474 (by decide +kernel) (by decide +kernel)
theorem qa_boolean : Cond.arrayClass .boolean ∈ lw_all := lw_in 475 (by decide +kernel) (by decide +kernel)
theorem qm_L_47 : Cond.methodLink RL 47 yX5_thrown ∈ lw_all := lw_in 476 (by decide +kernel) (by decide +kernel)
theorem qi_X5_thrown : Cond.instanceMethod yX5_thrown ∈ lw_all := lw_in 477 (by decide +kernel) (by decide +kernel)
theorem qv_X5_thrown : Cond.selects RX5 yX5_thrown yX5_thrown ∈ lw_all := lw_in 478 (by decide +kernel) (by decide +kernel)
theorem qc_X5_thrown : Cond.code yX5_thrown cX5_thrown 1 (some .int) ∈ lw_all := lw_in 479 (by decide +kernel) (by decide +kernel)
theorem qm_L_23 : Cond.methodLink RL 23 yX5_person ∈ lw_all := lw_in 480 (by decide +kernel) (by decide +kernel)
theorem qi_X5_person : Cond.instanceMethod yX5_person ∈ lw_all := lw_in 481 (by decide +kernel) (by decide +kernel)
theorem qv_X5_person : Cond.selects RX5 yX5_person yX5_person ∈ lw_all := lw_in 482 (by decide +kernel) (by decide +kernel)
theorem qc_X5_person : Cond.code yX5_person cX5_person 1 (some .int) ∈ lw_all := lw_in 483 (by decide +kernel) (by decide +kernel)
theorem qm_L_30 : Cond.methodLink RL 30 yX5_role ∈ lw_all := lw_in 484 (by decide +kernel) (by decide +kernel)
theorem qi_X5_role : Cond.instanceMethod yX5_role ∈ lw_all := lw_in 485 (by decide +kernel) (by decide +kernel)
theorem qv_X5_role : Cond.selects RX5 yX5_role yX5_role ∈ lw_all := lw_in 486 (by decide +kernel) (by decide +kernel)
theorem qc_X5_role : Cond.code yX5_role cX5_role 7 (some .boolean) ∈ lw_all := lw_in 487 (by decide +kernel) (by decide +kernel)
theorem qm_X5_96 : Cond.methodLink RX5 96 yX5_isPerson ∈ lw_all := lw_in 488 (by decide +kernel) (by decide +kernel)
theorem qi_X5_isPerson : Cond.instanceMethod yX5_isPerson ∈ lw_all := lw_in 490 (by decide +kernel) (by decide +kernel)
theorem qc_X5_isPerson : Cond.code yX5_isPerson cX5_isPerson 2 (some .boolean) ∈ lw_all := lw_in 491 (by decide +kernel) (by decide +kernel)
theorem qm_X5_100 : Cond.methodLink RX5 100 yX5_isTen ∈ lw_all := lw_in 492 (by decide +kernel) (by decide +kernel)
theorem qs_X5_isTen : Cond.static yX5_isTen ∈ lw_all := lw_in 493 (by decide +kernel) (by decide +kernel)
theorem qc_X5_isTen : Cond.code yX5_isTen cX5_isTen 1 (some .boolean) ∈ lw_all := lw_in 494 (by decide +kernel) (by decide +kernel)
theorem qm_X5_103 : Cond.methodLink RX5 103 yX5_isSecond ∈ lw_all := lw_in 495 (by decide +kernel) (by decide +kernel)
theorem qs_X5_isSecond : Cond.static yX5_isSecond ∈ lw_all := lw_in 496 (by decide +kernel) (by decide +kernel)
theorem qc_X5_isSecond : Cond.code yX5_isSecond cX5_isSecond 2 (some .boolean) ∈ lw_all := lw_in 497 (by decide +kernel) (by decide +kernel)
theorem qk_X5_94 : Cond.constantLong RX5 94 (1000000000000 : Int64) ∈ lw_all := lw_in 498 (by decide +kernel) (by decide +kernel)
theorem qm_L_35 : Cond.methodLink RL 35 yX5_thing ∈ lw_all := lw_in 499 (by decide +kernel) (by decide +kernel)
theorem qi_X5_thing : Cond.instanceMethod yX5_thing ∈ lw_all := lw_in 500 (by decide +kernel) (by decide +kernel)
theorem qv_X5_thing : Cond.selects RX5 yX5_thing yX5_thing ∈ lw_all := lw_in 501 (by decide +kernel) (by decide +kernel)
theorem qc_X5_thing : Cond.code yX5_thing cX5_thing 2 (some .int) ∈ lw_all := lw_in 502 (by decide +kernel) (by decide +kernel)
theorem qm_X5_110 : Cond.methodLink RX5 110 yX5_reckon ∈ lw_all := lw_in 503 (by decide +kernel) (by decide +kernel)
theorem qi_X5_reckon : Cond.instanceMethod yX5_reckon ∈ lw_all := lw_in 505 (by decide +kernel) (by decide +kernel)
theorem qc_X5_reckon : Cond.code yX5_reckon cX5_reckon 7 none ∈ lw_all := lw_in 506 (by decide +kernel) (by decide +kernel)
theorem qm_X5_157 : Cond.methodLink RX5 157 yX5_prepare ∈ lw_all := lw_in 507 (by decide +kernel) (by decide +kernel)
theorem qi_X5_prepare : Cond.instanceMethod yX5_prepare ∈ lw_all := lw_in 509 (by decide +kernel) (by decide +kernel)
theorem qc_X5_prepare : Cond.code yX5_prepare cX5_prepare 5 none ∈ lw_all := lw_in 510 (by decide +kernel) (by decide +kernel)
theorem qm_X5_149 : Cond.methodLink RX5 149 yX5_root ∈ lw_all := lw_in 511 (by decide +kernel) (by decide +kernel)
theorem qs_X5_root : Cond.static yX5_root ∈ lw_all := lw_in 512 (by decide +kernel) (by decide +kernel)
theorem qc_X5_root : Cond.code yX5_root cX5_root 6 (some .int) ∈ lw_all := lw_in 513 (by decide +kernel) (by decide +kernel)
theorem qk_X5_143 : Cond.constantDouble RX5 143 (4613937818241073152 : UInt64) ∈ lw_all := lw_in 514 (by decide +kernel) (by decide +kernel)
theorem qk_X5_145 : Cond.constantDouble RX5 145 (4611686018427387904 : UInt64) ∈ lw_all := lw_in 515 (by decide +kernel) (by decide +kernel)
theorem qk_X5_147 : Cond.constantDouble RX5 147 (4751297606875873280 : UInt64) ∈ lw_all := lw_in 516 (by decide +kernel) (by decide +kernel)
theorem qm_X5_131 : Cond.methodLink RX5 131 arraycopyName ∈ lw_all := lw_in 517 (by decide +kernel) (by decide +kernel)
theorem qs_copy : Cond.static arraycopyName ∈ lw_all := lw_in 518 (by decide +kernel) (by decide +kernel)
theorem qN_copy : Cond.native arraycopyName ∈ lw_all := lw_in 519 (by decide +kernel) (by decide +kernel)
theorem qm_X5_160 : Cond.methodLink RX5 160 yX5_padded ∈ lw_all := lw_in 520 (by decide +kernel) (by decide +kernel)
theorem qi_X5_padded : Cond.instanceMethod yX5_padded ∈ lw_all := lw_in 522 (by decide +kernel) (by decide +kernel)
theorem qc_X5_padded : Cond.code yX5_padded cX5_padded 6 (some .int) ∈ lw_all := lw_in 523 (by decide +kernel) (by decide +kernel)
theorem qm_X5_164 : Cond.methodLink RX5 164 yX5_turn ∈ lw_all := lw_in 524 (by decide +kernel) (by decide +kernel)
theorem qs_X5_turn : Cond.static yX5_turn ∈ lw_all := lw_in 525 (by decide +kernel) (by decide +kernel)
theorem qc_X5_turn : Cond.code yX5_turn cX5_turn 2 (some .int) ∈ lw_all := lw_in 526 (by decide +kernel) (by decide +kernel)
theorem qm_X5_168 : Cond.methodLink RX5 168 yX5_block ∈ lw_all := lw_in 527 (by decide +kernel) (by decide +kernel)
theorem qi_X5_block : Cond.instanceMethod yX5_block ∈ lw_all := lw_in 529 (by decide +kernel) (by decide +kernel)
theorem qc_X5_block : Cond.code yX5_block cX5_block 11 none ∈ lw_all := lw_in 530 (by decide +kernel) (by decide +kernel)
theorem qm_L_40 : Cond.methodLink RL 40 yX5_byteOf ∈ lw_all := lw_in 531 (by decide +kernel) (by decide +kernel)
theorem qi_X5_byteOf : Cond.instanceMethod yX5_byteOf ∈ lw_all := lw_in 532 (by decide +kernel) (by decide +kernel)
theorem qv_X5_byteOf : Cond.selects RX5 yX5_byteOf yX5_byteOf ∈ lw_all := lw_in 533 (by decide +kernel) (by decide +kernel)
theorem qc_X5_byteOf : Cond.code yX5_byteOf cX5_byteOf 3 (some .boolean) ∈ lw_all := lw_in 534 (by decide +kernel) (by decide +kernel)
theorem qm_X5_114 : Cond.methodLink RX5 114 yX5_isThing ∈ lw_all := lw_in 535 (by decide +kernel) (by decide +kernel)
theorem qi_X5_isThing : Cond.instanceMethod yX5_isThing ∈ lw_all := lw_in 537 (by decide +kernel) (by decide +kernel)
theorem qc_X5_isThing : Cond.code yX5_isThing cX5_isThing 2 (some .boolean) ∈ lw_all := lw_in 538 (by decide +kernel) (by decide +kernel)
theorem qm_L_46 : Cond.methodLink RL 46 yX5_sign ∈ lw_all := lw_in 539 (by decide +kernel) (by decide +kernel)
theorem qi_X5_sign : Cond.instanceMethod yX5_sign ∈ lw_all := lw_in 540 (by decide +kernel) (by decide +kernel)
theorem qv_X5_sign : Cond.selects RX5 yX5_sign yX5_sign ∈ lw_all := lw_in 541 (by decide +kernel) (by decide +kernel)
theorem qc_X5_sign : Cond.code yX5_sign cX5_sign 8 (some .int) ∈ lw_all := lw_in 542 (by decide +kernel) (by decide +kernel)
theorem qm_X5_127 : Cond.methodLink RX5 127 yX5_has ∈ lw_all := lw_in 543 (by decide +kernel) (by decide +kernel)
theorem qi_X5_has : Cond.instanceMethod yX5_has ∈ lw_all := lw_in 545 (by decide +kernel) (by decide +kernel)
theorem qc_X5_has : Cond.code yX5_has cX5_has 6 (some .boolean) ∈ lw_all := lw_in 546 (by decide +kernel) (by decide +kernel)
theorem qm_X5_120 : Cond.methodLink RX5 120 yX5_stands ∈ lw_all := lw_in 547 (by decide +kernel) (by decide +kernel)
theorem qi_X5_stands : Cond.instanceMethod yX5_stands ∈ lw_all := lw_in 549 (by decide +kernel) (by decide +kernel)
theorem qc_X5_stands : Cond.code yX5_stands cX5_stands 4 (some .boolean) ∈ lw_all := lw_in 550 (by decide +kernel) (by decide +kernel)
theorem qm_L_54 : Cond.methodLink RL 54 yX5_holds ∈ lw_all := lw_in 551 (by decide +kernel) (by decide +kernel)
theorem qi_X5_holds : Cond.instanceMethod yX5_holds ∈ lw_all := lw_in 552 (by decide +kernel) (by decide +kernel)
theorem qv_X5_holds : Cond.selects RX5 yX5_holds yX5_holds ∈ lw_all := lw_in 553 (by decide +kernel) (by decide +kernel)
theorem qc_X5_holds : Cond.code yX5_holds cX5_holds 2 (some .boolean) ∈ lw_all := lw_in 554 (by decide +kernel) (by decide +kernel)
theorem qm_L_58 : Cond.methodLink RL 58 yX5_withdraw ∈ lw_all := lw_in 555 (by decide +kernel) (by decide +kernel)
theorem qi_X5_withdraw : Cond.instanceMethod yX5_withdraw ∈ lw_all := lw_in 556 (by decide +kernel) (by decide +kernel)
theorem qv_X5_withdraw : Cond.selects RX5 yX5_withdraw yX5_withdraw ∈ lw_all := lw_in 557 (by decide +kernel) (by decide +kernel)
theorem qc_X5_withdraw : Cond.code yX5_withdraw cX5_withdraw 2 (some .boolean) ∈ lw_all := lw_in 558 (by decide +kernel) (by decide +kernel)
theorem qm_L_62 : Cond.methodLink RL 62 yX5_order ∈ lw_all := lw_in 559 (by decide +kernel) (by decide +kernel)
theorem qi_X5_order : Cond.instanceMethod yX5_order ∈ lw_all := lw_in 560 (by decide +kernel) (by decide +kernel)
theorem qv_X5_order : Cond.selects RX5 yX5_order yX5_order ∈ lw_all := lw_in 561 (by decide +kernel) (by decide +kernel)
theorem qc_X5_order : Cond.code yX5_order cX5_order 3 (some .boolean) ∈ lw_all := lw_in 562 (by decide +kernel) (by decide +kernel)
theorem qm_X5_140 : Cond.methodLink RX5 140 yX5_comes ∈ lw_all := lw_in 563 (by decide +kernel) (by decide +kernel)
theorem qi_X5_comes : Cond.instanceMethod yX5_comes ∈ lw_all := lw_in 565 (by decide +kernel) (by decide +kernel)
theorem qc_X5_comes : Cond.code yX5_comes cX5_comes 6 (some .boolean) ∈ lw_all := lw_in 566 (by decide +kernel) (by decide +kernel)
theorem qm_L_66 : Cond.methodLink RL 66 yX5_complete ∈ lw_all := lw_in 567 (by decide +kernel) (by decide +kernel)
theorem qi_X5_complete : Cond.instanceMethod yX5_complete ∈ lw_all := lw_in 568 (by decide +kernel) (by decide +kernel)
theorem qv_X5_complete : Cond.selects RX5 yX5_complete yX5_complete ∈ lw_all := lw_in 569 (by decide +kernel) (by decide +kernel)
theorem qc_X5_complete : Cond.code yX5_complete cX5_complete 3 (some .int) ∈ lw_all := lw_in 570 (by decide +kernel) (by decide +kernel)
theorem qm_L_71 : Cond.methodLink RL 71 yX5_comment ∈ lw_all := lw_in 571 (by decide +kernel) (by decide +kernel)
theorem qi_X5_comment : Cond.instanceMethod yX5_comment ∈ lw_all := lw_in 572 (by decide +kernel) (by decide +kernel)
theorem qv_X5_comment : Cond.selects RX5 yX5_comment yX5_comment ∈ lw_all := lw_in 573 (by decide +kernel) (by decide +kernel)
theorem qc_X5_comment : Cond.code yX5_comment cX5_comment 5 (some .boolean) ∈ lw_all := lw_in 574 (by decide +kernel) (by decide +kernel)
theorem qm_L_76 : Cond.methodLink RL 76 yX5_digest ∈ lw_all := lw_in 575 (by decide +kernel) (by decide +kernel)
theorem qi_X5_digest : Cond.instanceMethod yX5_digest ∈ lw_all := lw_in 576 (by decide +kernel) (by decide +kernel)
theorem qv_X5_digest : Cond.selects RX5 yX5_digest yX5_digest ∈ lw_all := lw_in 577 (by decide +kernel) (by decide +kernel)
theorem qc_X5_digest : Cond.code yX5_digest cX5_digest 3 (some .int) ∈ lw_all := lw_in 578 (by decide +kernel) (by decide +kernel)
theorem qm_L_80 : Cond.methodLink RL 80 yX5_listed ∈ lw_all := lw_in 579 (by decide +kernel) (by decide +kernel)
theorem qi_X5_listed : Cond.instanceMethod yX5_listed ∈ lw_all := lw_in 580 (by decide +kernel) (by decide +kernel)
theorem qv_X5_listed : Cond.selects RX5 yX5_listed yX5_listed ∈ lw_all := lw_in 581 (by decide +kernel) (by decide +kernel)
theorem qc_X5_listed : Cond.code yX5_listed cX5_listed 2 (some .int) ∈ lw_all := lw_in 582 (by decide +kernel) (by decide +kernel)
theorem qm_L_84 : Cond.methodLink RL 84 yX5_needs ∈ lw_all := lw_in 583 (by decide +kernel) (by decide +kernel)
theorem qi_X5_needs : Cond.instanceMethod yX5_needs ∈ lw_all := lw_in 584 (by decide +kernel) (by decide +kernel)
theorem qv_X5_needs : Cond.selects RX5 yX5_needs yX5_needs ∈ lw_all := lw_in 585 (by decide +kernel) (by decide +kernel)
theorem qc_X5_needs : Cond.code yX5_needs cX5_needs 5 (some .int) ∈ lw_all := lw_in 586 (by decide +kernel) (by decide +kernel)
theorem qk_L_24 : Cond.constantLong RL 24 (4294967295 : Int64) ∈ lw_all := lw_in 587 (by decide +kernel) (by decide +kernel)
theorem qv_X4_isPerson : Cond.selects RX4 yX4_isPerson yX4_isPerson ∈ lw_all := lw_inS 0 (by decide +kernel) (by decide +kernel)
theorem qv_X4_thingAt : Cond.selects RX4 yX4_thingAt yX4_thingAt ∈ lw_all := lw_inS 1 (by decide +kernel) (by decide +kernel)
theorem qv_X4_signatureAt : Cond.selects RX4 yX4_signatureAt yX4_signatureAt ∈ lw_all := lw_inS 2 (by decide +kernel) (by decide +kernel)
theorem qv_X4_isStanding : Cond.selects RX4 yX4_isStanding yX4_isStanding ∈ lw_all := lw_inS 3 (by decide +kernel) (by decide +kernel)
theorem qv_X4_digestWordsOf : Cond.selects RX4 yX4_digestWordsOf yX4_digestWordsOf ∈ lw_all := lw_inS 4 (by decide +kernel) (by decide +kernel)
theorem qv_X1_loadBlock : Cond.selects RX1 yX1_loadBlock yX1_loadBlock ∈ lw_all := lw_inS 5 (by decide +kernel) (by decide +kernel)
theorem qv_X1_spreadBlock : Cond.selects RX1 yX1_spreadBlock yX1_spreadBlock ∈ lw_all := lw_inS 6 (by decide +kernel) (by decide +kernel)
theorem qv_X1_mixBlock : Cond.selects RX1 yX1_mixBlock yX1_mixBlock ∈ lw_all := lw_inS 7 (by decide +kernel) (by decide +kernel)
theorem qv_X4_meaningsThatHold : Cond.selects RX4 yX4_meaningsThatHold yX4_meaningsThatHold ∈ lw_all := lw_inS 8 (by decide +kernel) (by decide +kernel)
theorem qv_X4_isLate : Cond.selects RX4 yX4_isLate yX4_isLate ∈ lw_all := lw_inS 9 (by decide +kernel) (by decide +kernel)
theorem qv_X4_hasRole : Cond.selects RX4 yX4_hasRole yX4_hasRole ∈ lw_all := lw_inS 10 (by decide +kernel) (by decide +kernel)
theorem qv_X4_isSignedBy : Cond.selects RX4 yX4_isSignedBy yX4_isSignedBy ∈ lw_all := lw_inS 12 (by decide +kernel) (by decide +kernel)
theorem qv_X5_isPerson : Cond.selects RX5 yX5_isPerson yX5_isPerson ∈ lw_all := lw_inS 13 (by decide +kernel) (by decide +kernel)
theorem qv_X5_reckon : Cond.selects RX5 yX5_reckon yX5_reckon ∈ lw_all := lw_inS 14 (by decide +kernel) (by decide +kernel)
theorem qv_X5_prepare : Cond.selects RX5 yX5_prepare yX5_prepare ∈ lw_all := lw_inS 15 (by decide +kernel) (by decide +kernel)
theorem qv_X5_padded : Cond.selects RX5 yX5_padded yX5_padded ∈ lw_all := lw_inS 16 (by decide +kernel) (by decide +kernel)
theorem qv_X5_block : Cond.selects RX5 yX5_block yX5_block ∈ lw_all := lw_inS 17 (by decide +kernel) (by decide +kernel)
theorem qv_X5_isThing : Cond.selects RX5 yX5_isThing yX5_isThing ∈ lw_all := lw_inS 18 (by decide +kernel) (by decide +kernel)
theorem qv_X5_has : Cond.selects RX5 yX5_has yX5_has ∈ lw_all := lw_inS 19 (by decide +kernel) (by decide +kernel)
theorem qv_X5_stands : Cond.selects RX5 yX5_stands yX5_stands ∈ lw_all := lw_inS 20 (by decide +kernel) (by decide +kernel)
theorem qv_X5_comes : Cond.selects RX5 yX5_comes yX5_comes ∈ lw_all := lw_inS 21 (by decide +kernel) (by decide +kernel)
theorem qy_X0 : ∀ w ∈ u_ws RX0 TX0 4, w ∈ lw_all := by
  intro w hw
  obtain ⟨k, hk, rfl⟩ := List.mem_map.mp hw
  have hk := List.mem_range.mp hk
  match k, hk with
  | 0, _ => exact qy_X0_0
  | 1, _ => exact qy_X0_1
  | 2, _ => exact qy_X0_2
  | 3, _ => exact qy_X0_3
  | k + 4, hk => exact absurd hk (by omega)
theorem qy_X1 : ∀ w ∈ u_ws RX1 TX1 2, w ∈ lw_all := by
  intro w hw
  obtain ⟨k, hk, rfl⟩ := List.mem_map.mp hw
  have hk := List.mem_range.mp hk
  match k, hk with
  | 0, _ => exact qy_X1_0
  | 1, _ => exact qy_X1_1
  | k + 2, hk => exact absurd hk (by omega)
theorem qy_X2 : ∀ w ∈ u_ws RX2 TX2 5, w ∈ lw_all := by
  intro w hw
  obtain ⟨k, hk, rfl⟩ := List.mem_map.mp hw
  have hk := List.mem_range.mp hk
  match k, hk with
  | 0, _ => exact qy_X2_0
  | 1, _ => exact qy_X2_1
  | 2, _ => exact qy_X2_2
  | 3, _ => exact qy_X2_3
  | 4, _ => exact qy_X2_4
  | k + 5, hk => exact absurd hk (by omega)
theorem qy_X3 : ∀ w ∈ u_ws RX3 TX3 9, w ∈ lw_all := by
  intro w hw
  obtain ⟨k, hk, rfl⟩ := List.mem_map.mp hw
  have hk := List.mem_range.mp hk
  match k, hk with
  | 0, _ => exact qy_X3_0
  | 1, _ => exact qy_X3_1
  | 2, _ => exact qy_X3_2
  | 3, _ => exact qy_X3_3
  | 4, _ => exact qy_X3_4
  | 5, _ => exact qy_X3_5
  | 6, _ => exact qy_X3_6
  | 7, _ => exact qy_X3_7
  | 8, _ => exact qy_X3_8
  | k + 9, hk => exact absurd hk (by omega)
theorem qy_X4 : ∀ w ∈ u_ws RX4 TX4 13, w ∈ lw_all := by
  intro w hw
  obtain ⟨k, hk, rfl⟩ := List.mem_map.mp hw
  have hk := List.mem_range.mp hk
  match k, hk with
  | 0, _ => exact qy_X4_0
  | 1, _ => exact qy_X4_1
  | 2, _ => exact qy_X4_2
  | 3, _ => exact qy_X4_3
  | 4, _ => exact qy_X4_4
  | 5, _ => exact qy_X4_5
  | 6, _ => exact qy_X4_6
  | 7, _ => exact qy_X4_7
  | 8, _ => exact qy_X4_8
  | 9, _ => exact qy_X4_9
  | 10, _ => exact qy_X4_10
  | 11, _ => exact qy_X4_11
  | 12, _ => exact qy_X4_12
  | k + 13, hk => exact absurd hk (by omega)
theorem qy_X5 : ∀ w ∈ u_ws RX5 TX5 32, w ∈ lw_all := by
  intro w hw
  obtain ⟨k, hk, rfl⟩ := List.mem_map.mp hw
  have hk := List.mem_range.mp hk
  match k, hk with
  | 0, _ => exact qy_X5_0
  | 1, _ => exact qy_X5_1
  | 2, _ => exact qy_X5_2
  | 3, _ => exact qy_X5_3
  | 4, _ => exact qy_X5_4
  | 5, _ => exact qy_X5_5
  | 6, _ => exact qy_X5_6
  | 7, _ => exact qy_X5_7
  | 8, _ => exact qy_X5_8
  | 9, _ => exact qy_X5_9
  | 10, _ => exact qy_X5_10
  | 11, _ => exact qy_X5_11
  | 12, _ => exact qy_X5_12
  | 13, _ => exact qy_X5_13
  | 14, _ => exact qy_X5_14
  | 15, _ => exact qy_X5_15
  | 16, _ => exact qy_X5_16
  | 17, _ => exact qy_X5_17
  | 18, _ => exact qy_X5_18
  | 19, _ => exact qy_X5_19
  | 20, _ => exact qy_X5_20
  | 21, _ => exact qy_X5_21
  | 22, _ => exact qy_X5_22
  | 23, _ => exact qy_X5_23
  | 24, _ => exact qy_X5_24
  | 25, _ => exact qy_X5_25
  | 26, _ => exact qy_X5_26
  | 27, _ => exact qy_X5_27
  | 28, _ => exact qy_X5_28
  | 29, _ => exact qy_X5_29
  | 30, _ => exact qy_X5_30
  | 31, _ => exact qy_X5_31
  | k + 32, hk => exact absurd hk (by omega)
end
section
/-! labelled worlds: a cell is named by a label (kind, number); its address and what it holds are functions of the label -/
abbrev FE : Type := (Nat × Nat × ((Nat → Int32) ⊕ (Nat → Int64) ⊕ (Nat → Option Nat))) ⊕ (Nat × List Value)
abbrev FW : Type := (Nat → Nat → Nat) × (Nat → Nat → Option FE)
/-- classes and slots, the array classes, the first free address, FIRST_STATE's cell, ROUND_WORDS' cell, the text's cell -/
abbrev FG : Type := va_G × (Nat → ClassId) × Nat × Nat × Nat × Nat
abbrev aI (k n : Nat) (f : Nat → Int32) : FE := .inl (k, n, .inl f)
abbrev aL (n : Nat) (f : Nat → Int64) : FE := .inl (2, n, .inr (.inl f))
abbrev aR (k n : Nat) (f : Nat → Option Nat) : FE := .inl (k, n, .inr (.inr f))
abbrev oO (ci : Nat) (fs : List Value) : FE := .inr (ci, fs)
def fTy (k : Nat) : FieldType := match k with
  | 0 => .byte
  | 1 => .int
  | 2 => .long
  | 3 => .boolean
  | 4 => .object RX0
  | 5 => .object RX2
  | _ => .object RX3
def fcv (Γ : FG) (e : FE) : va_E := match e with
  | .inl (k, n, .inl f) => .inl (Γ.2.1 k, n, .inl f)
  | .inl (k, n, .inr (.inl f)) => .inl (Γ.2.1 k, n, .inr (.inl f))
  | .inl (k, n, .inr (.inr f)) => .inl (Γ.2.1 k, n, .inr (.inr (.inr (.inr f))))
  | .inr o => .inr o
def fA (Γ : FG) : Nat → Prop := fun q => Γ.2.2.1 ≤ q
def fE0 : FE := .inr (0, [])
def fL (Γ : FG) (w : FW) (L : List (Nat × Nat)) : va_W := L.map fun x => (w.1 x.1 x.2, fcv Γ ((w.2 x.1 x.2).getD fE0))
def fP (Γ : FG) (w : FW) (H : Heap) : Prop := ∃ L : List (Nat × Nat), (∀ k i, (k, i) ∈ L ↔ w.2 k i ≠ none) ∧ va_P Γ.1 vwCl (fL Γ w L) H ∧ va_D (fA Γ) (fL Γ w L)
def f2 {α : Type} (g : Nat → Nat → α) (k i : Nat) (v : α) : Nat → Nat → α := fun k' i' => if k' = k then (if i' = i then v else g k' i') else g k' i'
theorem f2_s {α : Type} {g : Nat → Nat → α} {k i : Nat} {v : α} : f2 g k i v k i = v := by simp [f2]
theorem f2_k {α : Type} {g : Nat → Nat → α} {k i k' i' : Nat} {v : α} (h : k' ≠ k) : f2 g k i v k' i' = g k' i' := by simp [f2, h]
theorem f2_i {α : Type} {g : Nat → Nat → α} {k i k' i' : Nat} {v : α} (h : i' ≠ i) : f2 g k i v k' i' = g k' i' := by simp [f2, h]
def fset (w : FW) (k i : Nat) (e : FE) : FW := (w.1, f2 w.2 k i (some e))
def fnew (w : FW) (k i : Nat) (e : FE) (q : Nat) : FW := (f2 w.1 k i q, f2 w.2 k i (some e))
theorem fL_at {Γ : FG} {w : FW} {L : List (Nat × Nat)} (hL : ∀ k i, (k, i) ∈ L ↔ w.2 k i ≠ none) {k i : Nat} {e : FE} (he : w.2 k i = some e) : ∃ q0 : Nat, L[q0]? = some (k, i) ∧ (fL Γ w L)[q0]? = some (w.1 k i, fcv Γ e) := by
  obtain ⟨q0, h⟩ := List.getElem?_of_mem ((hL k i).mpr (by rw [he]; exact fun h => by cases h))
  exact ⟨q0, h, by rw [fL, List.getElem?_map, h]; simp [he]⟩
theorem fL_set {Γ : FG} {w : FW} {L : List (Nat × Nat)} {A : Nat → Prop} (hD : va_D A (fL Γ w L)) {k i q0 : Nat} {e e' : FE} (he : w.2 k i = some e) (h0 : L[q0]? = some (k, i)) : (fL Γ w L).set q0 (w.1 k i, fcv Γ e') = fL Γ (fset w k i e') L := by
  have hq : (fL Γ w L)[q0]? = some (w.1 k i, fcv Γ e) := by rw [fL, List.getElem?_map, h0]; simp [he]
  have hl := (List.getElem?_eq_some_iff.mp hq).1
  apply List.ext_getElem?
  intro j
  by_cases hj : j = q0
  · subst hj
    rw [List.getElem?_set_self hl, fL, List.getElem?_map, h0]
    simp [fset, f2]
  · rw [List.getElem?_set_ne (Ne.symm hj), fL, fL, List.getElem?_map, List.getElem?_map]
    cases hx : L[j]? with
    | none => rfl
    | some x =>
      obtain ⟨a, b⟩ := x
      simp only [Option.map_some, fset]
      have hne : ¬ (a = k ∧ b = i) := by
        rintro ⟨rfl, rfl⟩
        exact hj (hD.1 j q0 (w.1 a b, fcv Γ e) (w.1 a b, fcv Γ e) (by rw [fL, List.getElem?_map, hx]; simp [he]) hq rfl)
      by_cases ha : a = k
      · have hb : b ≠ i := fun h => hne ⟨ha, h⟩
        rw [f2_i hb]
      · rw [f2_k ha]
theorem fset_mem {w : FW} {L : List (Nat × Nat)} (hL : ∀ k i, (k, i) ∈ L ↔ w.2 k i ≠ none) {k i : Nat} {e e' : FE} (he : w.2 k i = some e) : ∀ k' i', (k', i') ∈ L ↔ (fset w k i e').2 k' i' ≠ none := by
  intro k' i'
  rw [hL]
  show _ ↔ f2 w.2 k i (some e') k' i' ≠ none
  by_cases ha : k' = k
  · by_cases hb : i' = i
    · subst ha; subst hb
      rw [f2_s, he]
      simp
    · rw [f2_i hb]
  · rw [f2_k ha]
theorem fP_at {Γ : FG} {w : FW} {H : Heap} (h : fP Γ w H) {k i : Nat} {e : FE} (he : w.2 k i = some e) : va_at Γ.1 vwCl (w.1 k i, fcv Γ e) H := by
  obtain ⟨L, hL, hP, -⟩ := h
  obtain ⟨q0, -, h1⟩ := fL_at (Γ := Γ) hL he
  exact hP q0 _ h1
theorem fP_inj {Γ : FG} {w : FW} {H : Heap} (h : fP Γ w H) {k i k' i' : Nat} (h1 : w.2 k i ≠ none) (h2 : w.2 k' i' ≠ none) (ha : w.1 k i = w.1 k' i') : k = k' ∧ i = i' := by
  obtain ⟨L, hL, hP, hD⟩ := h
  obtain ⟨e, he⟩ := Option.ne_none_iff_exists'.mp h1
  obtain ⟨e', he'⟩ := Option.ne_none_iff_exists'.mp h2
  obtain ⟨q0, a1, a2⟩ := fL_at (Γ := Γ) hL he
  obtain ⟨q1, b1, b2⟩ := fL_at (Γ := Γ) hL he'
  have := hD.1 q0 q1 _ _ a2 b2 ha
  subst this
  have h3 := a1.symm.trans b1
  simp at h3
  exact h3
theorem fP_new {Γ : FG} {w : FW} {H1 : Heap} {L : List (Nat × Nat)} {q k i : Nat} {e : FE} (hL : ∀ k i, (k, i) ∈ L ↔ w.2 k i ≠ none) (hn : w.2 k i = none) (hP : va_P Γ.1 vwCl (fL Γ w L ++ [(q, fcv Γ e)]) H1) (hD : va_D (fA Γ) (fL Γ w L ++ [(q, fcv Γ e)])) : fP Γ (fnew w k i e q) H1 := by
  have hnL : (k, i) ∉ L := fun h => (hL k i).mp h hn
  have key : fL Γ (fnew w k i e q) (L ++ [(k, i)]) = fL Γ w L ++ [(q, fcv Γ e)] := by
    rw [fL, fL, List.map_append]
    congr 1
    · apply List.map_congr_left
      rintro ⟨a, b⟩ hx
      have hne : ¬ (a = k ∧ b = i) := by
        rintro ⟨rfl, rfl⟩
        exact hnL hx
      simp only [fnew]
      by_cases ha : a = k
      · have hb : b ≠ i := fun h => hne ⟨ha, h⟩
        rw [f2_i hb, f2_i hb]
      · rw [f2_k ha, f2_k ha]
    · simp [fnew, f2]
  refine ⟨L ++ [(k, i)], fun k' i' => ?_, by rw [key]; exact hP, by rw [key]; exact hD⟩
  rw [List.mem_append, hL, List.mem_singleton]
  show _ ↔ f2 w.2 k i (some e) k' i' ≠ none
  by_cases ha : k' = k
  · by_cases hb : i' = i
    · subst ha; subst hb
      rw [f2_s]
      simp
    · rw [f2_i hb]
      simp [ha, hb]
  · rw [f2_k ha]
    simp [ha]
def fNest : List (Nat × String × String × String) := [(185, RX1, "state", "[I"), (102, RX3, "maker", "I"), (79, RX3, "bytes", "[B"), (76, RX3, "byteCount", "I"), (188, RX3, "digestWords", "[I"), (83, RX3, "digestStale", "Z"), (161, RX3, "comments", "[B"), (158, RX3, "commentCount", "I"), (155, RX3, "needed", "[I"), (152, RX3, "neededCount", "I"), (167, RX2, "thing", "LSignRows$Thing;"), (171, RX2, "meaning", "I"), (123, RX2, "digestWords", "[I"), (142, RX2, "isWithdrawn", "Z")]
def fTys (Γ : FG) : List (ClassId × FieldType) := (List.range 7).map fun k => (Γ.2.1 k, fTy k)
abbrev fISE : String := "java/lang/IllegalStateException"
abbrev fTxt : String := "the person does not hold the role at that second"
/-- what a throw needs of the tables that no list of good words holds -/
def fKx (U : State) : Prop := va_Nw (.castable fISE fISE) U ∧ va_Nw (.declares (Bundle.initS "java/lang/RuntimeException")) U ∧ va_Nw (.declares (Bundle.initS "java/lang/Exception")) U ∧ va_Nw (.declares (Bundle.initS Bundle.tN)) U
def fK (Γ : FG) (U : State) : Prop := va_K Γ.1 vwCl (fTys Γ) U ∧ (∀ q ∈ fNest, va_Nw (.fieldLinkNest RX4 q.1 q.2.1 q.2.2.1 q.2.2.2 RX4) U) ∧ va_Nw (.methodLinkNest RX1 21 yX4_copyWords RX4) U ∧ (va_AO RX0 U ∧ va_AO RX2 U ∧ va_AO RX3 U) ∧ fKx U ∧ vk_R RX4 97 fTxt Γ.2.2.2.2.2 U
def shHl : List Int32 := [1779033703, (-1150833019), 1013904242, (-1521486534), 1359893119, (-1694144372), 528734635, 1541459225]
def shKl : List Int32 := [1116352408, 1899447441, (-1245643825), (-373957723), 961987163, 1508970993, (-1841331548), (-1424204075), (-670586216), 310598401, 607225278, 1426881987, 1925078388, (-2132889090), (-1680079193), (-1046744716), (-459576895), (-272742522), 264347078, 604807628, 770255983, 1249150122, 1555081692, 1996064986, (-1740746414), (-1473132947), (-1341970488), (-1084653625), (-958395405), (-710438585), 113926993, 338241895, 666307205, 773529912, 1294757372, 1396182291, 1695183700, 1986661051, (-2117940946), (-1838011259), (-1564481375), (-1474664885), (-1035236496), (-949202525), (-778901479), (-694614492), (-200395387), 275423344, 430227734, 506948616, 659060556, 883997877, 958139571, 1322822218, 1537002063, 1747873779, 1955562222, 2024104815, (-2067236844), (-1933114872), (-1866530822), (-1538233109), (-1090935817), (-965641998)]
def shH (j : Nat) : Int32 := shHl.getD j 0
def shK (j : Nat) : Int32 := shKl.getD j 0
def fT (Γ : FG) (U : State) (H : Heap) : Prop :=
  (va_Z RX1 "FIRST_STATE" "[I" (.ref Γ.2.2.2.1) (fA Γ) U H ∧ va_T .int Γ.2.2.2.1 8 (fun j => .int (shH j)) (fA Γ) U H) ∧
  (va_Z RX1 "ROUND_WORDS" "[I" (.ref Γ.2.2.2.2.1) (fA Γ) U H ∧ va_T .int Γ.2.2.2.2.1 64 (fun j => .int (shK j)) (fA Γ) U H) ∧
  vx_Zq Bundle.tN "UNASSIGNED_STACK" Bundle.steD (fA Γ) U H ∧ vx_Zq Bundle.tN "SUPPRESSED_SENTINEL" Bundle.listD (fA Γ) U H
/-- what every method of this claim finds at its start, and leaves at its end -/
def fI (Γ : FG) (w : FW) (U : State) : Prop := fP Γ w U.heap ∧ fK Γ U ∧ fT Γ U U.heap ∧ Γ.2.2.1 ≤ U.heap.size
theorem fK_warm {Γ : FG} {s U : State} (hW : s.WarmedH U.vm) (h : fK Γ s) : fK Γ U :=
  ⟨va_K.moved hW.alike h.1, fun q hq => va_Nw.warmF hW (h.2.1 q hq), va_Nw.warmM hW h.2.2.1, ⟨va_AO.moved hW.alike h.2.2.2.1.1, va_AO.moved hW.alike h.2.2.2.1.2.1, va_AO.moved hW.alike h.2.2.2.1.2.2⟩, ⟨va_Nw.warmC hW h.2.2.2.2.1.1, va_Nw.warmD hW h.2.2.2.2.1.2.1, va_Nw.warmD hW h.2.2.2.2.1.2.2.1, va_Nw.warmD hW h.2.2.2.2.1.2.2.2⟩, vk_R.warm hW h.2.2.2.2.2⟩
theorem fK_same {Γ : FG} {u U : State} (hv : u.vm = U.vm) (h : fK Γ u) : fK Γ U := by
  have hA : u.vm.Alike U.vm := by rw [hv]; exact Vm.Alike.refl _
  exact ⟨va_K.moved hA h.1, fun q hq => va_Nw.same rfl hv (h.2.1 q hq), va_Nw.same rfl hv h.2.2.1, ⟨va_AO.moved hA h.2.2.2.1.1, va_AO.moved hA h.2.2.2.1.2.1, va_AO.moved hA h.2.2.2.1.2.2⟩, ⟨va_Nw.same rfl hv h.2.2.2.2.1.1, va_Nw.same rfl hv h.2.2.2.2.1.2.1, va_Nw.same rfl hv h.2.2.2.2.1.2.2.1, va_Nw.same rfl hv h.2.2.2.2.1.2.2.2⟩, vk_R.same hv.symm h.2.2.2.2.2⟩
theorem fT_moved {Γ : FG} {u U : State} {H : Heap} (hA : u.vm.Alike U.vm) (h : fT Γ u H) : fT Γ U H :=
  ⟨⟨va_Z.moved hA h.1.1, va_T.moved hA h.1.2⟩, ⟨va_Z.moved hA h.2.1.1, va_T.moved hA h.2.1.2⟩, vx_Zq.moved hA h.2.2.1, vx_Zq.moved hA h.2.2.2⟩
theorem fT_kept {Γ : FG} {U : State} {H H1 : Heap} (h : fT Γ U H) (hq : ∀ a : Nat, a < H.size → ¬ fA Γ a → H1[a]? = H[a]?) : fT Γ U H1 :=
  ⟨⟨h.1.1.kept hq, h.1.2.kept hq⟩, ⟨h.2.1.1.kept hq, h.2.1.2.kept hq⟩, h.2.2.1.kept hq, h.2.2.2.kept hq⟩
theorem fI_at {Γ : FG} {w : FW} {s U : State} {H : Heap} {locs : List Loc} (hK : fK Γ s) (hT : fT Γ s s.heap) (hB : Γ.2.2.1 ≤ s.heap.size) (hS : va_S (fA Γ) s.heap H locs) (hP : fP Γ w H) (hU : U.heap = H) (hW : s.WarmedH U.vm) : fI Γ w U :=
  ⟨by rw [hU]; exact hP, fK_warm hW hK, by rw [hU]; exact fT_moved hW.alike (fT_kept hT hS.2.1), by rw [hU]; exact Nat.le_trans hB hS.1⟩
theorem fI_blind {Γ : FG} {w : FW} {av : List Value} : FrameBlind (va_Pc av (fI Γ w)) := fun a U g mk h =>
  ⟨h.1, h.2.1, fK_same (u := U) (U := U.calling g mk a) rfl h.2.2.1, fT_moved (u := U) (U := U.calling g mk a) (Vm.Alike.refl U.vm) h.2.2.2.1, h.2.2.2.2⟩
/-- a method's own machine: its code, its words, what the start has of the tables -/
def fC (p : Program) (s : State) (m : MethodId) (args : Array Value) (c : Code) (cc : ByteArray) (nL : Nat) (own : String) (Γ : FG) : Prop :=
  CallFix p m c cc nL s args lw_all own ∧ fK Γ s ∧ fT Γ s s.heap ∧ Γ.2.2.1 ≤ s.heap.size
abbrev rmD (d mc ms : Nat) : Room := { frames := d, cells := mc, slots := ms, locals := 40 * d }
theorem fw_met {l : Launch} {Γ : FG} {w : FW} {y : MethodName} {cc : ByteArray} {maxL : Nat} {ret : Option FieldType} {rm : Room} {av : List Value} {Qc : Array Value → State → Outcome → State → Prop} {mc ms : Nat} (hy : plainName y.cls = true) (hlen : (lg_sl av).length ≤ maxL)
    (body : ∀ (p : Program) (e : Env) (s : State) (m : MethodId) (below : List Frame) (meth : Method) (c : Code) (ls : Array Slot), fC p s m av.toArray c cc maxL y.cls Γ → fP Γ w s.heap → va_S (fA Γ) s.heap s.heap [] → meth.sig.returnType = ret → meth.locks = false → (meth.name = y.name) → lv_has ls maxL (lv_args 0 av) →
      W p l e rm s m av.toArray below meth c s.heap [] 0 0 (MQ below Qc av.toArray s mc ms (fA Γ)) (F0 m 0 ls [])) :
    Met l y (ws_ y cc maxL ret) rm (va_Pc av (fI Γ w)) Qc mc ms (fA Γ) := by
  refine Met.ofW (cc := cc) (maxL := maxL) (ret := ret) hy rfl ?_
  intro p e s m args below meth c s₁ B hml hv
  obtain ⟨rfl, hI⟩ := hv
  have hts0 := atoms_spec (ws := ws_ y cc maxL ret) B.pre
  have hts : ∀ w ∈ lw_all, w.before av.toArray s = true := fun w h => hts0 w (List.mem_cons_of_mem _ h)
  have hown : s.vm.findClass y.cls = some m.cls := findClass_of_methodNamed B.named
  have hl := lv_entry av (n := maxL) hlen
  rw [lg_entry_eq]
  exact body p e s m below meth c _ ⟨⟨B.exec, B.bytes, hml, hown, hts⟩, hI.2.1, hI.2.2.1, hI.2.2.2⟩ hI.1 va_S.rf B.returns B.notSynchronized (name_of_methodNamed B.named B.method).1 hl
section FWR
variable {p : Program} {l : Launch} {e : Env} {R : Room} {s : State} {m : MethodId} {args : Array Value} {below : List Frame} {meth : Method} {c : Code} {H : Heap} {locs : List Loc} {cells slots : Nat} {Q : State → Prop}
variable {cc : ByteArray} {nL pc : Nat} {ls : Array Slot} {rest : List Value} {own : String} {Γ : FG} {w : FW} {k i a : Nat}
theorem fw_get (C : fC p s m args c cc nL own Γ) (hP : fP Γ w H) {ref Cn : String} {T : u_T} {N ci index : Nat} (hin : ∀ w ∈ u_ws Cn T N, w ∈ lw_all) (hc : vwCl[ci]? = some (Cn, T, N)) (j : Nat) (hj : j < N) (hlink : Cond.fieldLink own index ref (T j).2.1 (T j).2.2.1 ∈ lw_all) (hsame : ref = (T j).1) {fs : List Value} (he : w.2 k i = some (oO ci fs)) (ha : w.1 k i = a) {v : Value} (hv : fs[j]? = some v) (hdg : decode cc pc = .ok (.getfield index, 3))
    (kk : W p l e R s m args below meth c H locs cells slots Q (F0 m (pc + 3) ls (v :: rest))) : W p l e R s m args below meth c H locs cells slots Q (F0 m pc ls (.ref a :: rest)) := by
  obtain ⟨L, hL, hPw, -⟩ := hP
  obtain ⟨q0, -, h1⟩ := fL_at (Γ := Γ) hL he
  subst ha
  subst hsame
  exact va_get C.1.1 C.1.2.1 C.1.2.2.2.2 hin C.1.2.2.2.1 C.2.1.1 hPw q0 h1 hc j hj (C.1.2.2.2.2 _ hlink) (fun _ h => h) hv hdg kk
theorem fw_getN (C : fC p s m args c cc nL own Γ) (hP : fP Γ w H) {ref Cn host : String} {T : u_T} {N ci index : Nat} (hin : ∀ w ∈ u_ws Cn T N, w ∈ lw_all) (hc : vwCl[ci]? = some (Cn, T, N)) (j : Nat) (hj : j < N) (hlink : va_Nw (.fieldLinkNest own index ref (T j).2.1 (T j).2.2.1 host) s) (hsame : ref = (T j).1) {fs : List Value} (he : w.2 k i = some (oO ci fs)) (ha : w.1 k i = a) {v : Value} (hv : fs[j]? = some v) (hdg : decode cc pc = .ok (.getfield index, 3))
    (kk : W p l e R s m args below meth c H locs cells slots Q (F0 m (pc + 3) ls (v :: rest))) : W p l e R s m args below meth c H locs cells slots Q (F0 m pc ls (.ref a :: rest)) := by
  obtain ⟨L, hL, hPw, -⟩ := hP
  obtain ⟨q0, -, h1⟩ := fL_at (Γ := Γ) hL he
  subst ha
  subst hsame
  exact va_getN C.1.1 C.1.2.1 C.1.2.2.2.2 hin C.1.2.2.2.1 C.2.1.1 hPw q0 h1 hc j hj (va_Nw.use rfl hlink) (fun _ h => h) hv hdg kk
theorem fw_put (C : fC p s m args c cc nL own Γ) (hP : fP Γ w H) (hS : va_S (fA Γ) s.heap H locs) {ref Cn : String} {T : u_T} {N ci index : Nat} (hin : ∀ w ∈ u_ws Cn T N, w ∈ lw_all) (ty0 : Nat → FieldType) (hty : ∀ k, k < N → parseFieldDescriptor (T k).2.2.1 = some (ty0 k)) (hnm : ∀ a, a < N → ∀ b, b < N → a ≠ b → (T a).2.1 ≠ (T b).2.1) (hc : vwCl[ci]? = some (Cn, T, N)) (j : Nat) (hj : j < N) (hlink : Cond.fieldLink own index ref (T j).2.1 (T j).2.2.1 ∈ lw_all) (hsame : ref = (T j).1) (hfin : (T j).2.2.2 = false) {v : Value} (hn : narrow (ty0 j) v = v) (hfit : fits (ty0 j) v = true) {fs : List Value} (he : w.2 k i = some (oO ci fs)) (ha : w.1 k i = a) (hl : j < fs.length)
    (hdg : decode cc pc = .ok (.putfield index, 3)) (kk : ∀ (H1 : Heap) (locs1 : List Loc), fP Γ (fset w k i (oO ci (fs.set j v))) H1 → va_S (fA Γ) s.heap H1 locs1 → W p l e R s m args below meth c H1 locs1 cells slots Q (F0 m (pc + 3) ls rest)) : W p l e R s m args below meth c H locs cells slots Q (F0 m pc ls (v :: .ref a :: rest)) := by
  obtain ⟨L, hL, hPw, hD⟩ := hP
  obtain ⟨q0, h0, h1⟩ := fL_at (Γ := Γ) hL he
  subst ha
  subst hsame
  refine va_put C.1.1 C.1.2.1 C.1.2.2.2.2 hin ty0 hty hnm C.1.2.2.2.1 C.2.1.1 hPw hD hS q0 h1 hc j hj (C.1.2.2.2.2 _ hlink) (fun _ h => h) hfin (hty j hj) hn hfit hl hdg (fun H1 locs1 g1 g2 g3 => kk H1 locs1 ⟨L, fset_mem hL he, ?_, ?_⟩ g3)
  · have := fL_set (e' := oO ci (fs.set j v)) hD he h0
    rw [← this]; exact g1
  · have := fL_set (e' := oO ci (fs.set j v)) hD he h0
    rw [← this]; exact g2
theorem fw_putN (C : fC p s m args c cc nL own Γ) (hP : fP Γ w H) (hS : va_S (fA Γ) s.heap H locs) {ref Cn host : String} {T : u_T} {N ci index : Nat} (hin : ∀ w ∈ u_ws Cn T N, w ∈ lw_all) (ty0 : Nat → FieldType) (hty : ∀ k, k < N → parseFieldDescriptor (T k).2.2.1 = some (ty0 k)) (hnm : ∀ a, a < N → ∀ b, b < N → a ≠ b → (T a).2.1 ≠ (T b).2.1) (hc : vwCl[ci]? = some (Cn, T, N)) (j : Nat) (hj : j < N) (hlink : va_Nw (.fieldLinkNest own index ref (T j).2.1 (T j).2.2.1 host) s) (hsame : ref = (T j).1) (hfin : (T j).2.2.2 = false) {v : Value} (hn : narrow (ty0 j) v = v) (hfit : fits (ty0 j) v = true) {fs : List Value} (he : w.2 k i = some (oO ci fs)) (ha : w.1 k i = a) (hl : j < fs.length)
    (hdg : decode cc pc = .ok (.putfield index, 3)) (kk : ∀ (H1 : Heap) (locs1 : List Loc), fP Γ (fset w k i (oO ci (fs.set j v))) H1 → va_S (fA Γ) s.heap H1 locs1 → W p l e R s m args below meth c H1 locs1 cells slots Q (F0 m (pc + 3) ls rest)) : W p l e R s m args below meth c H locs cells slots Q (F0 m pc ls (v :: .ref a :: rest)) := by
  obtain ⟨L, hL, hPw, hD⟩ := hP
  obtain ⟨q0, h0, h1⟩ := fL_at (Γ := Γ) hL he
  subst ha
  subst hsame
  refine va_putN C.1.1 C.1.2.1 C.1.2.2.2.2 hin ty0 hty hnm C.1.2.2.2.1 C.2.1.1 hPw hD hS q0 h1 hc j hj (va_Nw.use rfl hlink) (fun _ h => h) hfin (hty j hj) hn hfit hl hdg (fun H1 locs1 g1 g2 g3 => kk H1 locs1 ⟨L, fset_mem hL he, ?_, ?_⟩ g3)
  · have := fL_set (e' := oO ci (fs.set j v)) hD he h0
    rw [← this]; exact g1
  · have := fL_set (e' := oO ci (fs.set j v)) hD he h0
    rw [← this]; exact g2
theorem fw_putF (C : fC p s m args c cc nL own Γ) (hP : fP Γ w H) (hS : va_S (fA Γ) s.heap H locs) (hin2 : meth.name = "<init>") {ref Cn : String} {T : u_T} {N ci index : Nat} (hin : ∀ w ∈ u_ws Cn T N, w ∈ lw_all) (ty0 : Nat → FieldType) (hty : ∀ k, k < N → parseFieldDescriptor (T k).2.2.1 = some (ty0 k)) (hnm : ∀ a, a < N → ∀ b, b < N → a ≠ b → (T a).2.1 ≠ (T b).2.1) (hc : vwCl[ci]? = some (Cn, T, N)) (j : Nat) (hj : j < N) (hlink : Cond.fieldLink own index ref (T j).2.1 (T j).2.2.1 ∈ lw_all) (hsame : ref = (T j).1) (hfin : (T j).2.2.2 = true) (hdecl : (T j).1 = own) {v : Value} (hn : narrow (ty0 j) v = v) (hfit : fits (ty0 j) v = true) {fs : List Value} (he : w.2 k i = some (oO ci fs)) (ha : w.1 k i = a) (hl : j < fs.length)
    (hdg : decode cc pc = .ok (.putfield index, 3)) (kk : ∀ (H1 : Heap) (locs1 : List Loc), fP Γ (fset w k i (oO ci (fs.set j v))) H1 → va_S (fA Γ) s.heap H1 locs1 → W p l e R s m args below meth c H1 locs1 cells slots Q (F0 m (pc + 3) ls rest)) : W p l e R s m args below meth c H locs cells slots Q (F0 m pc ls (v :: .ref a :: rest)) := by
  obtain ⟨L, hL, hPw, hD⟩ := hP
  obtain ⟨q0, h0, h1⟩ := fL_at (Γ := Γ) hL he
  subst ha
  subst hsame
  refine va_putF C.1.1 C.1.2.1 C.1.2.2.2.2 hin ty0 hty hnm C.1.2.2.2.1 C.2.1.1 hPw hD hS q0 h1 hc j hj (C.1.2.2.2.2 _ hlink) (fun _ h => h) hfin hin2 hdecl (hty j hj) hn hfit hl hdg (fun H1 locs1 g1 g2 g3 => kk H1 locs1 ⟨L, fset_mem hL he, ?_, ?_⟩ g3)
  · have := fL_set (e' := oO ci (fs.set j v)) hD he h0
    rw [← this]; exact g1
  · have := fL_set (e' := oO ci (fs.set j v)) hD he h0
    rw [← this]; exact g2
theorem fTys_at {Γ : FG} {k : Nat} (h : k < 7) : (fTys Γ)[k]? = some (Γ.2.1 k, fTy k) := by
  rw [fTys, List.getElem?_map, List.getElem?_range h]
  rfl
theorem fw_nI {j n : Nat} (h : j < n) (hn : n < 2 ^ 31) : vp_in (nI j) n := vp_in_nI h hn
theorem fw_cl {j n : Nat} (h : j < n) (hn : n < 2 ^ 31) : (nI j).toNatClampNeg = j := nI_clamp (Nat.lt_trans h hn)
end FWR
end
section
/-! the constants of SHA-256 as the reference reckons them: forty steps of Newton's, in doubles -/
abbrev rtA (x : UInt64) : UInt64 := FP.dadd x x
abbrev rtB (n : Int32) (x : UInt64) : UInt64 := FP.ddiv (FP.i2d n) (FP.dmul x x)
abbrev rtC (n : Int32) (x : UInt64) : UInt64 := FP.dadd (rtA x) (rtB n x)
abbrev rtD (n : Int32) (x : UInt64) : UInt64 := FP.dadd x (FP.ddiv (FP.i2d n) x)
def rtS (third : Bool) (n : Int32) (x : UInt64) : UInt64 := if third then FP.ddiv (rtC n x) 4613937818241073152 else FP.ddiv (rtD n x) 4611686018427387904
def rtI (third : Bool) (n : Int32) : Nat → UInt64
  | 0 => FP.i2d n
  | k + 1 => rtS third n (rtI third n k)
def rtK (x : UInt64) : Bool := decide (x &&& 0x7fffffffffffffff ≤ 0x7ff0000000000000)
/-- no NaN in a step -/
def rtO (third : Bool) (n : Int32) (x : UInt64) : Bool := if third then rtK (rtA x) && (rtK (FP.dmul x x) && (rtK (rtB n x) && (rtK (rtC n x) && rtK (FP.ddiv (rtC n x) 4613937818241073152)))) else rtK (FP.ddiv (FP.i2d n) x) && (rtK (rtD n x) && rtK (FP.ddiv (rtD n x) 4611686018427387904))
def rtE (x : UInt64) : UInt64 := FP.dsub x (FP.l2d (FP.d2l x))
def rtF (x : UInt64) : UInt64 := FP.dmul (rtE x) 4751297606875873280
def rtV (third : Bool) (n : Int32) : Int32 := (FP.d2l (rtF (rtI third n 40))).toInt32
/-- a walk over the steps that looks at each once -/
def rtG (third : Bool) (n : Int32) : Nat → UInt64 → Bool × UInt64
  | 0, x => (true, x)
  | k + 1, x => if rtO third n x then rtG third n k (rtS third n x) else (false, x)
theorem rtG_spec (third : Bool) (n : Int32) : ∀ (k i : Nat), (rtG third n k (rtI third n i)).1 = true → (∀ j, i ≤ j → j < i + k → rtO third n (rtI third n j) = true) ∧ (rtG third n k (rtI third n i)).2 = rtI third n (i + k)
  | 0, i, _ => ⟨fun j h1 h2 => by omega, rfl⟩
  | k + 1, i, h => by
    unfold rtG at h ⊢
    by_cases ho : rtO third n (rtI third n i) = true
    · rw [if_pos ho] at h ⊢
      have ih := rtG_spec third n k (i + 1) h
      refine ⟨fun j h1 h2 => ?_, ?_⟩
      · rcases Nat.eq_or_lt_of_le h1 with e | e
        · rw [← e]; exact ho
        · exact ih.1 j e (by omega)
      · have := ih.2
        rw [show i + (k + 1) = i + 1 + k by omega]
        exact this
    · rw [if_neg ho] at h
      cases h
def rtW (third : Bool) (n : Int32) (v : Int32) : Bool := (rtG third n 40 (FP.i2d n)).1 && (rtK (rtE (rtG third n 40 (FP.i2d n)).2) && (rtK (rtF (rtG third n 40 (FP.i2d n)).2) && decide ((FP.d2l (rtF (rtG third n 40 (FP.i2d n)).2)).toInt32 = v)))
theorem rtW_spec {third : Bool} {n v : Int32} (h : rtW third n v = true) : (∀ j, j < 40 → rtO third n (rtI third n j) = true) ∧ rtK (rtE (rtI third n 40)) = true ∧ rtK (rtF (rtI third n 40)) = true ∧ rtV third n = v := by
  simp only [rtW, Bool.and_eq_true, decide_eq_true_eq] at h
  obtain ⟨h1, h2, h3, h4⟩ := h
  have hs := rtG_spec third n 40 0 h1
  have e : (rtG third n 40 (FP.i2d n)).2 = rtI third n 40 := hs.2
  rw [e] at h2 h3 h4
  exact ⟨fun j hj => hs.1 j (Nat.zero_le _) (by omega), h2, h3, h4⟩
/-- what the reference's inner loop has found of n after i turns; where it ends -/
def prF (n : Nat) : Nat → Bool
  | 0 => true
  | i + 1 => prF n i && decide (n % (i + 2) ≠ 0)
def prE (n : Nat) : Nat := ((List.range 17).find? (fun i => decide (n < (i + 2) * (i + 2)))).getD 0
def prT (n : Nat) : Bool := prF n (prE n)
def prC : Nat → Nat
  | 0 => 0
  | n + 1 => prC n + (if 2 ≤ n ∧ prT n = true then 1 else 0)
theorem prE_ok : ∀ n, n < 312 → n < (prE n + 2) * (prE n + 2) ∧ ∀ i, i < prE n → (i + 2) * (i + 2) ≤ n := by decide +kernel
theorem prE_is {n i : Nat} (hn : n < 312) (h1 : n < (i + 2) * (i + 2)) (h2 : ∀ j, j < i → (j + 2) * (j + 2) ≤ n) : i = prE n := by
  obtain ⟨a, b⟩ := prE_ok n hn
  rcases Nat.lt_trichotomy i (prE n) with h | h | h
  · have := b i h; omega
  · exact h
  · have := h2 _ h; omega
theorem prC_mono (n : Nat) : ∀ k, prC n ≤ prC (n + k)
  | 0 => Nat.le_refl _
  | k + 1 => by
    have := prC_mono n k
    show prC n ≤ prC (n + k) + _
    omega
theorem prC_312 : prC 312 = 64 := by decide +kernel
theorem prC_lt {n : Nat} (h : prC n < 64) : n < 312 := by
  rcases Nat.lt_or_ge n 312 with q | q
  · exact q
  · have := prC_mono 312 (n - 312)
    rw [Nat.add_sub_cancel' q, prC_312] at this
    omega
theorem prC_le {n : Nat} (h : prC n < 64) : prC (n + 1) ≤ 64 := by
  show prC n + _ ≤ 64
  split <;> omega
def rtAll (n : Nat) : Bool := if 2 ≤ n ∧ prT n = true then rtW true (nI n) (shK (prC n)) && (if prC n < 8 then rtW false (nI n) (shH (prC n)) else true) else true
theorem rtAll_1 : ∀ n, n < 100 → rtAll n = true := by decide +kernel
theorem rtAll_2 : ∀ n, n < 200 → 100 ≤ n → rtAll n = true := by decide +kernel
theorem rtAll_3 : ∀ n, n < 312 → 200 ≤ n → rtAll n = true := by decide +kernel
theorem rtAll_ok {n : Nat} (hn : n < 312) (h2 : 2 ≤ n) (hp : prT n = true) : rtW true (nI n) (shK (prC n)) = true ∧ (prC n < 8 → rtW false (nI n) (shH (prC n)) = true) := by
  have h : rtAll n = true := by
    rcases Nat.lt_or_ge n 100 with q | q
    · exact rtAll_1 n q
    · rcases Nat.lt_or_ge n 200 with r | r
      · exact rtAll_2 n r q
      · exact rtAll_3 n hn r
  unfold rtAll at h
  rw [if_pos ⟨h2, hp⟩, Bool.and_eq_true] at h
  refine ⟨h.1, fun q => ?_⟩
  have := h.2
  rw [if_pos q] at this
  exact this
end
section
section FWA
variable {p : Program} {l : Launch} {e : Env} {R : Room} {s : State} {m : MethodId} {args : Array Value} {below : List Frame} {meth : Method} {c : Code} {H : Heap} {locs : List Loc} {cells slots : Nat} {Q : State → Prop}
variable {cc : ByteArray} {nL pc : Nat} {ls : Array Slot} {rest : List Value} {own : String} {Γ : FG} {w : FW} {k i a : Nat}
/-- reads of arrays: the index is the natural j -/
theorem fw_iald (C : fC p s m args c cc nL own Γ) (hP : fP Γ w H) {n : Nat} {f : Nat → Int32} (he : w.2 k i = some (aI 1 n f)) (ha : w.1 k i = a) (j : Nat) {x : Int32} (hx : x = nI j) (hj : j < n) (hn : n < 2 ^ 31) (hdg : decode cc pc = .ok (.iaload, 1))
    (kk : W p l e R s m args below meth c H locs cells slots Q (F0 m (pc + 1) ls (.int (f j) :: rest))) : W p l e R s m args below meth c H locs cells slots Q (F0 m pc ls (.int x :: .ref a :: rest)) := by
  obtain ⟨L, hL, hPw, -⟩ := hP
  obtain ⟨q0, -, h1⟩ := fL_at (Γ := Γ) hL he
  subst ha; subst hx
  exact va_iald C.1.1 C.1.2.1 C.2.1.1 hPw q0 1 h1 (fTys_at (by omega)) (fw_nI hj hn) hdg (by rw [fw_cl hj hn]; exact kk)
theorem fw_bald (C : fC p s m args c cc nL own Γ) (hP : fP Γ w H) {n : Nat} {f : Nat → Int32} (he : w.2 k i = some (aI 0 n f)) (ha : w.1 k i = a) (j : Nat) {x : Int32} (hx : x = nI j) (hj : j < n) (hn : n < 2 ^ 31) (hdg : decode cc pc = .ok (.baload, 1))
    (kk : W p l e R s m args below meth c H locs cells slots Q (F0 m (pc + 1) ls (.int (f j) :: rest))) : W p l e R s m args below meth c H locs cells slots Q (F0 m pc ls (.int x :: .ref a :: rest)) := by
  obtain ⟨L, hL, hPw, -⟩ := hP
  obtain ⟨q0, -, h1⟩ := fL_at (Γ := Γ) hL he
  subst ha; subst hx
  exact va_bald C.1.1 C.1.2.1 C.2.1.1 hPw q0 0 h1 (fTys_at (by omega)) (fw_nI hj hn) hdg (by rw [fw_cl hj hn]; exact kk)
theorem fw_zald (C : fC p s m args c cc nL own Γ) (hP : fP Γ w H) {n : Nat} {f : Nat → Int32} (he : w.2 k i = some (aI 3 n f)) (ha : w.1 k i = a) (j : Nat) {x : Int32} (hx : x = nI j) (hj : j < n) (hn : n < 2 ^ 31) (hdg : decode cc pc = .ok (.baload, 1))
    (kk : W p l e R s m args below meth c H locs cells slots Q (F0 m (pc + 1) ls (.int (f j) :: rest))) : W p l e R s m args below meth c H locs cells slots Q (F0 m pc ls (.int x :: .ref a :: rest)) := by
  obtain ⟨L, hL, hPw, -⟩ := hP
  obtain ⟨q0, -, h1⟩ := fL_at (Γ := Γ) hL he
  subst ha; subst hx
  exact va_zald C.1.1 C.1.2.1 C.2.1.1 hPw q0 3 h1 (fTys_at (by omega)) (fw_nI hj hn) hdg (by rw [fw_cl hj hn]; exact kk)
theorem fw_lald (C : fC p s m args c cc nL own Γ) (hP : fP Γ w H) {n : Nat} {f : Nat → Int64} (he : w.2 k i = some (aL n f)) (ha : w.1 k i = a) (j : Nat) {x : Int32} (hx : x = nI j) (hj : j < n) (hn : n < 2 ^ 31) (hdg : decode cc pc = .ok (.laload, 1))
    (kk : W p l e R s m args below meth c H locs cells slots Q (F0 m (pc + 1) ls (.long (f j) :: rest))) : W p l e R s m args below meth c H locs cells slots Q (F0 m pc ls (.int x :: .ref a :: rest)) := by
  obtain ⟨L, hL, hPw, -⟩ := hP
  obtain ⟨q0, -, h1⟩ := fL_at (Γ := Γ) hL he
  subst ha; subst hx
  exact va_lald C.1.1 C.1.2.1 C.2.1.1 hPw q0 2 h1 (fTys_at (by omega)) (fw_nI hj hn) hdg (by rw [fw_cl hj hn]; exact kk)
theorem fw_aald (C : fC p s m args c cc nL own Γ) (hP : fP Γ w H) {n t : Nat} {Cn : String} {f : Nat → Option Nat} (ht : t < 7) (hty : fTy t = .object Cn) (he : w.2 k i = some (aR t n f)) (ha : w.1 k i = a) (j : Nat) {x : Int32} (hx : x = nI j) (hj : j < n) (hn : n < 2 ^ 31) {v : Value} (hv : va_rf (f j) = v) (hdg : decode cc pc = .ok (.aaload, 1))
    (kk : W p l e R s m args below meth c H locs cells slots Q (F0 m (pc + 1) ls (v :: rest))) : W p l e R s m args below meth c H locs cells slots Q (F0 m pc ls (.int x :: .ref a :: rest)) := by
  obtain ⟨L, hL, hPw, -⟩ := hP
  obtain ⟨q0, -, h1⟩ := fL_at (Γ := Γ) hL he
  subst ha; subst hx; subst hv
  exact va_aldq C.1.1 C.1.2.1 C.2.1.1 hPw q0 t (C := Cn) h1 (by rw [fTys_at ht, hty]) (fw_nI hj hn) hdg (by rw [fw_cl hj hn]; exact kk)
/-- writes of arrays -/
theorem fw_iast (C : fC p s m args c cc nL own Γ) (hP : fP Γ w H) (hS : va_S (fA Γ) s.heap H locs) {n : Nat} {f : Nat → Int32} (he : w.2 k i = some (aI 1 n f)) (ha : w.1 k i = a) (j : Nat) {x v : Int32} (hx : x = nI j) (hj : j < n) (hn : n < 2 ^ 31) (hdg : decode cc pc = .ok (.iastore, 1))
    (kk : ∀ (H1 : Heap) (locs1 : List Loc), fP Γ (fset w k i (aI 1 n (upd f j v))) H1 → va_S (fA Γ) s.heap H1 locs1 → W p l e R s m args below meth c H1 locs1 cells slots Q (F0 m (pc + 1) ls rest)) : W p l e R s m args below meth c H locs cells slots Q (F0 m pc ls (.int v :: .int x :: .ref a :: rest)) := by
  obtain ⟨L, hL, hPw, hD⟩ := hP
  obtain ⟨q0, h0, h1⟩ := fL_at (Γ := Γ) hL he
  subst ha; subst hx
  refine va_iast C.1.1 C.1.2.1 C.2.1.1 hPw hD hS q0 1 h1 (fTys_at (by omega)) (fw_nI hj hn) hdg (fun H1 locs1 g1 g2 g3 => kk H1 locs1 ⟨L, fset_mem hL he, ?_, ?_⟩ g3)
  · have := fL_set (e' := aI 1 n (upd f j v)) hD he h0
    rw [← this]; rw [fw_cl hj hn] at g1; exact g1
  · have := fL_set (e' := aI 1 n (upd f j v)) hD he h0
    rw [← this]; rw [fw_cl hj hn] at g2; exact g2
theorem fw_bast (C : fC p s m args c cc nL own Γ) (hP : fP Γ w H) (hS : va_S (fA Γ) s.heap H locs) {n : Nat} {f : Nat → Int32} (he : w.2 k i = some (aI 0 n f)) (ha : w.1 k i = a) (j : Nat) {x v : Int32} (hx : x = nI j) (hj : j < n) (hn : n < 2 ^ 31) (hdg : decode cc pc = .ok (.bastore, 1))
    (kk : ∀ (H1 : Heap) (locs1 : List Loc), fP Γ (fset w k i (aI 0 n (upd f j (vp_nar .byte v)))) H1 → va_S (fA Γ) s.heap H1 locs1 → W p l e R s m args below meth c H1 locs1 cells slots Q (F0 m (pc + 1) ls rest)) : W p l e R s m args below meth c H locs cells slots Q (F0 m pc ls (.int v :: .int x :: .ref a :: rest)) := by
  obtain ⟨L, hL, hPw, hD⟩ := hP
  obtain ⟨q0, h0, h1⟩ := fL_at (Γ := Γ) hL he
  subst ha; subst hx
  refine va_bast C.1.1 C.1.2.1 C.2.1.1 hPw hD hS q0 0 h1 (fTys_at (by omega)) (fw_nI hj hn) hdg (fun H1 locs1 g1 g2 g3 => kk H1 locs1 ⟨L, fset_mem hL he, ?_, ?_⟩ g3)
  · have := fL_set (e' := aI 0 n (upd f j (vp_nar .byte v))) hD he h0
    rw [← this]; rw [fw_cl hj hn] at g1; exact g1
  · have := fL_set (e' := aI 0 n (upd f j (vp_nar .byte v))) hD he h0
    rw [← this]; rw [fw_cl hj hn] at g2; exact g2
theorem fw_zast (C : fC p s m args c cc nL own Γ) (hP : fP Γ w H) (hS : va_S (fA Γ) s.heap H locs) {n : Nat} {f : Nat → Int32} (he : w.2 k i = some (aI 3 n f)) (ha : w.1 k i = a) (j : Nat) {x v : Int32} (hx : x = nI j) (hj : j < n) (hn : n < 2 ^ 31) (hdg : decode cc pc = .ok (.bastore, 1))
    (kk : ∀ (H1 : Heap) (locs1 : List Loc), fP Γ (fset w k i (aI 3 n (upd f j (vp_nar .boolean v)))) H1 → va_S (fA Γ) s.heap H1 locs1 → W p l e R s m args below meth c H1 locs1 cells slots Q (F0 m (pc + 1) ls rest)) : W p l e R s m args below meth c H locs cells slots Q (F0 m pc ls (.int v :: .int x :: .ref a :: rest)) := by
  obtain ⟨L, hL, hPw, hD⟩ := hP
  obtain ⟨q0, h0, h1⟩ := fL_at (Γ := Γ) hL he
  subst ha; subst hx
  refine va_zast C.1.1 C.1.2.1 C.2.1.1 hPw hD hS q0 3 h1 (fTys_at (by omega)) (fw_nI hj hn) hdg (fun H1 locs1 g1 g2 g3 => kk H1 locs1 ⟨L, fset_mem hL he, ?_, ?_⟩ g3)
  · have := fL_set (e' := aI 3 n (upd f j (vp_nar .boolean v))) hD he h0
    rw [← this]; rw [fw_cl hj hn] at g1; exact g1
  · have := fL_set (e' := aI 3 n (upd f j (vp_nar .boolean v))) hD he h0
    rw [← this]; rw [fw_cl hj hn] at g2; exact g2
theorem fw_last (C : fC p s m args c cc nL own Γ) (hP : fP Γ w H) (hS : va_S (fA Γ) s.heap H locs) {n : Nat} {f : Nat → Int64} (he : w.2 k i = some (aL n f)) (ha : w.1 k i = a) (j : Nat) {x : Int32} {v : Int64} (hx : x = nI j) (hj : j < n) (hn : n < 2 ^ 31) (hdg : decode cc pc = .ok (.lastore, 1))
    (kk : ∀ (H1 : Heap) (locs1 : List Loc), fP Γ (fset w k i (aL n (vp_updL f j v))) H1 → va_S (fA Γ) s.heap H1 locs1 → W p l e R s m args below meth c H1 locs1 cells slots Q (F0 m (pc + 1) ls rest)) : W p l e R s m args below meth c H locs cells slots Q (F0 m pc ls (.long v :: .int x :: .ref a :: rest)) := by
  obtain ⟨L, hL, hPw, hD⟩ := hP
  obtain ⟨q0, h0, h1⟩ := fL_at (Γ := Γ) hL he
  subst ha; subst hx
  refine va_last C.1.1 C.1.2.1 C.2.1.1 hPw hD hS q0 2 h1 (fTys_at (by omega)) (fw_nI hj hn) hdg (fun H1 locs1 g1 g2 g3 => kk H1 locs1 ⟨L, fset_mem hL he, ?_, ?_⟩ g3)
  · have := fL_set (e' := aL n (vp_updL f j v)) hD he h0
    rw [← this]; rw [fw_cl hj hn] at g1; exact g1
  · have := fL_set (e' := aL n (vp_updL f j v)) hD he h0
    rw [← this]; rw [fw_cl hj hn] at g2; exact g2
theorem fw_aast (C : fC p s m args c cc nL own Γ) (hP : fP Γ w H) (hS : va_S (fA Γ) s.heap H locs) {n t ci k2 i2 b : Nat} {r : vw_C} {f : Nat → Option Nat} {vs : List Value} (ht : t < 7) (hc : vwCl[ci]? = some r) (hty : fTy t = .object r.1) (he : w.2 k i = some (aR t n f)) (ha : w.1 k i = a) (he2 : w.2 k2 i2 = some (oO ci vs)) (ha2 : w.1 k2 i2 = b) (j : Nat) {x : Int32} (hx : x = nI j) (hj : j < n) (hn : n < 2 ^ 31) (hdg : decode cc pc = .ok (.aastore, 1))
    (kk : ∀ (H1 : Heap) (locs1 : List Loc), fP Γ (fset w k i (aR t n (va_up f j (some b)))) H1 → va_S (fA Γ) s.heap H1 locs1 → W p l e R s m args below meth c H1 locs1 cells slots Q (F0 m (pc + 1) ls rest)) : W p l e R s m args below meth c H locs cells slots Q (F0 m pc ls (.ref b :: .int x :: .ref a :: rest)) := by
  obtain ⟨L, hL, hPw, hD⟩ := hP
  obtain ⟨q0, h0, h1⟩ := fL_at (Γ := Γ) hL he
  obtain ⟨q2, -, h2⟩ := fL_at (Γ := Γ) hL he2
  subst ha; subst hx; subst ha2
  refine va_astq C.1.1 C.1.2.1 C.2.1.1 hPw hD hS q0 t q2 ci h1 (by rw [fTys_at ht, hty]) h2 hc (fw_nI hj hn) hdg (fun H1 locs1 g1 g2 g3 => kk H1 locs1 ⟨L, fset_mem hL he, ?_, ?_⟩ g3)
  · have := fL_set (e' := aR t n (va_up f j (some (w.1 k2 i2)))) hD he h0
    rw [← this]; rw [fw_cl hj hn] at g1; exact g1
  · have := fL_set (e' := aR t n (va_up f j (some (w.1 k2 i2)))) hD he h0
    rw [← this]; rw [fw_cl hj hn] at g2; exact g2
/-- makings: label (k, i) is free -/
theorem fw_new (C : fC p s m args c cc nL own Γ) (hP : fP Γ w H) (hS : va_S (fA Γ) s.heap H locs) (k i : Nat) {Cn : String} {T : u_T} {N ci index : Nat} (hin : ∀ w ∈ u_ws Cn T N, w ∈ lw_all) (ty0 : Nat → FieldType) (hty : ∀ k, k < N → parseFieldDescriptor (T k).2.2.1 = some (ty0 k)) (hc : vwCl[ci]? = some (Cn, T, N)) (hw : Cond.classLink own index Cn ∈ lw_all ∧ Cond.instantiable Cn N ∈ lw_all ∧ Cond.initialized Cn ∈ lw_all) {fs : List Value} (hfs : ∀ j, j < N → defaultValue (ty0 j) = vp_V fs j) (hn : w.2 k i = none) (hcells : cells + 1 ≤ R.cells) (hslots : slots + N ≤ R.slots) (hdg : decode cc pc = .ok (.new index, 3))
    (kk : ∀ (q : Nat) (H1 : Heap), fP Γ (fnew w k i (oO ci fs) q) H1 → va_S (fA Γ) s.heap H1 locs → W p l e R s m args below meth c H1 locs (cells + 1) (slots + N) Q (F0 m (pc + 3) ls (.ref q :: rest))) : W p l e R s m args below meth c H locs cells slots Q (F0 m pc ls rest) := by
  obtain ⟨L, hL, hPw, hD⟩ := hP
  exact va_new C.1.1 C.1.2.1 C.1.2.2.2.2 hin ty0 hty C.1.2.2.2.1 (C.1.2.2.2.2 _ hw.1) (C.1.2.2.2.2 _ hw.2.1) (C.1.2.2.2.2 _ hw.2.2) C.2.1.1 hPw hD hS (fun q h => Nat.le_trans C.2.2.2 h) hc hfs hcells hslots hdg (fun q H1 g1 g2 g3 => kk q H1 (fP_new hL hn g1 g2) g3)
theorem fw_arrId {U : State} {c1 c2 : ClassId} {ty : FieldType} (h1 : va_RA U c1 ty) (h2 : va_RA U c2 ty) : c1 = c2 := by
  cases ty with
  | object C =>
    obtain ⟨_, _, -, -, -, a⟩ := h1
    obtain ⟨_, _, -, -, -, b⟩ := h2
    exact Option.some.inj (a.symm.trans b)
  | _ => exact Option.some.inj (h1.symm.trans h2)
theorem fw_newI (C : fC p s m args c cc nL own Γ) (hP : fP Γ w H) (hS : va_S (fA Γ) s.heap H locs) (k i : Nat) {atype : ArrayType} {t : Nat} (ht : t < 7) (hty : newarray.typeOf atype = fTy t) (hd : defaultValue (fTy t) = .int 0) (hw : Cond.arrayClass (newarray.typeOf atype) ∈ lw_all) {n : Int32} {N : Nat} (hn0 : ¬ n < 0) (hN : n.toNatClampNeg = N) (hbytes : N * componentBytes (fTy t) ≤ 536870912) (hn : w.2 k i = none) (hcells : cells + 1 ≤ R.cells) (hslots : slots + N ≤ R.slots) (hdg : decode cc pc = .ok (.newarray atype, 2))
    (kk : ∀ (q : Nat) (H1 : Heap), fP Γ (fnew w k i (aI t N (fun _ => 0)) q) H1 → va_S (fA Γ) s.heap H1 locs → W p l e R s m args below meth c H1 locs (cells + 1) (slots + N) Q (F0 m (pc + 2) ls (.ref q :: rest))) : W p l e R s m args below meth c H locs cells slots Q (F0 m pc ls (.int n :: rest)) := by
  obtain ⟨L, hL, hPw, hD⟩ := hP
  refine va_newa (atype := atype) (ty := fTy t) (a0 := (N, .inl (fun _ => 0))) C.1.1 C.1.2.1 (C.1.2.2.2.2 _ hw) hty C.2.1.1 hPw hD hS (fun q h => Nat.le_trans C.2.2.2 h) (fun cA => by rw [hd]; rfl) hn0 hN hbytes hcells hslots hdg (fun q cA H1 g0 g1 g2 g3 => kk q H1 ?_ g3)
  have e1 := (g0.2 7 (cA, fTy t) (by rw [List.getElem?_append_right (by simp [fTys])]; simp [fTys])).2
  have e2 := (C.2.1.1.2 t (Γ.2.1 t, fTy t) (fTys_at ht)).2
  have e3 := fw_arrId e1 e2
  subst e3
  exact fP_new hL hn g1 g2
theorem fw_newL (C : fC p s m args c cc nL own Γ) (hP : fP Γ w H) (hS : va_S (fA Γ) s.heap H locs) (k i : Nat) {n : Int32} {N : Nat} (hn0 : ¬ n < 0) (hN : n.toNatClampNeg = N) (hbytes : N * componentBytes .long ≤ 536870912) (hn : w.2 k i = none) (hcells : cells + 1 ≤ R.cells) (hslots : slots + N ≤ R.slots) (hdg : decode cc pc = .ok (.newarray .long, 2))
    (kk : ∀ (q : Nat) (H1 : Heap), fP Γ (fnew w k i (aL N (fun _ => 0)) q) H1 → va_S (fA Γ) s.heap H1 locs → W p l e R s m args below meth c H1 locs (cells + 1) (slots + N) Q (F0 m (pc + 2) ls (.ref q :: rest))) : W p l e R s m args below meth c H locs cells slots Q (F0 m pc ls (.int n :: rest)) := by
  obtain ⟨L, hL, hPw, hD⟩ := hP
  refine va_newa (atype := .long) (ty := .long) (a0 := (N, .inr (.inl (fun _ => 0)))) C.1.1 C.1.2.1 (C.1.2.2.2.2 _ qa_long) rfl C.2.1.1 hPw hD hS (fun q h => Nat.le_trans C.2.2.2 h) (fun cA => rfl) hn0 hN hbytes hcells hslots hdg (fun q cA H1 g0 g1 g2 g3 => kk q H1 ?_ g3)
  have e1 := (g0.2 7 (cA, .long) (by rw [List.getElem?_append_right (by simp [fTys])]; simp [fTys])).2
  have e2 := (C.2.1.1.2 2 (Γ.2.1 2, .long) (fTys_at (by omega))).2
  have e3 := fw_arrId e1 e2
  subst e3
  exact fP_new hL hn g1 g2
theorem fw_newR (C : fC p s m args c cc nL own Γ) (hP : fP Γ w H) (hS : va_S (fA Γ) s.heap H locs) (k i : Nat) {index t : Nat} {Cn : String} (ht : t < 7) (hty : fTy t = .object Cn) (hw : Cond.classLink own index Cn ∈ lw_all) (ho : va_AO Cn s) {n : Int32} {N : Nat} (hn0 : ¬ n < 0) (hN : n.toNatClampNeg = N) (hbytes : N * 4 ≤ 536870912) (hn : w.2 k i = none) (hcells : cells + 1 ≤ R.cells) (hslots : slots + N ≤ R.slots) (hdg : decode cc pc = .ok (.anewarray index, 3))
    (kk : ∀ (q : Nat) (H1 : Heap), fP Γ (fnew w k i (aR t N (fun _ => none)) q) H1 → va_S (fA Γ) s.heap H1 locs → W p l e R s m args below meth c H1 locs (cells + 1) (slots + N) Q (F0 m (pc + 3) ls (.ref q :: rest))) : W p l e R s m args below meth c H locs cells slots Q (F0 m pc ls (.int n :: rest)) := by
  obtain ⟨L, hL, hPw, hD⟩ := hP
  refine va_newq C.1.1 C.1.2.1 C.1.2.2.2.1 (C.1.2.2.2.2 _ hw) ho C.2.1.1 hPw hD hS (fun q h => Nat.le_trans C.2.2.2 h) hn0 hN hbytes hcells hslots hdg (fun q cA H1 g0 g1 g2 g3 => kk q H1 ?_ g3)
  have e1 := (g0.2 7 (cA, .object Cn) (by rw [List.getElem?_append_right (by simp [fTys])]; simp [fTys])).2
  have e2 := (C.2.1.1.2 t (Γ.2.1 t, fTy t) (fTys_at ht)).2
  rw [hty] at e2
  have e3 := fw_arrId e1 e2
  subst e3
  exact fP_new hL hn g1 g2
/-- System.arraycopy of ints -/
theorem fw_copy (C : fC p s m args c cc nL own Γ) (hP : fP Γ w H) (hS : va_S (fA Γ) s.heap H locs) {index : Nat} (hlink : Cond.methodLink own index arraycopyName ∈ lw_all) (hsz : ls.size = nL) {k1 i1 b n0 n1 : Nat} {f g : Nat → Int32} (he0 : w.2 k i = some (aI 1 n0 f)) (ha0 : w.1 k i = a) (he1 : w.2 k1 i1 = some (aI 1 n1 g)) (ha1 : w.1 k1 i1 = b) (sp dp n : Nat) {xs xd xn : Int32} (hxs : xs = nI sp) (hxd : xd = nI dp) (hxn : xn = nI n) (h4 : sp + n ≤ n0) (h5 : dp + n ≤ n1) (hb0 : n0 < 2 ^ 31) (hb1 : n1 < 2 ^ 31) (hR : 1 ≤ R.frames ∧ (rest.map fun v => v.category).sum + (nativeFrameWords "java/lang/System" "arraycopy" 5 + 11) ≤ R.locals) (hdg : decode cc pc = .ok (.invokestatic index, 3))
    (kk : ∀ (H1 : Heap) (locs1 : List Loc), fP Γ (fset w k1 i1 (aI 1 n1 (va_cpy f g sp dp n))) H1 → va_S (fA Γ) s.heap H1 locs1 → W p l e R s m args below meth c H1 locs1 cells slots Q (F0 m (pc + 3) ls rest)) : W p l e R s m args below meth c H locs cells slots Q (F0 m pc ls (.int xn :: .int xd :: .ref b :: .int xs :: .ref a :: rest)) := by
  obtain ⟨L, hL, hPw, hD⟩ := hP
  obtain ⟨q0, -, h0⟩ := fL_at (Γ := Γ) hL he0
  obtain ⟨q1, h10, h1⟩ := fL_at (Γ := Γ) hL he1
  subst ha0; subst ha1; subst hxs; subst hxd; subst hxn
  have c1 : (nI sp).toNatClampNeg = sp := nI_clamp (by omega)
  have c2 : (nI dp).toNatClampNeg = dp := nI_clamp (by omega)
  have c3 : (nI n).toNatClampNeg = n := nI_clamp (by omega)
  refine va_copyi (ty := .int) C.1.1 C.1.2.1 (by rw [C.1.2.2.1, hsz]) C.1.2.2.2.1 (C.1.2.2.2.2 _ hlink) (C.1.2.2.2.2 _ qN_copy) (C.1.2.2.2.2 _ qs_copy) (C.1.2.2.2.2 _ qn_sys) C.2.1.1 hPw hD hS q0 q1 1 1 h0 h1 (fTys_at (by omega)) (fTys_at (by omega)) rfl (nI_pos (by omega)) (nI_pos (by omega)) (nI_pos (by omega)) (by rw [c1, c3]; exact h4) (by rw [c2, c3]; exact h5) (fun _ _ => rfl) hR.1 hR.2 hdg (fun H1 locs1 g1 g2 g3 => kk H1 locs1 ⟨L, fset_mem hL he1, ?_, ?_⟩ g3)
  · have := fL_set (e' := aI 1 n1 (va_cpy f g sp dp n)) hD he1 h10
    rw [← this]; rw [c1, c2, c3] at g1; exact g1
  · have := fL_set (e' := aI 1 n1 (va_cpy f g sp dp n)) hD he1 h10
    rw [← this]; rw [c1, c2, c3] at g2; exact g2
/-- static tables -/
theorem fw_gets (C : fC p s m args c cc nL own Γ) (hS : va_S (fA Γ) s.heap H locs) {Cn n d : String} {v : Value} {index : Nat} (hZ : va_Z Cn n d v (fA Γ) s s.heap) (hlink : Cond.fieldLink own index Cn n d ∈ lw_all) (hdg : decode cc pc = .ok (.getstatic index, 3))
    (kk : W p l e R s m args below meth c H locs cells slots Q (F0 m (pc + 3) ls (v :: rest))) : W p l e R s m args below meth c H locs cells slots Q (F0 m pc ls rest) :=
  va_gets C.1.1 C.1.2.1 hZ hS C.1.2.2.2.1 (C.1.2.2.2.2 _ hlink) (fun _ h => h) hdg kk
theorem fw_tald (C : fC p s m args c cc nL own Γ) (hS : va_S (fA Γ) s.heap H locs) {t N : Nat} {f : Nat → Int32} (hT : va_T .int t N (fun j => .int (f j)) (fA Γ) s s.heap) (j : Nat) {x : Int32} (hx : x = nI j) (hj : j < N) (hn : N < 2 ^ 31) (hdg : decode cc pc = .ok (.iaload, 1))
    (kk : W p l e R s m args below meth c H locs cells slots Q (F0 m (pc + 1) ls (.int (f j) :: rest))) : W p l e R s m args below meth c H locs cells slots Q (F0 m pc ls (.int x :: .ref t :: rest)) := by
  subst hx
  exact va_ti C.1.1 C.1.2.1 hT hS (fw_nI hj hn) rfl hdg (by rw [fw_cl hj hn]; exact kk)
theorem fw_alen (C : fC p s m args c cc nL own Γ) (hP : fP Γ w H) {n t : Nat} {f : Nat → Int32} (ht : t < 7) (he : w.2 k i = some (aI t n f)) (ha : w.1 k i = a) (hdg : decode cc pc = .ok (.arraylength, 1))
    (kk : W p l e R s m args below meth c H locs cells slots Q (F0 m (pc + 1) ls (.int (nI n) :: rest))) : W p l e R s m args below meth c H locs cells slots Q (F0 m pc ls (.ref a :: rest)) := by
  obtain ⟨L, hL, hPw, -⟩ := hP
  obtain ⟨q0, -, h1⟩ := fL_at (Γ := Γ) hL he
  subst ha
  exact va_alen C.1.1 C.1.2.1 C.2.1.1 hPw q0 t h1 (fTys_at ht) rfl hdg kk
/-- calls -/
def fVw (own : String) (ix : Nat) (y : MethodName) (Cn : String) (bytes : ByteArray) (maxL : Nat) (ret : Option FieldType) (n : Nat) : Prop := Cond.methodLink own ix y ∈ lw_all ∧ Cond.instanceMethod y ∈ lw_all ∧ Cond.selects Cn y y ∈ lw_all ∧ Cond.initialized y.cls ∈ lw_all ∧ Cond.code y bytes maxL ret ∈ lw_all ∧ (y.cls ≠ "java/lang/invoke/MethodHandle" ∧ y.cls ≠ "java/lang/invoke/VarHandle") ∧ (parseMethodDescriptor y.desc).map (fun d => d.parameters.length) = some n
def fSw (own : String) (ix : Nat) (y : MethodName) (bytes : ByteArray) (maxL : Nat) (ret : Option FieldType) (n : Nat) : Prop := Cond.methodLink own ix y ∈ lw_all ∧ Cond.static y ∈ lw_all ∧ Cond.initialized y.cls ∈ lw_all ∧ Cond.code y bytes maxL ret ∈ lw_all ∧ (y.cls ≠ "java/lang/invoke/MethodHandle" ∧ y.cls ≠ "java/lang/invoke/VarHandle") ∧ (parseMethodDescriptor y.desc).map (fun d => d.parameters.length) = some n
def fIw (own : String) (ix : Nat) (y : MethodName) (bytes : ByteArray) (maxL : Nat) (n : Nat) : Prop := Cond.methodLink own ix y ∈ lw_all ∧ Cond.instanceMethod y ∈ lw_all ∧ Cond.initialized y.cls ∈ lw_all ∧ Cond.code y bytes maxL none ∈ lw_all ∧ (y.cls ≠ "java/lang/invoke/MethodHandle" ∧ y.cls ≠ "java/lang/invoke/VarHandle") ∧ (parseMethodDescriptor y.desc).map (fun d => d.parameters.length) = some n ∧ y.name = "<init>"
def fRm (R rm : Room) (maxL cells slots mc ms : Nat) (rest : List Value) : Prop := rm.cells = mc ∧ rm.slots = ms ∧ rm.frames + 1 ≤ R.frames ∧ 8 + (maxL + 11) + rm.locals ≤ R.locals ∧ cells + mc ≤ R.cells ∧ slots + ms ≤ R.slots ∧ (rest.map fun v => v.category).sum ≤ 8
theorem fw_Pc {U : State} {locs : List Loc} (C : fC p s m args c cc nL own Γ) (hP : fP Γ w H) (hS : va_S (fA Γ) s.heap H locs) {av : List Value} (hU : U.heap = H) (hW : s.WarmedH U.vm) : va_Pc av (fI Γ w) av.toArray U := ⟨rfl, fI_at C.2.1 C.2.2.1 C.2.2.2 hS hP hU hW⟩
theorem fw_cb {y : MethodName} {bytes : ByteArray} {maxL mc ms n ix : Nat} {ret : Option FieldType} {rm : Room} (C : fC p s m args c cc nL own Γ) (h1 : Cond.methodLink own ix y ∈ lw_all) (h2 : Cond.initialized y.cls ∈ lw_all) (h3 : Cond.code y bytes maxL ret ∈ lw_all) (h4 : y.cls ≠ "java/lang/invoke/MethodHandle" ∧ y.cls ≠ "java/lang/invoke/VarHandle") (h5 : (parseMethodDescriptor y.desc).map (fun d => d.parameters.length) = some n) (hr1 : rm.cells = mc) (hr2 : rm.slots = ms) (hr3 : rm.frames + 1 ≤ R.frames) (hr4 : 8 + (maxL + 11) + rm.locals ≤ R.locals) : CallB R s args own ix y bytes maxL ret (ws_ y bytes maxL ret) rm mc ms n :=
  callB_of (Ts := lw_all) n C.1.2.2.2.2 (lw_good_ws h3) rfl hr1 hr2 (C.1.2.2.2.2 _ h2) (C.1.2.2.2.2 _ h1) ⟨h4.1, h4.2, h5⟩ ⟨hr3, hr4⟩
theorem fw_rV (C : fC p s m args c cc nL own Γ) (hP : fP Γ w H) (hS : va_S (fA Γ) s.heap H locs) {y : MethodName} {Cn : String} {bytes : ByteArray} {maxL mc ms n ix ci : Nat} {ret : Option FieldType} {rm : Room} {As : List Value} {T : u_T} {N : Nat} {fs : List Value} {Qc : Array Value → State → Outcome → State → Prop} {st0 : List Value} (hw : fVw own ix y Cn bytes maxL ret n) (hM : Met l y (ws_ y bytes maxL ret) rm (va_Pc (.ref a :: As) (fI Γ w)) Qc mc ms (fA Γ)) (he : w.2 k i = some (oO ci fs)) (ha : w.1 k i = a) (hc : vwCl[ci]? = some (Cn, T, N)) (hr : fRm R rm maxL cells slots mc ms rest) (hn : As.length = n) (hsz : ls.size = nL) (hst : st0 = As.reverse ++ .ref a :: rest) (hdg : decode cc pc = .ok (.invokevirtual ix, 3)) :
    va_Run p l e R s m args below meth c H locs cells slots mc ms (F0 m pc ls st0) rest (Qc (Value.ref a :: As).toArray) (fA Γ) := by
  obtain ⟨h1, h2, h3, h4, h5, h6, h7⟩ := hw
  obtain ⟨r1, r2, r3, r4, r5, r6, r7⟩ := hr
  refine va_runV C.1 hM ⟨fw_cb C h1 h4 h5 h6 h7 r1 r2 r3 r4, C.1.2.2.2.2 _ h2, C.1.2.2.2.2 _ h3⟩ ⟨fI_blind, ?_, fun U hU hW => fw_Pc C hP hS hU hW⟩ rfl hn hsz hst (lv_room r7) hdg ⟨r5, r6⟩
  obtain ⟨L, hL, hPw, -⟩ := hP
  obtain ⟨q0, -, g1⟩ := fL_at (Γ := Γ) hL he
  subst ha
  exact va_recv C.2.1.1 hPw hc g1
theorem fw_rS (C : fC p s m args c cc nL own Γ) (hP : fP Γ w H) (hS : va_S (fA Γ) s.heap H locs) {y : MethodName} {bytes : ByteArray} {maxL mc ms n ix : Nat} {ret : Option FieldType} {rm : Room} {As : List Value} {Qc : Array Value → State → Outcome → State → Prop} {st0 : List Value} (hw : fSw own ix y bytes maxL ret n) (hM : Met l y (ws_ y bytes maxL ret) rm (va_Pc As (fI Γ w)) Qc mc ms (fA Γ)) (hr : fRm R rm maxL cells slots mc ms rest) (hn : As.length = n) (hsz : ls.size = nL) (hst : st0 = As.reverse ++ rest) (hdg : decode cc pc = .ok (.invokestatic ix, 3)) :
    va_Run p l e R s m args below meth c H locs cells slots mc ms (F0 m pc ls st0) rest (Qc As.toArray) (fA Γ) := by
  obtain ⟨h1, h2, h4, h5, h6, h7⟩ := hw
  obtain ⟨r1, r2, r3, r4, r5, r6, r7⟩ := hr
  exact va_runS C.1 hM ⟨fw_cb C h1 h4 h5 h6 h7 r1 r2 r3 r4, C.1.2.2.2.2 _ h2⟩ ⟨fI_blind, fun U hU hW => fw_Pc C hP hS hU hW⟩ rfl hn hsz hst (lv_room r7) hdg ⟨r5, r6⟩
theorem fw_rI (C : fC p s m args c cc nL own Γ) (hP : fP Γ w H) (hS : va_S (fA Γ) s.heap H locs) {y : MethodName} {bytes : ByteArray} {maxL mc ms n ix : Nat} {rm : Room} {As : List Value} {Qc : Array Value → State → Outcome → State → Prop} {st0 : List Value} (hw : fIw own ix y bytes maxL n) (hM : Met l y (ws_ y bytes maxL none) rm (va_Pc (.ref a :: As) (fI Γ w)) Qc mc ms (fA Γ)) (hr : fRm R rm maxL cells slots mc ms rest) (hn : As.length = n) (hsz : ls.size = nL) (hst : st0 = As.reverse ++ .ref a :: rest) (hdg : decode cc pc = .ok (.invokespecial ix, 3)) :
    va_Run p l e R s m args below meth c H locs cells slots mc ms (F0 m pc ls st0) rest (Qc (Value.ref a :: As).toArray) (fA Γ) := by
  obtain ⟨h1, h2, h4, h5, h6, h7, h8⟩ := hw
  obtain ⟨r1, r2, r3, r4, r5, r6, r7⟩ := hr
  exact va_runI C.1 hM ⟨fw_cb C h1 h4 h5 h6 h7 r1 r2 r3 r4, h8, C.1.2.2.2.2 _ h2⟩ ⟨fI_blind, fun U hU hW => fw_Pc C hP hS hU hW⟩ rfl hn hsz hst (lv_room r7) hdg ⟨r5, r6⟩
theorem fw_rSN (C : fC p s m args c cc nL own Γ) (hP : fP Γ w H) (hS : va_S (fA Γ) s.heap H locs) {y : MethodName} {host : String} {bytes : ByteArray} {maxL mc ms n ix : Nat} {ret : Option FieldType} {rm : Room} {As : List Value} {Qc : Array Value → State → Outcome → State → Prop} {st0 : List Value} (hl : va_Nw (.methodLinkNest own ix y host) s) (h2 : Cond.static y ∈ lw_all) (h4 : Cond.initialized y.cls ∈ lw_all) (h5 : Cond.code y bytes maxL ret ∈ lw_all) (h6 : y.cls ≠ "java/lang/invoke/MethodHandle" ∧ y.cls ≠ "java/lang/invoke/VarHandle") (h7 : (parseMethodDescriptor y.desc).map (fun d => d.parameters.length) = some n) (hM : Met l y (ws_ y bytes maxL ret) rm (va_Pc As (fI Γ w)) Qc mc ms (fA Γ)) (hr : fRm R rm maxL cells slots mc ms rest) (hn : As.length = n) (hsz : ls.size = nL) (hst : st0 = As.reverse ++ rest) (hdg : decode cc pc = .ok (.invokestatic ix, 3)) :
    va_Run p l e R s m args below meth c H locs cells slots mc ms (F0 m pc ls st0) rest (Qc As.toArray) (fA Γ) := by
  obtain ⟨r1, r2, r3, r4, r5, r6, r7⟩ := hr
  exact va_runSN C.1 hM ⟨va_cnB (Ts := lw_all) n C.1.2.2.2.2 (lw_good_ws h5) rfl r1 r2 hl (C.1.2.2.2.2 _ h4) ⟨h6.1, h6.2, h7⟩ ⟨r3, r4⟩, C.1.2.2.2.2 _ h2, trivial⟩ ⟨fI_blind, fun U hU hW => fw_Pc C hP hS hU hW⟩ rfl hn hsz hst (lv_room r7) hdg ⟨r5, r6⟩
theorem fw_ci {st0 : List Value} {a9 : Array Value} {mc ms : Nat} {post : Int32 → FW → Prop} (hS : va_S (fA Γ) s.heap H locs) (hr : va_Run p l e R s m args below meth c H locs cells slots mc ms (F0 m pc ls st0) rest (va_Qi post (fI Γ) (fA Γ) a9) (fA Γ))
    (kk : ∀ (r : Int32) (w1 : FW) (H1 : Heap) (locs1 : List Loc), post r w1 → fP Γ w1 H1 → va_S (fA Γ) s.heap H1 locs1 → W p l e R s m args below meth c H1 locs1 (cells + mc) (slots + ms) Q (F0 m (pc + 3) ls (.int r :: rest))) : W p l e R s m args below meth c H locs cells slots Q (F0 m pc ls st0) :=
  va_calli hr hS (fun _ _ h => h) (fun _ h => h) (fun r u t H1 locs1 ht _ hp hB _ _ hS1 => kk r u H1 locs1 hp (by rw [← ht]; exact hB.1) hS1)
theorem fw_cv {st0 : List Value} {a9 : Array Value} {mc ms : Nat} {post : FW → Prop} (hS : va_S (fA Γ) s.heap H locs) (hr : va_Run p l e R s m args below meth c H locs cells slots mc ms (F0 m pc ls st0) rest (va_Qv post (fI Γ) (fA Γ) a9) (fA Γ))
    (kk : ∀ (w1 : FW) (H1 : Heap) (locs1 : List Loc), post w1 → fP Γ w1 H1 → va_S (fA Γ) s.heap H1 locs1 → W p l e R s m args below meth c H1 locs1 (cells + mc) (slots + ms) Q (F0 m (pc + 3) ls rest)) : W p l e R s m args below meth c H locs cells slots Q (F0 m pc ls st0) :=
  va_callv hr hS (fun _ _ h => h) (fun _ h => h) (fun u t H1 locs1 ht _ hp hB _ _ hS1 => kk u H1 locs1 hp (by rw [← ht]; exact hB.1) hS1)
theorem fw_cq {st0 : List Value} {a9 : Array Value} {mc ms : Nat} {post : Option Nat → FW → Prop} (hS : va_S (fA Γ) s.heap H locs) (hr : va_Run p l e R s m args below meth c H locs cells slots mc ms (F0 m pc ls st0) rest (va_Qq post (fI Γ) (fA Γ) a9) (fA Γ))
    (kk : ∀ (r : Option Nat) (w1 : FW) (H1 : Heap) (locs1 : List Loc), post r w1 → fP Γ w1 H1 → va_S (fA Γ) s.heap H1 locs1 → W p l e R s m args below meth c H1 locs1 (cells + mc) (slots + ms) Q (F0 m (pc + 3) ls (va_rf r :: rest))) : W p l e R s m args below meth c H locs cells slots Q (F0 m pc ls st0) :=
  va_callq hr hS (fun _ _ h => h) (fun _ h => h) (fun r u t H1 locs1 ht _ hp hB _ _ hS1 => kk r u H1 locs1 hp (by rw [← ht]; exact hB.1) hS1)
/-- ends -/
theorem fw_reti {post : Int32 → FW → Prop} {mc ms : Nat} {v : Int32} {ty : FieldType} (C : fC p s m args c cc nL own Γ) (hr : meth.sig.returnType = some ty) (hlk : meth.locks = false) (hn : narrow ty (.int v) = .int v) (hP : fP Γ w H) (hS : va_S (fA Γ) s.heap H locs) (hp : post v w) (h1 : cells ≤ mc) (h2 : slots ≤ ms) (hdg : decode cc pc = .ok (.ireturn, 1)) : W p l e R s m args below meth c H locs cells slots (MQ below (va_Qi post (fI Γ) (fA Γ)) args s mc ms (fA Γ)) (F0 m pc ls [.int v]) :=
  W.widen h1 h2 (W.zret C.1.1 C.1.2.1 hr hn (fun t ht hW => ⟨⟨v, w, rfl, hp, fI_at C.2.1 C.2.2.1 C.2.2.2 hS hP ht hW⟩, hS.F ht⟩) hS.2.2 hdg hlk)
theorem fw_retv {post : FW → Prop} {mc ms : Nat} (C : fC p s m args c cc nL own Γ) (hr : meth.sig.returnType = none) (hlk : meth.locks = false) (hP : fP Γ w H) (hS : va_S (fA Γ) s.heap H locs) (hp : post w) (h1 : cells ≤ mc) (h2 : slots ≤ ms) (hdg : decode cc pc = .ok (.return_, 1)) : W p l e R s m args below meth c H locs cells slots (MQ below (va_Qv post (fI Γ) (fA Γ)) args s mc ms (fA Γ)) (F0 m pc ls []) :=
  W.widen h1 h2 (W.vret C.1.1 C.1.2.1 hr (fun t ht hW => ⟨⟨w, rfl, hp, fI_at C.2.1 C.2.2.1 C.2.2.2 hS hP ht hW⟩, hS.F ht⟩) hS.2.2 hdg hlk)
theorem fw_retq {post : Option Nat → FW → Prop} {mc ms : Nat} {r : Option Nat} {v : Value} {ty : FieldType} (C : fC p s m args c cc nL own Γ) (hr : meth.sig.returnType = some ty) (hty : (∃ n, ty = .object n) ∨ ∃ t, ty = .array t) (hlk : meth.locks = false) (hv : v = va_rf r) (hP : fP Γ w H) (hS : va_S (fA Γ) s.heap H locs) (hp : post r w) (h1 : cells ≤ mc) (h2 : slots ≤ ms) (hdg : decode cc pc = .ok (.areturn, 1)) : W p l e R s m args below meth c H locs cells slots (MQ below (va_Qq post (fI Γ) (fA Γ)) args s mc ms (fA Γ)) (F0 m pc ls [v]) := by
  subst hv
  exact W.widen h1 h2 (W.aret C.1.1 C.1.2.1 hr hty (by cases r <;> simp [va_rf]) (fun t ht hW => ⟨⟨r, w, rfl, hp, fI_at C.2.1 C.2.2.1 C.2.2.2 hS hP ht hW⟩, hS.F ht⟩) hS.2.2 hdg hlk)
/-- Object's constructor -/
theorem fw_obj (C : fC p s m args c cc nL own Γ) {ix : Nat} (hl : Cond.methodLink own ix objectInit ∈ lw_all) (hsz : ls.size = nL) (hR : 1 ≤ R.frames ∧ (rest.map fun v => v.category).sum + 20 ≤ R.locals) (hst : (rest.map fun v => v.category).sum ≤ 8) (hdg : decode cc pc = .ok (.invokespecial ix, 3)) (kk : W p l e R s m args below meth c H locs cells slots Q (F0 m (pc + 3) ls rest)) : W p l e R s m args below meth c H locs cells slots Q (F0 m pc ls (.ref a :: rest)) := by
  have h9 := lv_room (m := m) (pc := pc) (ls := ls) (rest := .ref a :: rest) hst
  exact W.objInit C.1.1 C.1.2.1 C.1.2.2.2.1 (C.1.2.2.2.2 _ hl) (C.1.2.2.2.2 _ qi_obj) (C.1.2.2.2.2 _ qc_obj) rfl (by show ls.size = _; rw [hsz, C.1.2.2.1]) rfl hdg hR.1 (by omega) kk
end FWA
end
section
def b2i (b : Bool) : Int32 := if b then 1 else 0
theorem b2i_nar (b : Bool) : narrow .boolean (.int (b2i b)) = .int (b2i b) := by cases b <;> rfl
theorem b2i_fit (b : Bool) : fits .boolean (.int (b2i b)) = true := by cases b <;> rfl
theorem b2i_nb (b : Bool) : vp_nar .boolean (b2i b) = b2i b := by cases b <;> rfl
theorem b2i_0 (b : Bool) : b2i b = 0 ↔ b = false := by cases b <;> decide
theorem b2i_inj {a b : Bool} : b2i a = b2i b ↔ a = b := by cases a <;> cases b <;> decide
theorem b2i_t {b : Bool} (h : b = true) : (1 : Int32) = b2i b := by subst h; rfl
theorem b2i_f {b : Bool} (h : b = false) : (0 : Int32) = b2i b := by subst h; rfl
/-- an int within 0 .. n - 1 -/
def fIn (x : Int32) (n : Nat) : Bool := decide (0 ≤ x.toInt ∧ x.toInt < n)
theorem fIn_t {x : Int32} {n : Nat} (h : fIn x n = true) (hn : n < 2 ^ 31) : ∃ j, j < n ∧ x = nI j := vp_in_of (vp_in_iff.mpr (of_decide_eq_true h)) hn
theorem fIn_N {j n : Nat} (hj : j < 2 ^ 31) : fIn (nI j) n = decide (j < n) := by
  unfold fIn
  rw [nI_toInt hj]
  congr 1
  apply propext
  omega
theorem fIn_lt {x : Int32} {n : Nat} (h : x < 0) : fIn x n = false := by
  have h1 := Int32.lt_iff_toInt_lt.mp h
  have h2 : (0 : Int32).toInt = 0 := rfl
  unfold fIn
  exact decide_eq_false (by omega)
theorem fIn_ge {x : Int32} {n : Nat} (hn : n < 2 ^ 31) (h : nI n ≤ x) : fIn x n = false := by
  have h1 := Int32.le_iff_toInt_le.mp h
  rw [nI_toInt hn] at h1
  unfold fIn
  exact decide_eq_false (by omega)
theorem fIn_in {x : Int32} {n : Nat} (hn : n < 2 ^ 31) (h0 : ¬ x < 0) (h : ¬ nI n ≤ x) : fIn x n = true := by
  have h1 : ¬ x.toInt < (0 : Int32).toInt := fun q => h0 (Int32.lt_iff_toInt_lt.mpr q)
  have h2 : ¬ (nI n).toInt ≤ x.toInt := fun q => h (Int32.le_iff_toInt_le.mpr q)
  have h3 : (0 : Int32).toInt = 0 := rfl
  rw [nI_toInt hn] at h2
  unfold fIn
  exact decide_eq_true (by omega)
theorem fIn_inL {x : Int32} {n : Nat} (hn : n < 2 ^ 31) (h0 : ¬ x < 0) (h : x < nI n) : fIn x n = true :=
  fIn_in hn h0 (Int32.not_le.mpr h)
theorem fIn_geL {x : Int32} {n : Nat} (hn : n < 2 ^ 31) (h : ¬ x < nI n) : fIn x n = false :=
  fIn_ge hn (Int32.not_lt.mp h)
section FWN
variable {p : Program} {l : Launch} {e : Env} {R : Room} {s : State} {m : MethodId} {args : Array Value} {below : List Frame} {meth : Method} {c : Code} {H : Heap} {locs : List Loc} {cells slots : Nat} {Q : State → Prop}
variable {cc : ByteArray} {nL pc : Nat} {ls : Array Slot} {rest st0 : List Value} {own : String} {Γ : FG} {w : FW} {k i a : Nat}
theorem fw_E {x y : Int32} (h : x = y) (k : W p l e R s m args below meth c H locs cells slots Q (F0 m pc ls (.int y :: rest))) : W p l e R s m args below meth c H locs cells slots Q (F0 m pc ls (.int x :: rest)) := h ▸ k
theorem fw_El {x y : Int64} (h : x = y) (k : W p l e R s m args below meth c H locs cells slots Q (F0 m pc ls (.long y :: rest))) : W p l e R s m args below meth c H locs cells slots Q (F0 m pc ls (.long x :: rest)) := h ▸ k
theorem fw_Eq {x y : Value} (h : x = y) (k : W p l e R s m args below meth c H locs cells slots Q (F0 m pc ls (y :: rest))) : W p l e R s m args below meth c H locs cells slots Q (F0 m pc ls (x :: rest)) := h ▸ k
theorem fw_addN (hexec : p.tables.exec = Jvm.exec) (hb : c.code = cc) {a b : Nat} (hdg : decode cc pc = .ok (.iadd, 1)) (k : W p l e R s m args below meth c H locs cells slots Q (F0 m (pc + 1) ls (.int (nI (a + b)) :: rest))) : W p l e R s m args below meth c H locs cells slots Q (F0 m pc ls (.int (nI b) :: .int (nI a) :: rest)) :=
  lv_iadd hexec hb hdg (by rw [nI_add]; exact k)
theorem fw_mulN (hexec : p.tables.exec = Jvm.exec) (hb : c.code = cc) {a b : Nat} (hdg : decode cc pc = .ok (.imul, 1)) (k : W p l e R s m args below meth c H locs cells slots Q (F0 m (pc + 1) ls (.int (nI (a * b)) :: rest))) : W p l e R s m args below meth c H locs cells slots Q (F0 m pc ls (.int (nI b) :: .int (nI a) :: rest)) :=
  lv_imul hexec hb hdg (by rw [pk_mul]; exact k)
theorem fw_subN (hexec : p.tables.exec = Jvm.exec) (hb : c.code = cc) {a b : Nat} (h : b ≤ a) (hdg : decode cc pc = .ok (.isub, 1)) (k : W p l e R s m args below meth c H locs cells slots Q (F0 m (pc + 1) ls (.int (nI (a - b)) :: rest))) : W p l e R s m args below meth c H locs cells slots Q (F0 m pc ls (.int (nI b) :: .int (nI a) :: rest)) :=
  lv_isub hexec hb hdg (by rw [pk_sub h]; exact k)
theorem fw_divN (hexec : p.tables.exec = Jvm.exec) (hb : c.code = cc) {a b : Nat} (ha : a < 2 ^ 31) (h0 : 0 < b) (hbb : b < 2 ^ 31) (hdg : decode cc pc = .ok (.idiv, 1)) (k : W p l e R s m args below meth c H locs cells slots Q (F0 m (pc + 1) ls (.int (nI (a / b)) :: rest))) : W p l e R s m args below meth c H locs cells slots Q (F0 m pc ls (.int (nI b) :: .int (nI a) :: rest)) :=
  lv_idiv hexec hb hdg (nI_ne0 h0 hbb) (by rw [pk_div ha h0 hbb]; exact k)
theorem fw_remN (hexec : p.tables.exec = Jvm.exec) (hb : c.code = cc) {a b : Nat} (ha : a < 2 ^ 31) (h0 : 0 < b) (hbb : b < 2 ^ 31) (hdg : decode cc pc = .ok (.irem, 1)) (k : W p l e R s m args below meth c H locs cells slots Q (F0 m (pc + 1) ls (.int (nI (a % b)) :: rest))) : W p l e R s m args below meth c H locs cells slots Q (F0 m pc ls (.int (nI b) :: .int (nI a) :: rest)) :=
  lv_irem hexec hb hdg (nI_ne0 h0 hbb) (by rw [pk_rem ha h0 hbb]; exact k)
theorem fw_geN (hexec : p.tables.exec = Jvm.exec) (hb : c.code = cc) {a b : Nat} {off : Int} {tgt : Nat} (ha : a < 2 ^ 31) (hbb : b < 2 ^ 31) (hdg : decode cc pc = .ok (.if_icmp .ge off, 3)) (ht : (pc : Int) + off = (tgt : Int)) (kt : b ≤ a → W p l e R s m args below meth c H locs cells slots Q (F0 m tgt ls rest)) (kf : a < b → W p l e R s m args below meth c H locs cells slots Q (F0 m (pc + 3) ls rest)) : W p l e R s m args below meth c H locs cells slots Q (F0 m pc ls (.int (nI b) :: .int (nI a) :: rest)) :=
  lv_icmp_ge hexec hb hdg ht (fun h => kt ((nI_leI hbb ha).mp h)) (fun h => kf (Nat.not_le.mp fun q => h ((nI_leI hbb ha).mpr q)))
theorem fw_ltN (hexec : p.tables.exec = Jvm.exec) (hb : c.code = cc) {a b : Nat} {off : Int} {tgt : Nat} (ha : a < 2 ^ 31) (hbb : b < 2 ^ 31) (hdg : decode cc pc = .ok (.if_icmp .lt off, 3)) (ht : (pc : Int) + off = (tgt : Int)) (kt : a < b → W p l e R s m args below meth c H locs cells slots Q (F0 m tgt ls rest)) (kf : b ≤ a → W p l e R s m args below meth c H locs cells slots Q (F0 m (pc + 3) ls rest)) : W p l e R s m args below meth c H locs cells slots Q (F0 m pc ls (.int (nI b) :: .int (nI a) :: rest)) :=
  lv_icmp_lt hexec hb hdg ht (fun h => kt ((nI_ltI ha hbb).mp h)) (fun h => kf (Nat.not_lt.mp fun q => h ((nI_ltI ha hbb).mpr q)))
theorem fw_gtN (hexec : p.tables.exec = Jvm.exec) (hb : c.code = cc) {a b : Nat} {off : Int} {tgt : Nat} (ha : a < 2 ^ 31) (hbb : b < 2 ^ 31) (hdg : decode cc pc = .ok (.if_icmp .gt off, 3)) (ht : (pc : Int) + off = (tgt : Int)) (kt : b < a → W p l e R s m args below meth c H locs cells slots Q (F0 m tgt ls rest)) (kf : a ≤ b → W p l e R s m args below meth c H locs cells slots Q (F0 m (pc + 3) ls rest)) : W p l e R s m args below meth c H locs cells slots Q (F0 m pc ls (.int (nI b) :: .int (nI a) :: rest)) :=
  lv_icmp_gt hexec hb hdg ht (fun h => kt ((nI_ltI hbb ha).mp h)) (fun h => kf (Nat.not_lt.mp fun q => h ((nI_ltI hbb ha).mpr q)))
theorem fw_leN (hexec : p.tables.exec = Jvm.exec) (hb : c.code = cc) {a b : Nat} {off : Int} {tgt : Nat} (ha : a < 2 ^ 31) (hbb : b < 2 ^ 31) (hdg : decode cc pc = .ok (.if_icmp .le off, 3)) (ht : (pc : Int) + off = (tgt : Int)) (kt : a ≤ b → W p l e R s m args below meth c H locs cells slots Q (F0 m tgt ls rest)) (kf : b < a → W p l e R s m args below meth c H locs cells slots Q (F0 m (pc + 3) ls rest)) : W p l e R s m args below meth c H locs cells slots Q (F0 m pc ls (.int (nI b) :: .int (nI a) :: rest)) :=
  lv_icmp_le hexec hb hdg ht (fun h => kt ((nI_leI ha hbb).mp h)) (fun h => kf (Nat.not_le.mp fun q => h ((nI_leI ha hbb).mpr q)))
theorem fw_eqN (hexec : p.tables.exec = Jvm.exec) (hb : c.code = cc) {a b : Nat} {off : Int} {tgt : Nat} (ha : a < 2 ^ 31) (hbb : b < 2 ^ 31) (hdg : decode cc pc = .ok (.if_icmp .eq off, 3)) (ht : (pc : Int) + off = (tgt : Int)) (kt : a = b → W p l e R s m args below meth c H locs cells slots Q (F0 m tgt ls rest)) (kf : a ≠ b → W p l e R s m args below meth c H locs cells slots Q (F0 m (pc + 3) ls rest)) : W p l e R s m args below meth c H locs cells slots Q (F0 m pc ls (.int (nI b) :: .int (nI a) :: rest)) :=
  lv_icmp_eq hexec hb hdg ht (fun h => kt ((nI_eq ha hbb).mp h)) (fun h => kf (fun q => h ((nI_eq ha hbb).mpr q)))
theorem fw_neN (hexec : p.tables.exec = Jvm.exec) (hb : c.code = cc) {a b : Nat} {off : Int} {tgt : Nat} (ha : a < 2 ^ 31) (hbb : b < 2 ^ 31) (hdg : decode cc pc = .ok (.if_icmp .ne off, 3)) (ht : (pc : Int) + off = (tgt : Int)) (kt : a ≠ b → W p l e R s m args below meth c H locs cells slots Q (F0 m tgt ls rest)) (kf : a = b → W p l e R s m args below meth c H locs cells slots Q (F0 m (pc + 3) ls rest)) : W p l e R s m args below meth c H locs cells slots Q (F0 m pc ls (.int (nI b) :: .int (nI a) :: rest)) :=
  lv_icmp_ne hexec hb hdg ht (fun h => kt (fun q => h ((nI_eq ha hbb).mpr q))) (fun h => kf ((nI_eq ha hbb).mp h))
theorem fw_iltN (hexec : p.tables.exec = Jvm.exec) (hb : c.code = cc) {a : Nat} {off : Int} {tgt : Nat} (ha : a < 2 ^ 31) (hdg : decode cc pc = .ok (.ifCond .lt off, 3)) (ht : (pc : Int) + off = (tgt : Int)) (kf : W p l e R s m args below meth c H locs cells slots Q (F0 m (pc + 3) ls rest)) : W p l e R s m args below meth c H locs cells slots Q (F0 m pc ls (.int (nI a) :: rest)) :=
  lv_if_lt hexec hb hdg ht (fun h => absurd h (nI_pos ha)) (fun _ => kf)
theorem fw_igeN (hexec : p.tables.exec = Jvm.exec) (hb : c.code = cc) {a : Nat} {off : Int} {tgt : Nat} (ha : a < 2 ^ 31) (hdg : decode cc pc = .ok (.ifCond .ge off, 3)) (ht : (pc : Int) + off = (tgt : Int)) (kt : W p l e R s m args below meth c H locs cells slots Q (F0 m tgt ls rest)) : W p l e R s m args below meth c H locs cells slots Q (F0 m pc ls (.int (nI a) :: rest)) :=
  lv_if_ge hexec hb hdg ht (fun _ => kt) (fun h => absurd (nI_pos' ha) h)
theorem fw_igtN (hexec : p.tables.exec = Jvm.exec) (hb : c.code = cc) {a : Nat} {off : Int} {tgt : Nat} (ha : a < 2 ^ 31) (hdg : decode cc pc = .ok (.ifCond .gt off, 3)) (ht : (pc : Int) + off = (tgt : Int)) (kt : 0 < a → W p l e R s m args below meth c H locs cells slots Q (F0 m tgt ls rest)) (kf : a = 0 → W p l e R s m args below meth c H locs cells slots Q (F0 m (pc + 3) ls rest)) : W p l e R s m args below meth c H locs cells slots Q (F0 m pc ls (.int (nI a) :: rest)) :=
  lv_if_gt hexec hb hdg ht (fun h => kt ((nI_ltI (a := 0) (by decide) ha).mp h)) (fun h => kf (Nat.eq_zero_of_not_pos fun q => h ((nI_ltI (a := 0) (by decide) ha).mpr q)))
theorem fw_ileN (hexec : p.tables.exec = Jvm.exec) (hb : c.code = cc) {a : Nat} {off : Int} {tgt : Nat} (ha : a < 2 ^ 31) (hdg : decode cc pc = .ok (.ifCond .le off, 3)) (ht : (pc : Int) + off = (tgt : Int)) (kt : a = 0 → W p l e R s m args below meth c H locs cells slots Q (F0 m tgt ls rest)) (kf : 0 < a → W p l e R s m args below meth c H locs cells slots Q (F0 m (pc + 3) ls rest)) : W p l e R s m args below meth c H locs cells slots Q (F0 m pc ls (.int (nI a) :: rest)) :=
  lv_if_le hexec hb hdg ht (fun h => kt (Nat.eq_zero_of_not_pos fun q => (Int32.not_lt.mpr h) ((nI_ltI (a := 0) (by decide) ha).mpr q))) (fun h => kf (Nat.pos_of_ne_zero fun q => h (by subst q; decide)))
theorem fw_ieqN (hexec : p.tables.exec = Jvm.exec) (hb : c.code = cc) {a : Nat} {off : Int} {tgt : Nat} (ha : a < 2 ^ 31) (hdg : decode cc pc = .ok (.ifCond .eq off, 3)) (ht : (pc : Int) + off = (tgt : Int)) (kt : a = 0 → W p l e R s m args below meth c H locs cells slots Q (F0 m tgt ls rest)) (kf : a ≠ 0 → W p l e R s m args below meth c H locs cells slots Q (F0 m (pc + 3) ls rest)) : W p l e R s m args below meth c H locs cells slots Q (F0 m pc ls (.int (nI a) :: rest)) :=
  lv_if_eq hexec hb hdg ht (fun h => kt ((nI_eq (b := 0) ha (by decide)).mp h)) (fun h => kf (fun q => h (by subst q; rfl)))
theorem fw_ineN (hexec : p.tables.exec = Jvm.exec) (hb : c.code = cc) {a : Nat} {off : Int} {tgt : Nat} (ha : a < 2 ^ 31) (hdg : decode cc pc = .ok (.ifCond .ne off, 3)) (ht : (pc : Int) + off = (tgt : Int)) (kt : a ≠ 0 → W p l e R s m args below meth c H locs cells slots Q (F0 m tgt ls rest)) (kf : a = 0 → W p l e R s m args below meth c H locs cells slots Q (F0 m (pc + 3) ls rest)) : W p l e R s m args below meth c H locs cells slots Q (F0 m pc ls (.int (nI a) :: rest)) :=
  lv_if_ne hexec hb hdg ht (fun h => kt (fun q => h (by subst q; rfl))) (fun h => kf ((nI_eq (b := 0) ha (by decide)).mp h))
theorem fw_ieqB (hexec : p.tables.exec = Jvm.exec) (hb : c.code = cc) {b : Bool} {off : Int} {tgt : Nat} (hdg : decode cc pc = .ok (.ifCond .eq off, 3)) (ht : (pc : Int) + off = (tgt : Int)) (kt : b = false → W p l e R s m args below meth c H locs cells slots Q (F0 m tgt ls rest)) (kf : b = true → W p l e R s m args below meth c H locs cells slots Q (F0 m (pc + 3) ls rest)) : W p l e R s m args below meth c H locs cells slots Q (F0 m pc ls (.int (b2i b) :: rest)) :=
  lv_if_eq hexec hb hdg ht (fun h => kt ((b2i_0 b).mp h)) (fun h => kf (by cases b; exact absurd rfl h; rfl))
theorem fw_ineB (hexec : p.tables.exec = Jvm.exec) (hb : c.code = cc) {b : Bool} {off : Int} {tgt : Nat} (hdg : decode cc pc = .ok (.ifCond .ne off, 3)) (ht : (pc : Int) + off = (tgt : Int)) (kt : b = true → W p l e R s m args below meth c H locs cells slots Q (F0 m tgt ls rest)) (kf : b = false → W p l e R s m args below meth c H locs cells slots Q (F0 m (pc + 3) ls rest)) : W p l e R s m args below meth c H locs cells slots Q (F0 m pc ls (.int (b2i b) :: rest)) :=
  lv_if_ne hexec hb hdg ht (fun h => kt (by cases b; exact absurd rfl h; rfl)) (fun h => kf ((b2i_0 b).mp h))
theorem fw_ci0 {a9 : Array Value} {mc ms : Nat} {X : Int32} (hS : va_S (fA Γ) s.heap H locs) (hr : va_Run p l e R s m args below meth c H locs cells slots mc ms (F0 m pc ls st0) rest (va_Qi (fun r w1 => r = X ∧ w1 = w) (fI Γ) (fA Γ) a9) (fA Γ))
    (kk : ∀ (H1 : Heap) (locs1 : List Loc), fP Γ w H1 → va_S (fA Γ) s.heap H1 locs1 → W p l e R s m args below meth c H1 locs1 (cells + mc) (slots + ms) Q (F0 m (pc + 3) ls (.int X :: rest))) : W p l e R s m args below meth c H locs cells slots Q (F0 m pc ls st0) :=
  fw_ci hS hr (fun r w1 H1 locs1 hp hP hS1 => by obtain ⟨h1, h2⟩ := hp; rw [h2] at hP; rw [h1]; exact kk H1 locs1 hP hS1)
theorem fw_cq0 {a9 : Array Value} {mc ms : Nat} {X : Option Nat} (hS : va_S (fA Γ) s.heap H locs) (hr : va_Run p l e R s m args below meth c H locs cells slots mc ms (F0 m pc ls st0) rest (va_Qq (fun r w1 => r = X ∧ w1 = w) (fI Γ) (fA Γ) a9) (fA Γ))
    (kk : ∀ (H1 : Heap) (locs1 : List Loc), fP Γ w H1 → va_S (fA Γ) s.heap H1 locs1 → W p l e R s m args below meth c H1 locs1 (cells + mc) (slots + ms) Q (F0 m (pc + 3) ls (va_rf X :: rest))) : W p l e R s m args below meth c H locs cells slots Q (F0 m pc ls st0) :=
  fw_cq hS hr (fun r w1 H1 locs1 hp hP hS1 => by obtain ⟨h1, h2⟩ := hp; rw [h2] at hP; rw [h1]; exact kk H1 locs1 hP hS1)
theorem fw_cv0 {a9 : Array Value} {mc ms : Nat} {w2 : FW} (hS : va_S (fA Γ) s.heap H locs) (hr : va_Run p l e R s m args below meth c H locs cells slots mc ms (F0 m pc ls st0) rest (va_Qv (fun w1 => w1 = w2) (fI Γ) (fA Γ) a9) (fA Γ))
    (kk : ∀ (H1 : Heap) (locs1 : List Loc), fP Γ w2 H1 → va_S (fA Γ) s.heap H1 locs1 → W p l e R s m args below meth c H1 locs1 (cells + mc) (slots + ms) Q (F0 m (pc + 3) ls rest)) : W p l e R s m args below meth c H locs cells slots Q (F0 m pc ls st0) :=
  fw_cv hS hr (fun w1 H1 locs1 hp hP hS1 => by rw [hp] at hP; exact kk H1 locs1 hP hS1)
theorem fw_llt (hexec : p.tables.exec = Jvm.exec) (hb : c.code = cc) {x y : Int64} {off : Int} {tgt : Nat} (hdg : decode cc pc = .ok (.ifCond .lt off, 3)) (ht : (pc : Int) + off = (tgt : Int)) (kt : x < y → W p l e R s m args below meth c H locs cells slots Q (F0 m tgt ls rest)) (kf : ¬ x < y → W p l e R s m args below meth c H locs cells slots Q (F0 m (pc + 3) ls rest)) : W p l e R s m args below meth c H locs cells slots Q (F0 m pc ls (.int (lg_cmp x y) :: rest)) :=
  lv_if_lt hexec hb hdg ht (fun h => kt ((lg_cmp_lt x y).mp h)) (fun h => kf (fun q => h ((lg_cmp_lt x y).mpr q)))
theorem fw_lge (hexec : p.tables.exec = Jvm.exec) (hb : c.code = cc) {x y : Int64} {off : Int} {tgt : Nat} (hdg : decode cc pc = .ok (.ifCond .ge off, 3)) (ht : (pc : Int) + off = (tgt : Int)) (kt : y ≤ x → W p l e R s m args below meth c H locs cells slots Q (F0 m tgt ls rest)) (kf : ¬ y ≤ x → W p l e R s m args below meth c H locs cells slots Q (F0 m (pc + 3) ls rest)) : W p l e R s m args below meth c H locs cells slots Q (F0 m pc ls (.int (lg_cmp x y) :: rest)) :=
  lv_if_ge hexec hb hdg ht (fun h => kt ((lg_cmp_ge x y).mp h)) (fun h => kf (fun q => h ((lg_cmp_ge x y).mpr q)))
theorem fw_lgt (hexec : p.tables.exec = Jvm.exec) (hb : c.code = cc) {x y : Int64} {off : Int} {tgt : Nat} (hdg : decode cc pc = .ok (.ifCond .gt off, 3)) (ht : (pc : Int) + off = (tgt : Int)) (kt : y < x → W p l e R s m args below meth c H locs cells slots Q (F0 m tgt ls rest)) (kf : ¬ y < x → W p l e R s m args below meth c H locs cells slots Q (F0 m (pc + 3) ls rest)) : W p l e R s m args below meth c H locs cells slots Q (F0 m pc ls (.int (lg_cmp x y) :: rest)) :=
  lv_if_gt hexec hb hdg ht (fun h => kt ((lg_cmp_gt x y).mp h)) (fun h => kf (fun q => h ((lg_cmp_gt x y).mpr q)))
theorem fw_lle (hexec : p.tables.exec = Jvm.exec) (hb : c.code = cc) {x y : Int64} {off : Int} {tgt : Nat} (hdg : decode cc pc = .ok (.ifCond .le off, 3)) (ht : (pc : Int) + off = (tgt : Int)) (kt : x ≤ y → W p l e R s m args below meth c H locs cells slots Q (F0 m tgt ls rest)) (kf : ¬ x ≤ y → W p l e R s m args below meth c H locs cells slots Q (F0 m (pc + 3) ls rest)) : W p l e R s m args below meth c H locs cells slots Q (F0 m pc ls (.int (lg_cmp x y) :: rest)) :=
  lv_if_le hexec hb hdg ht (fun h => kt ((lg_cmp_le x y).mp h)) (fun h => kf (fun q => h ((lg_cmp_le x y).mpr q)))
theorem fw_leq (hexec : p.tables.exec = Jvm.exec) (hb : c.code = cc) {x y : Int64} {off : Int} {tgt : Nat} (hdg : decode cc pc = .ok (.ifCond .eq off, 3)) (ht : (pc : Int) + off = (tgt : Int)) (kt : x = y → W p l e R s m args below meth c H locs cells slots Q (F0 m tgt ls rest)) (kf : ¬ x = y → W p l e R s m args below meth c H locs cells slots Q (F0 m (pc + 3) ls rest)) : W p l e R s m args below meth c H locs cells slots Q (F0 m pc ls (.int (lg_cmp x y) :: rest)) :=
  lv_if_eq hexec hb hdg ht (fun h => kt ((lg_cmp_eq x y).mp h)) (fun h => kf (fun q => h ((lg_cmp_eq x y).mpr q)))
end FWN
theorem fRm_mk {R rm : Room} {maxL cells slots mc ms : Nat} {rest : List Value} (h1 : rm.cells = mc) (h2 : rm.slots = ms) (h3 : rm.frames + 1 ≤ R.frames) (h4 : 8 + (maxL + 11) + rm.locals ≤ R.locals) (h5 : cells + mc ≤ R.cells) (h6 : slots + ms ≤ R.slots) (h7 : (rest.map fun v => v.category).sum ≤ 8) : fRm R rm maxL cells slots mc ms rest := ⟨h1, h2, h3, h4, h5, h6, h7⟩
theorem f2_f2 {α : Type} {g : Nat → Nat → α} {k i : Nat} {v v1 : α} : f2 (f2 g k i v) k i v1 = f2 g k i v1 := by
  funext a b
  unfold f2
  by_cases h : a = k
  · by_cases h2 : b = i
    · simp [h, h2]
    · simp [h, h2]
  · simp [h]
theorem fset_s {w : FW} {k i : Nat} {e e1 : FE} : fset (fset w k i e) k i e1 = fset w k i e1 := by
  show (w.1, f2 (f2 w.2 k i (some e)) k i (some e1)) = _
  rw [f2_f2]
  rfl
theorem fset_n {w : FW} {k i q : Nat} {e e1 : FE} : fset (fnew w k i e q) k i e1 = fnew w k i e1 q := by
  show (_, f2 (f2 w.2 k i (some e)) k i (some e1)) = _
  rw [f2_f2]
  rfl
theorem fset_id {w : FW} {k i : Nat} {e : FE} (h : w.2 k i = some e) : fset w k i e = w := by
  obtain ⟨ad, pic⟩ := w
  show (ad, f2 pic k i (some e)) = (ad, pic)
  congr 1
  funext a b
  unfold f2
  by_cases h1 : a = k
  · by_cases h2 : b = i
    · subst h1; subst h2; simp; exact h.symm
    · simp [h1, h2]
  · simp [h1]
theorem fset_at {w : FW} {k i : Nat} {e : FE} : (fset w k i e).2 k i = some e := f2_s
theorem fset_ne {w : FW} {k i k1 i1 : Nat} {e : FE} (h : k1 ≠ k) : (fset w k i e).2 k1 i1 = w.2 k1 i1 := f2_k h
theorem fset_ni {w : FW} {k i k1 i1 : Nat} {e : FE} (h : i1 ≠ i) : (fset w k i e).2 k1 i1 = w.2 k1 i1 := f2_i h
theorem fset_ad {w : FW} {k i k1 i1 : Nat} {e : FE} : (fset w k i e).1 k1 i1 = w.1 k1 i1 := rfl
theorem fnew_at {w : FW} {k i q : Nat} {e : FE} : (fnew w k i e q).2 k i = some e := f2_s
theorem fnew_ne {w : FW} {k i k1 i1 q : Nat} {e : FE} (h : k1 ≠ k) : (fnew w k i e q).2 k1 i1 = w.2 k1 i1 := f2_k h
theorem fnew_ni {w : FW} {k i k1 i1 q : Nat} {e : FE} (h : i1 ≠ i) : (fnew w k i e q).2 k1 i1 = w.2 k1 i1 := f2_i h
theorem fnew_aat {w : FW} {k i q : Nat} {e : FE} : (fnew w k i e q).1 k i = q := f2_s
theorem fnew_ane {w : FW} {k i k1 i1 q : Nat} {e : FE} (h : k1 ≠ k) : (fnew w k i e q).1 k1 i1 = w.1 k1 i1 := f2_k h
theorem fnew_ani {w : FW} {k i k1 i1 q : Nat} {e : FE} (h : i1 ≠ i) : (fnew w k i e q).1 k1 i1 = w.1 k1 i1 := f2_i h
end
section
section FWS
variable {p : Program} {l : Launch} {e : Env} {R : Room} {s : State} {m : MethodId} {args : Array Value} {below : List Frame} {meth : Method} {c : Code} {H : Heap} {locs : List Loc} {cells slots : Nat} {Q : State → Prop}
variable {cc : ByteArray} {nL pc : Nat} {ls : Array Slot} {rest : List Value} {Γ : FG} {w : FW} {k i a : Nat}
theorem gf_X0_7 (C : fC p s m args c cc nL RX0 Γ) (hP : fP Γ w H) {fs : List Value} (he : w.2 k i = some (oO 0 fs)) (ha : w.1 k i = a) {v : Value} (hv : fs[0]? = some v) (hdg : decode cc pc = .ok (.getfield 7, 3)) (kk : W p l e R s m args below meth c H locs cells slots Q (F0 m (pc + 3) ls (v :: rest))) : W p l e R s m args below meth c H locs cells slots Q (F0 m pc ls (.ref a :: rest)) := fw_get C hP qy_X0 rfl 0 (by decide) qf_X0_7 rfl he ha hv hdg kk
theorem gf_X0_13 (C : fC p s m args c cc nL RX0 Γ) (hP : fP Γ w H) {fs : List Value} (he : w.2 k i = some (oO 0 fs)) (ha : w.1 k i = a) {v : Value} (hv : fs[1]? = some v) (hdg : decode cc pc = .ok (.getfield 13, 3)) (kk : W p l e R s m args below meth c H locs cells slots Q (F0 m (pc + 3) ls (v :: rest))) : W p l e R s m args below meth c H locs cells slots Q (F0 m pc ls (.ref a :: rest)) := fw_get C hP qy_X0 rfl 1 (by decide) qf_X0_13 rfl he ha hv hdg kk
theorem gf_X0_16 (C : fC p s m args c cc nL RX0 Γ) (hP : fP Γ w H) {fs : List Value} (he : w.2 k i = some (oO 0 fs)) (ha : w.1 k i = a) {v : Value} (hv : fs[2]? = some v) (hdg : decode cc pc = .ok (.getfield 16, 3)) (kk : W p l e R s m args below meth c H locs cells slots Q (F0 m (pc + 3) ls (v :: rest))) : W p l e R s m args below meth c H locs cells slots Q (F0 m pc ls (.ref a :: rest)) := fw_get C hP qy_X0 rfl 2 (by decide) qf_X0_16 rfl he ha hv hdg kk
theorem gf_X0_20 (C : fC p s m args c cc nL RX0 Γ) (hP : fP Γ w H) {fs : List Value} (he : w.2 k i = some (oO 0 fs)) (ha : w.1 k i = a) {v : Value} (hv : fs[3]? = some v) (hdg : decode cc pc = .ok (.getfield 20, 3)) (kk : W p l e R s m args below meth c H locs cells slots Q (F0 m (pc + 3) ls (v :: rest))) : W p l e R s m args below meth c H locs cells slots Q (F0 m pc ls (.ref a :: rest)) := fw_get C hP qy_X0 rfl 3 (by decide) qf_X0_20 rfl he ha hv hdg kk
theorem gf_X1_9 (C : fC p s m args c cc nL RX1 Γ) (hP : fP Γ w H) {fs : List Value} (he : w.2 k i = some (oO 1 fs)) (ha : w.1 k i = a) {v : Value} (hv : fs[0]? = some v) (hdg : decode cc pc = .ok (.getfield 9, 3)) (kk : W p l e R s m args below meth c H locs cells slots Q (F0 m (pc + 3) ls (v :: rest))) : W p l e R s m args below meth c H locs cells slots Q (F0 m pc ls (.ref a :: rest)) := fw_get C hP qy_X1 rfl 0 (by decide) qf_X1_9 rfl he ha hv hdg kk
theorem gf_X1_15 (C : fC p s m args c cc nL RX1 Γ) (hP : fP Γ w H) {fs : List Value} (he : w.2 k i = some (oO 1 fs)) (ha : w.1 k i = a) {v : Value} (hv : fs[1]? = some v) (hdg : decode cc pc = .ok (.getfield 15, 3)) (kk : W p l e R s m args below meth c H locs cells slots Q (F0 m (pc + 3) ls (v :: rest))) : W p l e R s m args below meth c H locs cells slots Q (F0 m pc ls (.ref a :: rest)) := fw_get C hP qy_X1 rfl 1 (by decide) qf_X1_15 rfl he ha hv hdg kk
theorem gf_X2_15 (C : fC p s m args c cc nL RX2 Γ) (hP : fP Γ w H) {fs : List Value} (he : w.2 k i = some (oO 2 fs)) (ha : w.1 k i = a) {v : Value} (hv : fs[0]? = some v) (hdg : decode cc pc = .ok (.getfield 15, 3)) (kk : W p l e R s m args below meth c H locs cells slots Q (F0 m (pc + 3) ls (v :: rest))) : W p l e R s m args below meth c H locs cells slots Q (F0 m pc ls (.ref a :: rest)) := fw_get C hP qy_X2 rfl 0 (by decide) qf_X2_15 rfl he ha hv hdg kk
theorem gf_X2_19 (C : fC p s m args c cc nL RX2 Γ) (hP : fP Γ w H) {fs : List Value} (he : w.2 k i = some (oO 2 fs)) (ha : w.1 k i = a) {v : Value} (hv : fs[1]? = some v) (hdg : decode cc pc = .ok (.getfield 19, 3)) (kk : W p l e R s m args below meth c H locs cells slots Q (F0 m (pc + 3) ls (v :: rest))) : W p l e R s m args below meth c H locs cells slots Q (F0 m pc ls (.ref a :: rest)) := fw_get C hP qy_X2 rfl 1 (by decide) qf_X2_19 rfl he ha hv hdg kk
theorem gf_X2_23 (C : fC p s m args c cc nL RX2 Γ) (hP : fP Γ w H) {fs : List Value} (he : w.2 k i = some (oO 2 fs)) (ha : w.1 k i = a) {v : Value} (hv : fs[2]? = some v) (hdg : decode cc pc = .ok (.getfield 23, 3)) (kk : W p l e R s m args below meth c H locs cells slots Q (F0 m (pc + 3) ls (v :: rest))) : W p l e R s m args below meth c H locs cells slots Q (F0 m pc ls (.ref a :: rest)) := fw_get C hP qy_X2 rfl 2 (by decide) qf_X2_23 rfl he ha hv hdg kk
theorem gf_X4_11 (C : fC p s m args c cc nL RX4 Γ) (hP : fP Γ w H) {fs : List Value} (he : w.2 k i = some (oO 4 fs)) (ha : w.1 k i = a) {v : Value} (hv : fs[1]? = some v) (hdg : decode cc pc = .ok (.getfield 11, 3)) (kk : W p l e R s m args below meth c H locs cells slots Q (F0 m (pc + 3) ls (v :: rest))) : W p l e R s m args below meth c H locs cells slots Q (F0 m pc ls (.ref a :: rest)) := fw_get C hP qy_X4 rfl 1 (by decide) qf_X4_11 rfl he ha hv hdg kk
theorem gf_X4_17 (C : fC p s m args c cc nL RX4 Γ) (hP : fP Γ w H) {fs : List Value} (he : w.2 k i = some (oO 4 fs)) (ha : w.1 k i = a) {v : Value} (hv : fs[3]? = some v) (hdg : decode cc pc = .ok (.getfield 17, 3)) (kk : W p l e R s m args below meth c H locs cells slots Q (F0 m (pc + 3) ls (v :: rest))) : W p l e R s m args below meth c H locs cells slots Q (F0 m pc ls (.ref a :: rest)) := fw_get C hP qy_X4 rfl 3 (by decide) qf_X4_17 rfl he ha hv hdg kk
theorem gf_X4_23 (C : fC p s m args c cc nL RX4 Γ) (hP : fP Γ w H) {fs : List Value} (he : w.2 k i = some (oO 4 fs)) (ha : w.1 k i = a) {v : Value} (hv : fs[5]? = some v) (hdg : decode cc pc = .ok (.getfield 23, 3)) (kk : W p l e R s m args below meth c H locs cells slots Q (F0 m (pc + 3) ls (v :: rest))) : W p l e R s m args below meth c H locs cells slots Q (F0 m pc ls (.ref a :: rest)) := fw_get C hP qy_X4 rfl 5 (by decide) qf_X4_23 rfl he ha hv hdg kk
theorem gf_X4_27 (C : fC p s m args c cc nL RX4 Γ) (hP : fP Γ w H) {fs : List Value} (he : w.2 k i = some (oO 4 fs)) (ha : w.1 k i = a) {v : Value} (hv : fs[7]? = some v) (hdg : decode cc pc = .ok (.getfield 27, 3)) (kk : W p l e R s m args below meth c H locs cells slots Q (F0 m (pc + 3) ls (v :: rest))) : W p l e R s m args below meth c H locs cells slots Q (F0 m pc ls (.ref a :: rest)) := fw_get C hP qy_X4 rfl 7 (by decide) qf_X4_27 rfl he ha hv hdg kk
theorem gf_X4_31 (C : fC p s m args c cc nL RX4 Γ) (hP : fP Γ w H) {fs : List Value} (he : w.2 k i = some (oO 4 fs)) (ha : w.1 k i = a) {v : Value} (hv : fs[9]? = some v) (hdg : decode cc pc = .ok (.getfield 31, 3)) (kk : W p l e R s m args below meth c H locs cells slots Q (F0 m (pc + 3) ls (v :: rest))) : W p l e R s m args below meth c H locs cells slots Q (F0 m pc ls (.ref a :: rest)) := fw_get C hP qy_X4 rfl 9 (by decide) qf_X4_31 rfl he ha hv hdg kk
theorem gf_X4_34 (C : fC p s m args c cc nL RX4 Γ) (hP : fP Γ w H) {fs : List Value} (he : w.2 k i = some (oO 4 fs)) (ha : w.1 k i = a) {v : Value} (hv : fs[10]? = some v) (hdg : decode cc pc = .ok (.getfield 34, 3)) (kk : W p l e R s m args below meth c H locs cells slots Q (F0 m (pc + 3) ls (v :: rest))) : W p l e R s m args below meth c H locs cells slots Q (F0 m pc ls (.ref a :: rest)) := fw_get C hP qy_X4 rfl 10 (by decide) qf_X4_34 rfl he ha hv hdg kk
theorem gf_X4_40 (C : fC p s m args c cc nL RX4 Γ) (hP : fP Γ w H) {fs : List Value} (he : w.2 k i = some (oO 4 fs)) (ha : w.1 k i = a) {v : Value} (hv : fs[12]? = some v) (hdg : decode cc pc = .ok (.getfield 40, 3)) (kk : W p l e R s m args below meth c H locs cells slots Q (F0 m (pc + 3) ls (v :: rest))) : W p l e R s m args below meth c H locs cells slots Q (F0 m pc ls (.ref a :: rest)) := fw_get C hP qy_X4 rfl 12 (by decide) qf_X4_40 rfl he ha hv hdg kk
theorem gf_X4_44 (C : fC p s m args c cc nL RX4 Γ) (hP : fP Γ w H) {fs : List Value} (he : w.2 k i = some (oO 4 fs)) (ha : w.1 k i = a) {v : Value} (hv : fs[0]? = some v) (hdg : decode cc pc = .ok (.getfield 44, 3)) (kk : W p l e R s m args below meth c H locs cells slots Q (F0 m (pc + 3) ls (v :: rest))) : W p l e R s m args below meth c H locs cells slots Q (F0 m pc ls (.ref a :: rest)) := fw_get C hP qy_X4 rfl 0 (by decide) qf_X4_44 rfl he ha hv hdg kk
theorem gf_X4_57 (C : fC p s m args c cc nL RX4 Γ) (hP : fP Γ w H) {fs : List Value} (he : w.2 k i = some (oO 4 fs)) (ha : w.1 k i = a) {v : Value} (hv : fs[2]? = some v) (hdg : decode cc pc = .ok (.getfield 57, 3)) (kk : W p l e R s m args below meth c H locs cells slots Q (F0 m (pc + 3) ls (v :: rest))) : W p l e R s m args below meth c H locs cells slots Q (F0 m pc ls (.ref a :: rest)) := fw_get C hP qy_X4 rfl 2 (by decide) qf_X4_57 rfl he ha hv hdg kk
theorem gf_X4_63 (C : fC p s m args c cc nL RX4 Γ) (hP : fP Γ w H) {fs : List Value} (he : w.2 k i = some (oO 4 fs)) (ha : w.1 k i = a) {v : Value} (hv : fs[4]? = some v) (hdg : decode cc pc = .ok (.getfield 63, 3)) (kk : W p l e R s m args below meth c H locs cells slots Q (F0 m (pc + 3) ls (v :: rest))) : W p l e R s m args below meth c H locs cells slots Q (F0 m pc ls (.ref a :: rest)) := fw_get C hP qy_X4 rfl 4 (by decide) qf_X4_63 rfl he ha hv hdg kk
theorem gf_X4_76 (C : fC p s m args c cc nL RX4 Γ) (hP : fP Γ w H) {fs : List Value} (he : w.2 k i = some (oO 3 fs)) (ha : w.1 k i = a) {v : Value} (hv : fs[2]? = some v) (hdg : decode cc pc = .ok (.getfield 76, 3)) (kk : W p l e R s m args below meth c H locs cells slots Q (F0 m (pc + 3) ls (v :: rest))) : W p l e R s m args below meth c H locs cells slots Q (F0 m pc ls (.ref a :: rest)) := fw_getN (T := TX3) C hP qy_X3 rfl 2 (by decide) (C.2.1.2.1 (76, RX3, "byteCount", "I") (by simp [fNest])) rfl he ha hv hdg kk
theorem gf_X4_79 (C : fC p s m args c cc nL RX4 Γ) (hP : fP Γ w H) {fs : List Value} (he : w.2 k i = some (oO 3 fs)) (ha : w.1 k i = a) {v : Value} (hv : fs[1]? = some v) (hdg : decode cc pc = .ok (.getfield 79, 3)) (kk : W p l e R s m args below meth c H locs cells slots Q (F0 m (pc + 3) ls (v :: rest))) : W p l e R s m args below meth c H locs cells slots Q (F0 m pc ls (.ref a :: rest)) := fw_getN (T := TX3) C hP qy_X3 rfl 1 (by decide) (C.2.1.2.1 (79, RX3, "bytes", "[B") (by simp [fNest])) rfl he ha hv hdg kk
theorem gf_X4_83 (C : fC p s m args c cc nL RX4 Γ) (hP : fP Γ w H) {fs : List Value} (he : w.2 k i = some (oO 3 fs)) (ha : w.1 k i = a) {v : Value} (hv : fs[4]? = some v) (hdg : decode cc pc = .ok (.getfield 83, 3)) (kk : W p l e R s m args below meth c H locs cells slots Q (F0 m (pc + 3) ls (v :: rest))) : W p l e R s m args below meth c H locs cells slots Q (F0 m pc ls (.ref a :: rest)) := fw_getN (T := TX3) C hP qy_X3 rfl 4 (by decide) (C.2.1.2.1 (83, RX3, "digestStale", "Z") (by simp [fNest])) rfl he ha hv hdg kk
theorem gf_X4_102 (C : fC p s m args c cc nL RX4 Γ) (hP : fP Γ w H) {fs : List Value} (he : w.2 k i = some (oO 3 fs)) (ha : w.1 k i = a) {v : Value} (hv : fs[0]? = some v) (hdg : decode cc pc = .ok (.getfield 102, 3)) (kk : W p l e R s m args below meth c H locs cells slots Q (F0 m (pc + 3) ls (v :: rest))) : W p l e R s m args below meth c H locs cells slots Q (F0 m pc ls (.ref a :: rest)) := fw_getN (T := TX3) C hP qy_X3 rfl 0 (by decide) (C.2.1.2.1 (102, RX3, "maker", "I") (by simp [fNest])) rfl he ha hv hdg kk
theorem gf_X4_113 (C : fC p s m args c cc nL RX4 Γ) (hP : fP Γ w H) {fs : List Value} (he : w.2 k i = some (oO 4 fs)) (ha : w.1 k i = a) {v : Value} (hv : fs[6]? = some v) (hdg : decode cc pc = .ok (.getfield 113, 3)) (kk : W p l e R s m args below meth c H locs cells slots Q (F0 m (pc + 3) ls (v :: rest))) : W p l e R s m args below meth c H locs cells slots Q (F0 m pc ls (.ref a :: rest)) := fw_get C hP qy_X4 rfl 6 (by decide) qf_X4_113 rfl he ha hv hdg kk
theorem gf_X4_123 (C : fC p s m args c cc nL RX4 Γ) (hP : fP Γ w H) {fs : List Value} (he : w.2 k i = some (oO 2 fs)) (ha : w.1 k i = a) {v : Value} (hv : fs[3]? = some v) (hdg : decode cc pc = .ok (.getfield 123, 3)) (kk : W p l e R s m args below meth c H locs cells slots Q (F0 m (pc + 3) ls (v :: rest))) : W p l e R s m args below meth c H locs cells slots Q (F0 m pc ls (.ref a :: rest)) := fw_getN (T := TX2) C hP qy_X2 rfl 3 (by decide) (C.2.1.2.1 (123, RX2, "digestWords", "[I") (by simp [fNest])) rfl he ha hv hdg kk
theorem gf_X4_130 (C : fC p s m args c cc nL RX4 Γ) (hP : fP Γ w H) {fs : List Value} (he : w.2 k i = some (oO 4 fs)) (ha : w.1 k i = a) {v : Value} (hv : fs[11]? = some v) (hdg : decode cc pc = .ok (.getfield 130, 3)) (kk : W p l e R s m args below meth c H locs cells slots Q (F0 m (pc + 3) ls (v :: rest))) : W p l e R s m args below meth c H locs cells slots Q (F0 m pc ls (.ref a :: rest)) := fw_get C hP qy_X4 rfl 11 (by decide) qf_X4_130 rfl he ha hv hdg kk
theorem gf_X4_142 (C : fC p s m args c cc nL RX4 Γ) (hP : fP Γ w H) {fs : List Value} (he : w.2 k i = some (oO 2 fs)) (ha : w.1 k i = a) {v : Value} (hv : fs[4]? = some v) (hdg : decode cc pc = .ok (.getfield 142, 3)) (kk : W p l e R s m args below meth c H locs cells slots Q (F0 m (pc + 3) ls (v :: rest))) : W p l e R s m args below meth c H locs cells slots Q (F0 m pc ls (.ref a :: rest)) := fw_getN (T := TX2) C hP qy_X2 rfl 4 (by decide) (C.2.1.2.1 (142, RX2, "isWithdrawn", "Z") (by simp [fNest])) rfl he ha hv hdg kk
theorem gf_X4_145 (C : fC p s m args c cc nL RX4 Γ) (hP : fP Γ w H) {fs : List Value} (he : w.2 k i = some (oO 4 fs)) (ha : w.1 k i = a) {v : Value} (hv : fs[8]? = some v) (hdg : decode cc pc = .ok (.getfield 145, 3)) (kk : W p l e R s m args below meth c H locs cells slots Q (F0 m (pc + 3) ls (v :: rest))) : W p l e R s m args below meth c H locs cells slots Q (F0 m pc ls (.ref a :: rest)) := fw_get C hP qy_X4 rfl 8 (by decide) qf_X4_145 rfl he ha hv hdg kk
theorem gf_X4_152 (C : fC p s m args c cc nL RX4 Γ) (hP : fP Γ w H) {fs : List Value} (he : w.2 k i = some (oO 3 fs)) (ha : w.1 k i = a) {v : Value} (hv : fs[8]? = some v) (hdg : decode cc pc = .ok (.getfield 152, 3)) (kk : W p l e R s m args below meth c H locs cells slots Q (F0 m (pc + 3) ls (v :: rest))) : W p l e R s m args below meth c H locs cells slots Q (F0 m pc ls (.ref a :: rest)) := fw_getN (T := TX3) C hP qy_X3 rfl 8 (by decide) (C.2.1.2.1 (152, RX3, "neededCount", "I") (by simp [fNest])) rfl he ha hv hdg kk
theorem gf_X4_155 (C : fC p s m args c cc nL RX4 Γ) (hP : fP Γ w H) {fs : List Value} (he : w.2 k i = some (oO 3 fs)) (ha : w.1 k i = a) {v : Value} (hv : fs[7]? = some v) (hdg : decode cc pc = .ok (.getfield 155, 3)) (kk : W p l e R s m args below meth c H locs cells slots Q (F0 m (pc + 3) ls (v :: rest))) : W p l e R s m args below meth c H locs cells slots Q (F0 m pc ls (.ref a :: rest)) := fw_getN (T := TX3) C hP qy_X3 rfl 7 (by decide) (C.2.1.2.1 (155, RX3, "needed", "[I") (by simp [fNest])) rfl he ha hv hdg kk
theorem gf_X4_158 (C : fC p s m args c cc nL RX4 Γ) (hP : fP Γ w H) {fs : List Value} (he : w.2 k i = some (oO 3 fs)) (ha : w.1 k i = a) {v : Value} (hv : fs[6]? = some v) (hdg : decode cc pc = .ok (.getfield 158, 3)) (kk : W p l e R s m args below meth c H locs cells slots Q (F0 m (pc + 3) ls (v :: rest))) : W p l e R s m args below meth c H locs cells slots Q (F0 m pc ls (.ref a :: rest)) := fw_getN (T := TX3) C hP qy_X3 rfl 6 (by decide) (C.2.1.2.1 (158, RX3, "commentCount", "I") (by simp [fNest])) rfl he ha hv hdg kk
theorem gf_X4_161 (C : fC p s m args c cc nL RX4 Γ) (hP : fP Γ w H) {fs : List Value} (he : w.2 k i = some (oO 3 fs)) (ha : w.1 k i = a) {v : Value} (hv : fs[5]? = some v) (hdg : decode cc pc = .ok (.getfield 161, 3)) (kk : W p l e R s m args below meth c H locs cells slots Q (F0 m (pc + 3) ls (v :: rest))) : W p l e R s m args below meth c H locs cells slots Q (F0 m pc ls (.ref a :: rest)) := fw_getN (T := TX3) C hP qy_X3 rfl 5 (by decide) (C.2.1.2.1 (161, RX3, "comments", "[B") (by simp [fNest])) rfl he ha hv hdg kk
theorem gf_X4_167 (C : fC p s m args c cc nL RX4 Γ) (hP : fP Γ w H) {fs : List Value} (he : w.2 k i = some (oO 2 fs)) (ha : w.1 k i = a) {v : Value} (hv : fs[0]? = some v) (hdg : decode cc pc = .ok (.getfield 167, 3)) (kk : W p l e R s m args below meth c H locs cells slots Q (F0 m (pc + 3) ls (v :: rest))) : W p l e R s m args below meth c H locs cells slots Q (F0 m pc ls (.ref a :: rest)) := fw_getN (T := TX2) C hP qy_X2 rfl 0 (by decide) (C.2.1.2.1 (167, RX2, "thing", "LSignRows$Thing;") (by simp [fNest])) rfl he ha hv hdg kk
theorem gf_X4_171 (C : fC p s m args c cc nL RX4 Γ) (hP : fP Γ w H) {fs : List Value} (he : w.2 k i = some (oO 2 fs)) (ha : w.1 k i = a) {v : Value} (hv : fs[2]? = some v) (hdg : decode cc pc = .ok (.getfield 171, 3)) (kk : W p l e R s m args below meth c H locs cells slots Q (F0 m (pc + 3) ls (v :: rest))) : W p l e R s m args below meth c H locs cells slots Q (F0 m pc ls (.ref a :: rest)) := fw_getN (T := TX2) C hP qy_X2 rfl 2 (by decide) (C.2.1.2.1 (171, RX2, "meaning", "I") (by simp [fNest])) rfl he ha hv hdg kk
theorem gf_X4_185 (C : fC p s m args c cc nL RX4 Γ) (hP : fP Γ w H) {fs : List Value} (he : w.2 k i = some (oO 1 fs)) (ha : w.1 k i = a) {v : Value} (hv : fs[0]? = some v) (hdg : decode cc pc = .ok (.getfield 185, 3)) (kk : W p l e R s m args below meth c H locs cells slots Q (F0 m (pc + 3) ls (v :: rest))) : W p l e R s m args below meth c H locs cells slots Q (F0 m pc ls (.ref a :: rest)) := fw_getN (T := TX1) C hP qy_X1 rfl 0 (by decide) (C.2.1.2.1 (185, RX1, "state", "[I") (by simp [fNest])) rfl he ha hv hdg kk
theorem gf_X4_188 (C : fC p s m args c cc nL RX4 Γ) (hP : fP Γ w H) {fs : List Value} (he : w.2 k i = some (oO 3 fs)) (ha : w.1 k i = a) {v : Value} (hv : fs[3]? = some v) (hdg : decode cc pc = .ok (.getfield 188, 3)) (kk : W p l e R s m args below meth c H locs cells slots Q (F0 m (pc + 3) ls (v :: rest))) : W p l e R s m args below meth c H locs cells slots Q (F0 m pc ls (.ref a :: rest)) := fw_getN (T := TX3) C hP qy_X3 rfl 3 (by decide) (C.2.1.2.1 (188, RX3, "digestWords", "[I") (by simp [fNest])) rfl he ha hv hdg kk
theorem gf_X5_9 (C : fC p s m args c cc nL RX5 Γ) (hP : fP Γ w H) {fs : List Value} (he : w.2 k i = some (oO 5 fs)) (ha : w.1 k i = a) {v : Value} (hv : fs[2]? = some v) (hdg : decode cc pc = .ok (.getfield 9, 3)) (kk : W p l e R s m args below meth c H locs cells slots Q (F0 m (pc + 3) ls (v :: rest))) : W p l e R s m args below meth c H locs cells slots Q (F0 m pc ls (.ref a :: rest)) := fw_get C hP qy_X5 rfl 2 (by decide) qf_X5_9 rfl he ha hv hdg kk
theorem gf_X5_13 (C : fC p s m args c cc nL RX5 Γ) (hP : fP Γ w H) {fs : List Value} (he : w.2 k i = some (oO 5 fs)) (ha : w.1 k i = a) {v : Value} (hv : fs[3]? = some v) (hdg : decode cc pc = .ok (.getfield 13, 3)) (kk : W p l e R s m args below meth c H locs cells slots Q (F0 m (pc + 3) ls (v :: rest))) : W p l e R s m args below meth c H locs cells slots Q (F0 m pc ls (.ref a :: rest)) := fw_get C hP qy_X5 rfl 3 (by decide) qf_X5_13 rfl he ha hv hdg kk
theorem gf_X5_16 (C : fC p s m args c cc nL RX5 Γ) (hP : fP Γ w H) {fs : List Value} (he : w.2 k i = some (oO 5 fs)) (ha : w.1 k i = a) {v : Value} (hv : fs[4]? = some v) (hdg : decode cc pc = .ok (.getfield 16, 3)) (kk : W p l e R s m args below meth c H locs cells slots Q (F0 m (pc + 3) ls (v :: rest))) : W p l e R s m args below meth c H locs cells slots Q (F0 m pc ls (.ref a :: rest)) := fw_get C hP qy_X5 rfl 4 (by decide) qf_X5_16 rfl he ha hv hdg kk
theorem gf_X5_20 (C : fC p s m args c cc nL RX5 Γ) (hP : fP Γ w H) {fs : List Value} (he : w.2 k i = some (oO 5 fs)) (ha : w.1 k i = a) {v : Value} (hv : fs[5]? = some v) (hdg : decode cc pc = .ok (.getfield 20, 3)) (kk : W p l e R s m args below meth c H locs cells slots Q (F0 m (pc + 3) ls (v :: rest))) : W p l e R s m args below meth c H locs cells slots Q (F0 m pc ls (.ref a :: rest)) := fw_get C hP qy_X5 rfl 5 (by decide) qf_X5_20 rfl he ha hv hdg kk
theorem gf_X5_23 (C : fC p s m args c cc nL RX5 Γ) (hP : fP Γ w H) {fs : List Value} (he : w.2 k i = some (oO 5 fs)) (ha : w.1 k i = a) {v : Value} (hv : fs[7]? = some v) (hdg : decode cc pc = .ok (.getfield 23, 3)) (kk : W p l e R s m args below meth c H locs cells slots Q (F0 m (pc + 3) ls (v :: rest))) : W p l e R s m args below meth c H locs cells slots Q (F0 m pc ls (.ref a :: rest)) := fw_get C hP qy_X5 rfl 7 (by decide) qf_X5_23 rfl he ha hv hdg kk
theorem gf_X5_26 (C : fC p s m args c cc nL RX5 Γ) (hP : fP Γ w H) {fs : List Value} (he : w.2 k i = some (oO 5 fs)) (ha : w.1 k i = a) {v : Value} (hv : fs[8]? = some v) (hdg : decode cc pc = .ok (.getfield 26, 3)) (kk : W p l e R s m args below meth c H locs cells slots Q (F0 m (pc + 3) ls (v :: rest))) : W p l e R s m args below meth c H locs cells slots Q (F0 m pc ls (.ref a :: rest)) := fw_get C hP qy_X5 rfl 8 (by decide) qf_X5_26 rfl he ha hv hdg kk
theorem gf_X5_29 (C : fC p s m args c cc nL RX5 Γ) (hP : fP Γ w H) {fs : List Value} (he : w.2 k i = some (oO 5 fs)) (ha : w.1 k i = a) {v : Value} (hv : fs[9]? = some v) (hdg : decode cc pc = .ok (.getfield 29, 3)) (kk : W p l e R s m args below meth c H locs cells slots Q (F0 m (pc + 3) ls (v :: rest))) : W p l e R s m args below meth c H locs cells slots Q (F0 m pc ls (.ref a :: rest)) := fw_get C hP qy_X5 rfl 9 (by decide) qf_X5_29 rfl he ha hv hdg kk
theorem gf_X5_32 (C : fC p s m args c cc nL RX5 Γ) (hP : fP Γ w H) {fs : List Value} (he : w.2 k i = some (oO 5 fs)) (ha : w.1 k i = a) {v : Value} (hv : fs[10]? = some v) (hdg : decode cc pc = .ok (.getfield 32, 3)) (kk : W p l e R s m args below meth c H locs cells slots Q (F0 m (pc + 3) ls (v :: rest))) : W p l e R s m args below meth c H locs cells slots Q (F0 m pc ls (.ref a :: rest)) := fw_get C hP qy_X5 rfl 10 (by decide) qf_X5_32 rfl he ha hv hdg kk
theorem gf_X5_35 (C : fC p s m args c cc nL RX5 Γ) (hP : fP Γ w H) {fs : List Value} (he : w.2 k i = some (oO 5 fs)) (ha : w.1 k i = a) {v : Value} (hv : fs[11]? = some v) (hdg : decode cc pc = .ok (.getfield 35, 3)) (kk : W p l e R s m args below meth c H locs cells slots Q (F0 m (pc + 3) ls (v :: rest))) : W p l e R s m args below meth c H locs cells slots Q (F0 m pc ls (.ref a :: rest)) := fw_get C hP qy_X5 rfl 11 (by decide) qf_X5_35 rfl he ha hv hdg kk
theorem gf_X5_38 (C : fC p s m args c cc nL RX5 Γ) (hP : fP Γ w H) {fs : List Value} (he : w.2 k i = some (oO 5 fs)) (ha : w.1 k i = a) {v : Value} (hv : fs[12]? = some v) (hdg : decode cc pc = .ok (.getfield 38, 3)) (kk : W p l e R s m args below meth c H locs cells slots Q (F0 m (pc + 3) ls (v :: rest))) : W p l e R s m args below meth c H locs cells slots Q (F0 m pc ls (.ref a :: rest)) := fw_get C hP qy_X5 rfl 12 (by decide) qf_X5_38 rfl he ha hv hdg kk
theorem gf_X5_41 (C : fC p s m args c cc nL RX5 Γ) (hP : fP Γ w H) {fs : List Value} (he : w.2 k i = some (oO 5 fs)) (ha : w.1 k i = a) {v : Value} (hv : fs[13]? = some v) (hdg : decode cc pc = .ok (.getfield 41, 3)) (kk : W p l e R s m args below meth c H locs cells slots Q (F0 m (pc + 3) ls (v :: rest))) : W p l e R s m args below meth c H locs cells slots Q (F0 m pc ls (.ref a :: rest)) := fw_get C hP qy_X5 rfl 13 (by decide) qf_X5_41 rfl he ha hv hdg kk
theorem gf_X5_44 (C : fC p s m args c cc nL RX5 Γ) (hP : fP Γ w H) {fs : List Value} (he : w.2 k i = some (oO 5 fs)) (ha : w.1 k i = a) {v : Value} (hv : fs[14]? = some v) (hdg : decode cc pc = .ok (.getfield 44, 3)) (kk : W p l e R s m args below meth c H locs cells slots Q (F0 m (pc + 3) ls (v :: rest))) : W p l e R s m args below meth c H locs cells slots Q (F0 m pc ls (.ref a :: rest)) := fw_get C hP qy_X5 rfl 14 (by decide) qf_X5_44 rfl he ha hv hdg kk
theorem gf_X5_47 (C : fC p s m args c cc nL RX5 Γ) (hP : fP Γ w H) {fs : List Value} (he : w.2 k i = some (oO 5 fs)) (ha : w.1 k i = a) {v : Value} (hv : fs[16]? = some v) (hdg : decode cc pc = .ok (.getfield 47, 3)) (kk : W p l e R s m args below meth c H locs cells slots Q (F0 m (pc + 3) ls (v :: rest))) : W p l e R s m args below meth c H locs cells slots Q (F0 m pc ls (.ref a :: rest)) := fw_get C hP qy_X5 rfl 16 (by decide) qf_X5_47 rfl he ha hv hdg kk
theorem gf_X5_50 (C : fC p s m args c cc nL RX5 Γ) (hP : fP Γ w H) {fs : List Value} (he : w.2 k i = some (oO 5 fs)) (ha : w.1 k i = a) {v : Value} (hv : fs[17]? = some v) (hdg : decode cc pc = .ok (.getfield 50, 3)) (kk : W p l e R s m args below meth c H locs cells slots Q (F0 m (pc + 3) ls (v :: rest))) : W p l e R s m args below meth c H locs cells slots Q (F0 m pc ls (.ref a :: rest)) := fw_get C hP qy_X5 rfl 17 (by decide) qf_X5_50 rfl he ha hv hdg kk
theorem gf_X5_53 (C : fC p s m args c cc nL RX5 Γ) (hP : fP Γ w H) {fs : List Value} (he : w.2 k i = some (oO 5 fs)) (ha : w.1 k i = a) {v : Value} (hv : fs[18]? = some v) (hdg : decode cc pc = .ok (.getfield 53, 3)) (kk : W p l e R s m args below meth c H locs cells slots Q (F0 m (pc + 3) ls (v :: rest))) : W p l e R s m args below meth c H locs cells slots Q (F0 m pc ls (.ref a :: rest)) := fw_get C hP qy_X5 rfl 18 (by decide) qf_X5_53 rfl he ha hv hdg kk
theorem gf_X5_56 (C : fC p s m args c cc nL RX5 Γ) (hP : fP Γ w H) {fs : List Value} (he : w.2 k i = some (oO 5 fs)) (ha : w.1 k i = a) {v : Value} (hv : fs[19]? = some v) (hdg : decode cc pc = .ok (.getfield 56, 3)) (kk : W p l e R s m args below meth c H locs cells slots Q (F0 m (pc + 3) ls (v :: rest))) : W p l e R s m args below meth c H locs cells slots Q (F0 m pc ls (.ref a :: rest)) := fw_get C hP qy_X5 rfl 19 (by decide) qf_X5_56 rfl he ha hv hdg kk
theorem gf_X5_59 (C : fC p s m args c cc nL RX5 Γ) (hP : fP Γ w H) {fs : List Value} (he : w.2 k i = some (oO 5 fs)) (ha : w.1 k i = a) {v : Value} (hv : fs[20]? = some v) (hdg : decode cc pc = .ok (.getfield 59, 3)) (kk : W p l e R s m args below meth c H locs cells slots Q (F0 m (pc + 3) ls (v :: rest))) : W p l e R s m args below meth c H locs cells slots Q (F0 m pc ls (.ref a :: rest)) := fw_get C hP qy_X5 rfl 20 (by decide) qf_X5_59 rfl he ha hv hdg kk
theorem gf_X5_63 (C : fC p s m args c cc nL RX5 Γ) (hP : fP Γ w H) {fs : List Value} (he : w.2 k i = some (oO 5 fs)) (ha : w.1 k i = a) {v : Value} (hv : fs[22]? = some v) (hdg : decode cc pc = .ok (.getfield 63, 3)) (kk : W p l e R s m args below meth c H locs cells slots Q (F0 m (pc + 3) ls (v :: rest))) : W p l e R s m args below meth c H locs cells slots Q (F0 m pc ls (.ref a :: rest)) := fw_get C hP qy_X5 rfl 22 (by decide) qf_X5_63 rfl he ha hv hdg kk
theorem gf_X5_66 (C : fC p s m args c cc nL RX5 Γ) (hP : fP Γ w H) {fs : List Value} (he : w.2 k i = some (oO 5 fs)) (ha : w.1 k i = a) {v : Value} (hv : fs[23]? = some v) (hdg : decode cc pc = .ok (.getfield 66, 3)) (kk : W p l e R s m args below meth c H locs cells slots Q (F0 m (pc + 3) ls (v :: rest))) : W p l e R s m args below meth c H locs cells slots Q (F0 m pc ls (.ref a :: rest)) := fw_get C hP qy_X5 rfl 23 (by decide) qf_X5_66 rfl he ha hv hdg kk
theorem gf_X5_69 (C : fC p s m args c cc nL RX5 Γ) (hP : fP Γ w H) {fs : List Value} (he : w.2 k i = some (oO 5 fs)) (ha : w.1 k i = a) {v : Value} (hv : fs[27]? = some v) (hdg : decode cc pc = .ok (.getfield 69, 3)) (kk : W p l e R s m args below meth c H locs cells slots Q (F0 m (pc + 3) ls (v :: rest))) : W p l e R s m args below meth c H locs cells slots Q (F0 m pc ls (.ref a :: rest)) := fw_get C hP qy_X5 rfl 27 (by decide) qf_X5_69 rfl he ha hv hdg kk
theorem gf_X5_72 (C : fC p s m args c cc nL RX5 Γ) (hP : fP Γ w H) {fs : List Value} (he : w.2 k i = some (oO 5 fs)) (ha : w.1 k i = a) {v : Value} (hv : fs[28]? = some v) (hdg : decode cc pc = .ok (.getfield 72, 3)) (kk : W p l e R s m args below meth c H locs cells slots Q (F0 m (pc + 3) ls (v :: rest))) : W p l e R s m args below meth c H locs cells slots Q (F0 m pc ls (.ref a :: rest)) := fw_get C hP qy_X5 rfl 28 (by decide) qf_X5_72 rfl he ha hv hdg kk
theorem gf_X5_75 (C : fC p s m args c cc nL RX5 Γ) (hP : fP Γ w H) {fs : List Value} (he : w.2 k i = some (oO 5 fs)) (ha : w.1 k i = a) {v : Value} (hv : fs[29]? = some v) (hdg : decode cc pc = .ok (.getfield 75, 3)) (kk : W p l e R s m args below meth c H locs cells slots Q (F0 m (pc + 3) ls (v :: rest))) : W p l e R s m args below meth c H locs cells slots Q (F0 m pc ls (.ref a :: rest)) := fw_get C hP qy_X5 rfl 29 (by decide) qf_X5_75 rfl he ha hv hdg kk
theorem gf_X5_78 (C : fC p s m args c cc nL RX5 Γ) (hP : fP Γ w H) {fs : List Value} (he : w.2 k i = some (oO 5 fs)) (ha : w.1 k i = a) {v : Value} (hv : fs[30]? = some v) (hdg : decode cc pc = .ok (.getfield 78, 3)) (kk : W p l e R s m args below meth c H locs cells slots Q (F0 m (pc + 3) ls (v :: rest))) : W p l e R s m args below meth c H locs cells slots Q (F0 m pc ls (.ref a :: rest)) := fw_get C hP qy_X5 rfl 30 (by decide) qf_X5_78 rfl he ha hv hdg kk
theorem gf_X5_81 (C : fC p s m args c cc nL RX5 Γ) (hP : fP Γ w H) {fs : List Value} (he : w.2 k i = some (oO 5 fs)) (ha : w.1 k i = a) {v : Value} (hv : fs[31]? = some v) (hdg : decode cc pc = .ok (.getfield 81, 3)) (kk : W p l e R s m args below meth c H locs cells slots Q (F0 m (pc + 3) ls (v :: rest))) : W p l e R s m args below meth c H locs cells slots Q (F0 m pc ls (.ref a :: rest)) := fw_get C hP qy_X5 rfl 31 (by decide) qf_X5_81 rfl he ha hv hdg kk
theorem gf_X5_84 (C : fC p s m args c cc nL RX5 Γ) (hP : fP Γ w H) {fs : List Value} (he : w.2 k i = some (oO 5 fs)) (ha : w.1 k i = a) {v : Value} (hv : fs[25]? = some v) (hdg : decode cc pc = .ok (.getfield 84, 3)) (kk : W p l e R s m args below meth c H locs cells slots Q (F0 m (pc + 3) ls (v :: rest))) : W p l e R s m args below meth c H locs cells slots Q (F0 m pc ls (.ref a :: rest)) := fw_get C hP qy_X5 rfl 25 (by decide) qf_X5_84 rfl he ha hv hdg kk
theorem gf_X5_88 (C : fC p s m args c cc nL RX5 Γ) (hP : fP Γ w H) {fs : List Value} (he : w.2 k i = some (oO 5 fs)) (ha : w.1 k i = a) {v : Value} (hv : fs[0]? = some v) (hdg : decode cc pc = .ok (.getfield 88, 3)) (kk : W p l e R s m args below meth c H locs cells slots Q (F0 m (pc + 3) ls (v :: rest))) : W p l e R s m args below meth c H locs cells slots Q (F0 m pc ls (.ref a :: rest)) := fw_get C hP qy_X5 rfl 0 (by decide) qf_X5_88 rfl he ha hv hdg kk
theorem gf_X5_91 (C : fC p s m args c cc nL RX5 Γ) (hP : fP Γ w H) {fs : List Value} (he : w.2 k i = some (oO 5 fs)) (ha : w.1 k i = a) {v : Value} (hv : fs[6]? = some v) (hdg : decode cc pc = .ok (.getfield 91, 3)) (kk : W p l e R s m args below meth c H locs cells slots Q (F0 m (pc + 3) ls (v :: rest))) : W p l e R s m args below meth c H locs cells slots Q (F0 m pc ls (.ref a :: rest)) := fw_get C hP qy_X5 rfl 6 (by decide) qf_X5_91 rfl he ha hv hdg kk
theorem gf_X5_107 (C : fC p s m args c cc nL RX5 Γ) (hP : fP Γ w H) {fs : List Value} (he : w.2 k i = some (oO 5 fs)) (ha : w.1 k i = a) {v : Value} (hv : fs[1]? = some v) (hdg : decode cc pc = .ok (.getfield 107, 3)) (kk : W p l e R s m args below meth c H locs cells slots Q (F0 m (pc + 3) ls (v :: rest))) : W p l e R s m args below meth c H locs cells slots Q (F0 m pc ls (.ref a :: rest)) := fw_get C hP qy_X5 rfl 1 (by decide) qf_X5_107 rfl he ha hv hdg kk
theorem gf_X5_117 (C : fC p s m args c cc nL RX5 Γ) (hP : fP Γ w H) {fs : List Value} (he : w.2 k i = some (oO 5 fs)) (ha : w.1 k i = a) {v : Value} (hv : fs[15]? = some v) (hdg : decode cc pc = .ok (.getfield 117, 3)) (kk : W p l e R s m args below meth c H locs cells slots Q (F0 m (pc + 3) ls (v :: rest))) : W p l e R s m args below meth c H locs cells slots Q (F0 m pc ls (.ref a :: rest)) := fw_get C hP qy_X5 rfl 15 (by decide) qf_X5_117 rfl he ha hv hdg kk
theorem gf_X5_123 (C : fC p s m args c cc nL RX5 Γ) (hP : fP Γ w H) {fs : List Value} (he : w.2 k i = some (oO 5 fs)) (ha : w.1 k i = a) {v : Value} (hv : fs[24]? = some v) (hdg : decode cc pc = .ok (.getfield 123, 3)) (kk : W p l e R s m args below meth c H locs cells slots Q (F0 m (pc + 3) ls (v :: rest))) : W p l e R s m args below meth c H locs cells slots Q (F0 m pc ls (.ref a :: rest)) := fw_get C hP qy_X5 rfl 24 (by decide) qf_X5_123 rfl he ha hv hdg kk
theorem gf_X5_137 (C : fC p s m args c cc nL RX5 Γ) (hP : fP Γ w H) {fs : List Value} (he : w.2 k i = some (oO 5 fs)) (ha : w.1 k i = a) {v : Value} (hv : fs[21]? = some v) (hdg : decode cc pc = .ok (.getfield 137, 3)) (kk : W p l e R s m args below meth c H locs cells slots Q (F0 m (pc + 3) ls (v :: rest))) : W p l e R s m args below meth c H locs cells slots Q (F0 m pc ls (.ref a :: rest)) := fw_get C hP qy_X5 rfl 21 (by decide) qf_X5_137 rfl he ha hv hdg kk
theorem gf_X5_153 (C : fC p s m args c cc nL RX5 Γ) (hP : fP Γ w H) {fs : List Value} (he : w.2 k i = some (oO 5 fs)) (ha : w.1 k i = a) {v : Value} (hv : fs[26]? = some v) (hdg : decode cc pc = .ok (.getfield 153, 3)) (kk : W p l e R s m args below meth c H locs cells slots Q (F0 m (pc + 3) ls (v :: rest))) : W p l e R s m args below meth c H locs cells slots Q (F0 m pc ls (.ref a :: rest)) := fw_get C hP qy_X5 rfl 26 (by decide) qf_X5_153 rfl he ha hv hdg kk
theorem pf_X0_7 (C : fC p s m args c cc nL RX0 Γ) (hP : fP Γ w H) (hS : va_S (fA Γ) s.heap H locs) (hin : meth.name = "<init>") {v : Value} (hn : narrow (tyX0 0) v = v) (hfit : fits (tyX0 0) v = true) {fs : List Value} (he : w.2 k i = some (oO 0 fs)) (ha : w.1 k i = a) (hl : 0 < fs.length) (hdg : decode cc pc = .ok (.putfield 7, 3)) (kk : ∀ (H1 : Heap) (locs1 : List Loc), fP Γ (fset w k i (oO 0 (fs.set 0 v))) H1 → va_S (fA Γ) s.heap H1 locs1 → W p l e R s m args below meth c H1 locs1 cells slots Q (F0 m (pc + 3) ls rest)) : W p l e R s m args below meth c H locs cells slots Q (F0 m pc ls (v :: .ref a :: rest)) := fw_putF C hP hS hin qy_X0 tyX0 tyX0_ok nmX0 rfl 0 (by decide) qf_X0_7 rfl rfl rfl hn hfit he ha hl hdg kk
theorem pf_X0_13 (C : fC p s m args c cc nL RX0 Γ) (hP : fP Γ w H) (hS : va_S (fA Γ) s.heap H locs) (hin : meth.name = "<init>") {v : Value} (hn : narrow (tyX0 1) v = v) (hfit : fits (tyX0 1) v = true) {fs : List Value} (he : w.2 k i = some (oO 0 fs)) (ha : w.1 k i = a) (hl : 1 < fs.length) (hdg : decode cc pc = .ok (.putfield 13, 3)) (kk : ∀ (H1 : Heap) (locs1 : List Loc), fP Γ (fset w k i (oO 0 (fs.set 1 v))) H1 → va_S (fA Γ) s.heap H1 locs1 → W p l e R s m args below meth c H1 locs1 cells slots Q (F0 m (pc + 3) ls rest)) : W p l e R s m args below meth c H locs cells slots Q (F0 m pc ls (v :: .ref a :: rest)) := fw_putF C hP hS hin qy_X0 tyX0 tyX0_ok nmX0 rfl 1 (by decide) qf_X0_13 rfl rfl rfl hn hfit he ha hl hdg kk
theorem pf_X0_16 (C : fC p s m args c cc nL RX0 Γ) (hP : fP Γ w H) (hS : va_S (fA Γ) s.heap H locs) (hin : meth.name = "<init>") {v : Value} (hn : narrow (tyX0 2) v = v) (hfit : fits (tyX0 2) v = true) {fs : List Value} (he : w.2 k i = some (oO 0 fs)) (ha : w.1 k i = a) (hl : 2 < fs.length) (hdg : decode cc pc = .ok (.putfield 16, 3)) (kk : ∀ (H1 : Heap) (locs1 : List Loc), fP Γ (fset w k i (oO 0 (fs.set 2 v))) H1 → va_S (fA Γ) s.heap H1 locs1 → W p l e R s m args below meth c H1 locs1 cells slots Q (F0 m (pc + 3) ls rest)) : W p l e R s m args below meth c H locs cells slots Q (F0 m pc ls (v :: .ref a :: rest)) := fw_putF C hP hS hin qy_X0 tyX0 tyX0_ok nmX0 rfl 2 (by decide) qf_X0_16 rfl rfl rfl hn hfit he ha hl hdg kk
theorem pf_X0_20 (C : fC p s m args c cc nL RX0 Γ) (hP : fP Γ w H) (hS : va_S (fA Γ) s.heap H locs) (hin : meth.name = "<init>") {v : Value} (hn : narrow (tyX0 3) v = v) (hfit : fits (tyX0 3) v = true) {fs : List Value} (he : w.2 k i = some (oO 0 fs)) (ha : w.1 k i = a) (hl : 3 < fs.length) (hdg : decode cc pc = .ok (.putfield 20, 3)) (kk : ∀ (H1 : Heap) (locs1 : List Loc), fP Γ (fset w k i (oO 0 (fs.set 3 v))) H1 → va_S (fA Γ) s.heap H1 locs1 → W p l e R s m args below meth c H1 locs1 cells slots Q (F0 m (pc + 3) ls rest)) : W p l e R s m args below meth c H locs cells slots Q (F0 m pc ls (v :: .ref a :: rest)) := fw_putF C hP hS hin qy_X0 tyX0 tyX0_ok nmX0 rfl 3 (by decide) qf_X0_20 rfl rfl rfl hn hfit he ha hl hdg kk
theorem pf_X1_9 (C : fC p s m args c cc nL RX1 Γ) (hP : fP Γ w H) (hS : va_S (fA Γ) s.heap H locs) (hin : meth.name = "<init>") {v : Value} (hn : narrow (tyX1 0) v = v) (hfit : fits (tyX1 0) v = true) {fs : List Value} (he : w.2 k i = some (oO 1 fs)) (ha : w.1 k i = a) (hl : 0 < fs.length) (hdg : decode cc pc = .ok (.putfield 9, 3)) (kk : ∀ (H1 : Heap) (locs1 : List Loc), fP Γ (fset w k i (oO 1 (fs.set 0 v))) H1 → va_S (fA Γ) s.heap H1 locs1 → W p l e R s m args below meth c H1 locs1 cells slots Q (F0 m (pc + 3) ls rest)) : W p l e R s m args below meth c H locs cells slots Q (F0 m pc ls (v :: .ref a :: rest)) := fw_putF C hP hS hin qy_X1 tyX1 tyX1_ok nmX1 rfl 0 (by decide) qf_X1_9 rfl rfl rfl hn hfit he ha hl hdg kk
theorem pf_X1_15 (C : fC p s m args c cc nL RX1 Γ) (hP : fP Γ w H) (hS : va_S (fA Γ) s.heap H locs) (hin : meth.name = "<init>") {v : Value} (hn : narrow (tyX1 1) v = v) (hfit : fits (tyX1 1) v = true) {fs : List Value} (he : w.2 k i = some (oO 1 fs)) (ha : w.1 k i = a) (hl : 1 < fs.length) (hdg : decode cc pc = .ok (.putfield 15, 3)) (kk : ∀ (H1 : Heap) (locs1 : List Loc), fP Γ (fset w k i (oO 1 (fs.set 1 v))) H1 → va_S (fA Γ) s.heap H1 locs1 → W p l e R s m args below meth c H1 locs1 cells slots Q (F0 m (pc + 3) ls rest)) : W p l e R s m args below meth c H locs cells slots Q (F0 m pc ls (v :: .ref a :: rest)) := fw_putF C hP hS hin qy_X1 tyX1 tyX1_ok nmX1 rfl 1 (by decide) qf_X1_15 rfl rfl rfl hn hfit he ha hl hdg kk
theorem pf_X2_9 (C : fC p s m args c cc nL RX2 Γ) (hP : fP Γ w H) (hS : va_S (fA Γ) s.heap H locs) (hin : meth.name = "<init>") {v : Value} (hn : narrow (tyX2 3) v = v) (hfit : fits (tyX2 3) v = true) {fs : List Value} (he : w.2 k i = some (oO 2 fs)) (ha : w.1 k i = a) (hl : 3 < fs.length) (hdg : decode cc pc = .ok (.putfield 9, 3)) (kk : ∀ (H1 : Heap) (locs1 : List Loc), fP Γ (fset w k i (oO 2 (fs.set 3 v))) H1 → va_S (fA Γ) s.heap H1 locs1 → W p l e R s m args below meth c H1 locs1 cells slots Q (F0 m (pc + 3) ls rest)) : W p l e R s m args below meth c H locs cells slots Q (F0 m pc ls (v :: .ref a :: rest)) := fw_putF C hP hS hin qy_X2 tyX2 tyX2_ok nmX2 rfl 3 (by decide) qf_X2_9 rfl rfl rfl hn hfit he ha hl hdg kk
theorem pf_X2_15 (C : fC p s m args c cc nL RX2 Γ) (hP : fP Γ w H) (hS : va_S (fA Γ) s.heap H locs) (hin : meth.name = "<init>") {v : Value} (hn : narrow (tyX2 0) v = v) (hfit : fits (tyX2 0) v = true) {fs : List Value} (he : w.2 k i = some (oO 2 fs)) (ha : w.1 k i = a) (hl : 0 < fs.length) (hdg : decode cc pc = .ok (.putfield 15, 3)) (kk : ∀ (H1 : Heap) (locs1 : List Loc), fP Γ (fset w k i (oO 2 (fs.set 0 v))) H1 → va_S (fA Γ) s.heap H1 locs1 → W p l e R s m args below meth c H1 locs1 cells slots Q (F0 m (pc + 3) ls rest)) : W p l e R s m args below meth c H locs cells slots Q (F0 m pc ls (v :: .ref a :: rest)) := fw_putF C hP hS hin qy_X2 tyX2 tyX2_ok nmX2 rfl 0 (by decide) qf_X2_15 rfl rfl rfl hn hfit he ha hl hdg kk
theorem pf_X2_19 (C : fC p s m args c cc nL RX2 Γ) (hP : fP Γ w H) (hS : va_S (fA Γ) s.heap H locs) (hin : meth.name = "<init>") {v : Value} (hn : narrow (tyX2 1) v = v) (hfit : fits (tyX2 1) v = true) {fs : List Value} (he : w.2 k i = some (oO 2 fs)) (ha : w.1 k i = a) (hl : 1 < fs.length) (hdg : decode cc pc = .ok (.putfield 19, 3)) (kk : ∀ (H1 : Heap) (locs1 : List Loc), fP Γ (fset w k i (oO 2 (fs.set 1 v))) H1 → va_S (fA Γ) s.heap H1 locs1 → W p l e R s m args below meth c H1 locs1 cells slots Q (F0 m (pc + 3) ls rest)) : W p l e R s m args below meth c H locs cells slots Q (F0 m pc ls (v :: .ref a :: rest)) := fw_putF C hP hS hin qy_X2 tyX2 tyX2_ok nmX2 rfl 1 (by decide) qf_X2_19 rfl rfl rfl hn hfit he ha hl hdg kk
theorem pf_X2_23 (C : fC p s m args c cc nL RX2 Γ) (hP : fP Γ w H) (hS : va_S (fA Γ) s.heap H locs) (hin : meth.name = "<init>") {v : Value} (hn : narrow (tyX2 2) v = v) (hfit : fits (tyX2 2) v = true) {fs : List Value} (he : w.2 k i = some (oO 2 fs)) (ha : w.1 k i = a) (hl : 2 < fs.length) (hdg : decode cc pc = .ok (.putfield 23, 3)) (kk : ∀ (H1 : Heap) (locs1 : List Loc), fP Γ (fset w k i (oO 2 (fs.set 2 v))) H1 → va_S (fA Γ) s.heap H1 locs1 → W p l e R s m args below meth c H1 locs1 cells slots Q (F0 m (pc + 3) ls rest)) : W p l e R s m args below meth c H locs cells slots Q (F0 m pc ls (v :: .ref a :: rest)) := fw_putF C hP hS hin qy_X2 tyX2 tyX2_ok nmX2 rfl 2 (by decide) qf_X2_23 rfl rfl rfl hn hfit he ha hl hdg kk
theorem pf_X3_9 (C : fC p s m args c cc nL RX3 Γ) (hP : fP Γ w H) (hS : va_S (fA Γ) s.heap H locs) (hin : meth.name = "<init>") {v : Value} (hn : narrow (tyX3 1) v = v) (hfit : fits (tyX3 1) v = true) {fs : List Value} (he : w.2 k i = some (oO 3 fs)) (ha : w.1 k i = a) (hl : 1 < fs.length) (hdg : decode cc pc = .ok (.putfield 9, 3)) (kk : ∀ (H1 : Heap) (locs1 : List Loc), fP Γ (fset w k i (oO 3 (fs.set 1 v))) H1 → va_S (fA Γ) s.heap H1 locs1 → W p l e R s m args below meth c H1 locs1 cells slots Q (F0 m (pc + 3) ls rest)) : W p l e R s m args below meth c H locs cells slots Q (F0 m pc ls (v :: .ref a :: rest)) := fw_putF C hP hS hin qy_X3 tyX3 tyX3_ok nmX3 rfl 1 (by decide) qf_X3_9 rfl rfl rfl hn hfit he ha hl hdg kk
theorem pf_X3_15 (C : fC p s m args c cc nL RX3 Γ) (hP : fP Γ w H) (hS : va_S (fA Γ) s.heap H locs) (hin : meth.name = "<init>") {v : Value} (hn : narrow (tyX3 3) v = v) (hfit : fits (tyX3 3) v = true) {fs : List Value} (he : w.2 k i = some (oO 3 fs)) (ha : w.1 k i = a) (hl : 3 < fs.length) (hdg : decode cc pc = .ok (.putfield 15, 3)) (kk : ∀ (H1 : Heap) (locs1 : List Loc), fP Γ (fset w k i (oO 3 (fs.set 3 v))) H1 → va_S (fA Γ) s.heap H1 locs1 → W p l e R s m args below meth c H1 locs1 cells slots Q (F0 m (pc + 3) ls rest)) : W p l e R s m args below meth c H locs cells slots Q (F0 m pc ls (v :: .ref a :: rest)) := fw_putF C hP hS hin qy_X3 tyX3 tyX3_ok nmX3 rfl 3 (by decide) qf_X3_15 rfl rfl rfl hn hfit he ha hl hdg kk
theorem pf_X3_19 (C : fC p s m args c cc nL RX3 Γ) (hP : fP Γ w H) (hS : va_S (fA Γ) s.heap H locs) {v : Value} (hn : narrow (tyX3 4) v = v) (hfit : fits (tyX3 4) v = true) {fs : List Value} (he : w.2 k i = some (oO 3 fs)) (ha : w.1 k i = a) (hl : 4 < fs.length) (hdg : decode cc pc = .ok (.putfield 19, 3)) (kk : ∀ (H1 : Heap) (locs1 : List Loc), fP Γ (fset w k i (oO 3 (fs.set 4 v))) H1 → va_S (fA Γ) s.heap H1 locs1 → W p l e R s m args below meth c H1 locs1 cells slots Q (F0 m (pc + 3) ls rest)) : W p l e R s m args below meth c H locs cells slots Q (F0 m pc ls (v :: .ref a :: rest)) := fw_put C hP hS qy_X3 tyX3 tyX3_ok nmX3 rfl 4 (by decide) qf_X3_19 rfl rfl hn hfit he ha hl hdg kk
theorem pf_X3_23 (C : fC p s m args c cc nL RX3 Γ) (hP : fP Γ w H) (hS : va_S (fA Γ) s.heap H locs) (hin : meth.name = "<init>") {v : Value} (hn : narrow (tyX3 5) v = v) (hfit : fits (tyX3 5) v = true) {fs : List Value} (he : w.2 k i = some (oO 3 fs)) (ha : w.1 k i = a) (hl : 5 < fs.length) (hdg : decode cc pc = .ok (.putfield 23, 3)) (kk : ∀ (H1 : Heap) (locs1 : List Loc), fP Γ (fset w k i (oO 3 (fs.set 5 v))) H1 → va_S (fA Γ) s.heap H1 locs1 → W p l e R s m args below meth c H1 locs1 cells slots Q (F0 m (pc + 3) ls rest)) : W p l e R s m args below meth c H locs cells slots Q (F0 m pc ls (v :: .ref a :: rest)) := fw_putF C hP hS hin qy_X3 tyX3 tyX3_ok nmX3 rfl 5 (by decide) qf_X3_23 rfl rfl rfl hn hfit he ha hl hdg kk
theorem pf_X3_26 (C : fC p s m args c cc nL RX3 Γ) (hP : fP Γ w H) (hS : va_S (fA Γ) s.heap H locs) (hin : meth.name = "<init>") {v : Value} (hn : narrow (tyX3 7) v = v) (hfit : fits (tyX3 7) v = true) {fs : List Value} (he : w.2 k i = some (oO 3 fs)) (ha : w.1 k i = a) (hl : 7 < fs.length) (hdg : decode cc pc = .ok (.putfield 26, 3)) (kk : ∀ (H1 : Heap) (locs1 : List Loc), fP Γ (fset w k i (oO 3 (fs.set 7 v))) H1 → va_S (fA Γ) s.heap H1 locs1 → W p l e R s m args below meth c H1 locs1 cells slots Q (F0 m (pc + 3) ls rest)) : W p l e R s m args below meth c H locs cells slots Q (F0 m pc ls (v :: .ref a :: rest)) := fw_putF C hP hS hin qy_X3 tyX3 tyX3_ok nmX3 rfl 7 (by decide) qf_X3_26 rfl rfl rfl hn hfit he ha hl hdg kk
theorem pf_X3_29 (C : fC p s m args c cc nL RX3 Γ) (hP : fP Γ w H) (hS : va_S (fA Γ) s.heap H locs) (hin : meth.name = "<init>") {v : Value} (hn : narrow (tyX3 0) v = v) (hfit : fits (tyX3 0) v = true) {fs : List Value} (he : w.2 k i = some (oO 3 fs)) (ha : w.1 k i = a) (hl : 0 < fs.length) (hdg : decode cc pc = .ok (.putfield 29, 3)) (kk : ∀ (H1 : Heap) (locs1 : List Loc), fP Γ (fset w k i (oO 3 (fs.set 0 v))) H1 → va_S (fA Γ) s.heap H1 locs1 → W p l e R s m args below meth c H1 locs1 cells slots Q (F0 m (pc + 3) ls rest)) : W p l e R s m args below meth c H locs cells slots Q (F0 m pc ls (v :: .ref a :: rest)) := fw_putF C hP hS hin qy_X3 tyX3 tyX3_ok nmX3 rfl 0 (by decide) qf_X3_29 rfl rfl rfl hn hfit he ha hl hdg kk
theorem pf_X4_11 (C : fC p s m args c cc nL RX4 Γ) (hP : fP Γ w H) (hS : va_S (fA Γ) s.heap H locs) (hin : meth.name = "<init>") {v : Value} (hn : narrow (tyX4 1) v = v) (hfit : fits (tyX4 1) v = true) {fs : List Value} (he : w.2 k i = some (oO 4 fs)) (ha : w.1 k i = a) (hl : 1 < fs.length) (hdg : decode cc pc = .ok (.putfield 11, 3)) (kk : ∀ (H1 : Heap) (locs1 : List Loc), fP Γ (fset w k i (oO 4 (fs.set 1 v))) H1 → va_S (fA Γ) s.heap H1 locs1 → W p l e R s m args below meth c H1 locs1 cells slots Q (F0 m (pc + 3) ls rest)) : W p l e R s m args below meth c H locs cells slots Q (F0 m pc ls (v :: .ref a :: rest)) := fw_putF C hP hS hin qy_X4 tyX4 tyX4_ok nmX4 rfl 1 (by decide) qf_X4_11 rfl rfl rfl hn hfit he ha hl hdg kk
theorem pf_X4_17 (C : fC p s m args c cc nL RX4 Γ) (hP : fP Γ w H) (hS : va_S (fA Γ) s.heap H locs) (hin : meth.name = "<init>") {v : Value} (hn : narrow (tyX4 3) v = v) (hfit : fits (tyX4 3) v = true) {fs : List Value} (he : w.2 k i = some (oO 4 fs)) (ha : w.1 k i = a) (hl : 3 < fs.length) (hdg : decode cc pc = .ok (.putfield 17, 3)) (kk : ∀ (H1 : Heap) (locs1 : List Loc), fP Γ (fset w k i (oO 4 (fs.set 3 v))) H1 → va_S (fA Γ) s.heap H1 locs1 → W p l e R s m args below meth c H1 locs1 cells slots Q (F0 m (pc + 3) ls rest)) : W p l e R s m args below meth c H locs cells slots Q (F0 m pc ls (v :: .ref a :: rest)) := fw_putF C hP hS hin qy_X4 tyX4 tyX4_ok nmX4 rfl 3 (by decide) qf_X4_17 rfl rfl rfl hn hfit he ha hl hdg kk
theorem pf_X4_23 (C : fC p s m args c cc nL RX4 Γ) (hP : fP Γ w H) (hS : va_S (fA Γ) s.heap H locs) (hin : meth.name = "<init>") {v : Value} (hn : narrow (tyX4 5) v = v) (hfit : fits (tyX4 5) v = true) {fs : List Value} (he : w.2 k i = some (oO 4 fs)) (ha : w.1 k i = a) (hl : 5 < fs.length) (hdg : decode cc pc = .ok (.putfield 23, 3)) (kk : ∀ (H1 : Heap) (locs1 : List Loc), fP Γ (fset w k i (oO 4 (fs.set 5 v))) H1 → va_S (fA Γ) s.heap H1 locs1 → W p l e R s m args below meth c H1 locs1 cells slots Q (F0 m (pc + 3) ls rest)) : W p l e R s m args below meth c H locs cells slots Q (F0 m pc ls (v :: .ref a :: rest)) := fw_putF C hP hS hin qy_X4 tyX4 tyX4_ok nmX4 rfl 5 (by decide) qf_X4_23 rfl rfl rfl hn hfit he ha hl hdg kk
theorem pf_X4_27 (C : fC p s m args c cc nL RX4 Γ) (hP : fP Γ w H) (hS : va_S (fA Γ) s.heap H locs) (hin : meth.name = "<init>") {v : Value} (hn : narrow (tyX4 7) v = v) (hfit : fits (tyX4 7) v = true) {fs : List Value} (he : w.2 k i = some (oO 4 fs)) (ha : w.1 k i = a) (hl : 7 < fs.length) (hdg : decode cc pc = .ok (.putfield 27, 3)) (kk : ∀ (H1 : Heap) (locs1 : List Loc), fP Γ (fset w k i (oO 4 (fs.set 7 v))) H1 → va_S (fA Γ) s.heap H1 locs1 → W p l e R s m args below meth c H1 locs1 cells slots Q (F0 m (pc + 3) ls rest)) : W p l e R s m args below meth c H locs cells slots Q (F0 m pc ls (v :: .ref a :: rest)) := fw_putF C hP hS hin qy_X4 tyX4 tyX4_ok nmX4 rfl 7 (by decide) qf_X4_27 rfl rfl rfl hn hfit he ha hl hdg kk
theorem pf_X4_31 (C : fC p s m args c cc nL RX4 Γ) (hP : fP Γ w H) (hS : va_S (fA Γ) s.heap H locs) (hin : meth.name = "<init>") {v : Value} (hn : narrow (tyX4 9) v = v) (hfit : fits (tyX4 9) v = true) {fs : List Value} (he : w.2 k i = some (oO 4 fs)) (ha : w.1 k i = a) (hl : 9 < fs.length) (hdg : decode cc pc = .ok (.putfield 31, 3)) (kk : ∀ (H1 : Heap) (locs1 : List Loc), fP Γ (fset w k i (oO 4 (fs.set 9 v))) H1 → va_S (fA Γ) s.heap H1 locs1 → W p l e R s m args below meth c H1 locs1 cells slots Q (F0 m (pc + 3) ls rest)) : W p l e R s m args below meth c H locs cells slots Q (F0 m pc ls (v :: .ref a :: rest)) := fw_putF C hP hS hin qy_X4 tyX4 tyX4_ok nmX4 rfl 9 (by decide) qf_X4_31 rfl rfl rfl hn hfit he ha hl hdg kk
theorem pf_X4_34 (C : fC p s m args c cc nL RX4 Γ) (hP : fP Γ w H) (hS : va_S (fA Γ) s.heap H locs) (hin : meth.name = "<init>") {v : Value} (hn : narrow (tyX4 10) v = v) (hfit : fits (tyX4 10) v = true) {fs : List Value} (he : w.2 k i = some (oO 4 fs)) (ha : w.1 k i = a) (hl : 10 < fs.length) (hdg : decode cc pc = .ok (.putfield 34, 3)) (kk : ∀ (H1 : Heap) (locs1 : List Loc), fP Γ (fset w k i (oO 4 (fs.set 10 v))) H1 → va_S (fA Γ) s.heap H1 locs1 → W p l e R s m args below meth c H1 locs1 cells slots Q (F0 m (pc + 3) ls rest)) : W p l e R s m args below meth c H locs cells slots Q (F0 m pc ls (v :: .ref a :: rest)) := fw_putF C hP hS hin qy_X4 tyX4 tyX4_ok nmX4 rfl 10 (by decide) qf_X4_34 rfl rfl rfl hn hfit he ha hl hdg kk
theorem pf_X4_40 (C : fC p s m args c cc nL RX4 Γ) (hP : fP Γ w H) (hS : va_S (fA Γ) s.heap H locs) (hin : meth.name = "<init>") {v : Value} (hn : narrow (tyX4 12) v = v) (hfit : fits (tyX4 12) v = true) {fs : List Value} (he : w.2 k i = some (oO 4 fs)) (ha : w.1 k i = a) (hl : 12 < fs.length) (hdg : decode cc pc = .ok (.putfield 40, 3)) (kk : ∀ (H1 : Heap) (locs1 : List Loc), fP Γ (fset w k i (oO 4 (fs.set 12 v))) H1 → va_S (fA Γ) s.heap H1 locs1 → W p l e R s m args below meth c H1 locs1 cells slots Q (F0 m (pc + 3) ls rest)) : W p l e R s m args below meth c H locs cells slots Q (F0 m pc ls (v :: .ref a :: rest)) := fw_putF C hP hS hin qy_X4 tyX4 tyX4_ok nmX4 rfl 12 (by decide) qf_X4_40 rfl rfl rfl hn hfit he ha hl hdg kk
theorem pf_X4_44 (C : fC p s m args c cc nL RX4 Γ) (hP : fP Γ w H) (hS : va_S (fA Γ) s.heap H locs) {v : Value} (hn : narrow (tyX4 0) v = v) (hfit : fits (tyX4 0) v = true) {fs : List Value} (he : w.2 k i = some (oO 4 fs)) (ha : w.1 k i = a) (hl : 0 < fs.length) (hdg : decode cc pc = .ok (.putfield 44, 3)) (kk : ∀ (H1 : Heap) (locs1 : List Loc), fP Γ (fset w k i (oO 4 (fs.set 0 v))) H1 → va_S (fA Γ) s.heap H1 locs1 → W p l e R s m args below meth c H1 locs1 cells slots Q (F0 m (pc + 3) ls rest)) : W p l e R s m args below meth c H locs cells slots Q (F0 m pc ls (v :: .ref a :: rest)) := fw_put C hP hS qy_X4 tyX4 tyX4_ok nmX4 rfl 0 (by decide) qf_X4_44 rfl rfl hn hfit he ha hl hdg kk
theorem pf_X4_57 (C : fC p s m args c cc nL RX4 Γ) (hP : fP Γ w H) (hS : va_S (fA Γ) s.heap H locs) {v : Value} (hn : narrow (tyX4 2) v = v) (hfit : fits (tyX4 2) v = true) {fs : List Value} (he : w.2 k i = some (oO 4 fs)) (ha : w.1 k i = a) (hl : 2 < fs.length) (hdg : decode cc pc = .ok (.putfield 57, 3)) (kk : ∀ (H1 : Heap) (locs1 : List Loc), fP Γ (fset w k i (oO 4 (fs.set 2 v))) H1 → va_S (fA Γ) s.heap H1 locs1 → W p l e R s m args below meth c H1 locs1 cells slots Q (F0 m (pc + 3) ls rest)) : W p l e R s m args below meth c H locs cells slots Q (F0 m pc ls (v :: .ref a :: rest)) := fw_put C hP hS qy_X4 tyX4 tyX4_ok nmX4 rfl 2 (by decide) qf_X4_57 rfl rfl hn hfit he ha hl hdg kk
theorem pf_X4_63 (C : fC p s m args c cc nL RX4 Γ) (hP : fP Γ w H) (hS : va_S (fA Γ) s.heap H locs) {v : Value} (hn : narrow (tyX4 4) v = v) (hfit : fits (tyX4 4) v = true) {fs : List Value} (he : w.2 k i = some (oO 4 fs)) (ha : w.1 k i = a) (hl : 4 < fs.length) (hdg : decode cc pc = .ok (.putfield 63, 3)) (kk : ∀ (H1 : Heap) (locs1 : List Loc), fP Γ (fset w k i (oO 4 (fs.set 4 v))) H1 → va_S (fA Γ) s.heap H1 locs1 → W p l e R s m args below meth c H1 locs1 cells slots Q (F0 m (pc + 3) ls rest)) : W p l e R s m args below meth c H locs cells slots Q (F0 m pc ls (v :: .ref a :: rest)) := fw_put C hP hS qy_X4 tyX4 tyX4_ok nmX4 rfl 4 (by decide) qf_X4_63 rfl rfl hn hfit he ha hl hdg kk
theorem pf_X4_76 (C : fC p s m args c cc nL RX4 Γ) (hP : fP Γ w H) (hS : va_S (fA Γ) s.heap H locs) {v : Value} (hn : narrow (tyX3 2) v = v) (hfit : fits (tyX3 2) v = true) {fs : List Value} (he : w.2 k i = some (oO 3 fs)) (ha : w.1 k i = a) (hl : 2 < fs.length) (hdg : decode cc pc = .ok (.putfield 76, 3)) (kk : ∀ (H1 : Heap) (locs1 : List Loc), fP Γ (fset w k i (oO 3 (fs.set 2 v))) H1 → va_S (fA Γ) s.heap H1 locs1 → W p l e R s m args below meth c H1 locs1 cells slots Q (F0 m (pc + 3) ls rest)) : W p l e R s m args below meth c H locs cells slots Q (F0 m pc ls (v :: .ref a :: rest)) := fw_putN (T := TX3) C hP hS qy_X3 tyX3 tyX3_ok nmX3 rfl 2 (by decide) (C.2.1.2.1 (76, RX3, "byteCount", "I") (by simp [fNest])) rfl rfl hn hfit he ha hl hdg kk
theorem pf_X4_83 (C : fC p s m args c cc nL RX4 Γ) (hP : fP Γ w H) (hS : va_S (fA Γ) s.heap H locs) {v : Value} (hn : narrow (tyX3 4) v = v) (hfit : fits (tyX3 4) v = true) {fs : List Value} (he : w.2 k i = some (oO 3 fs)) (ha : w.1 k i = a) (hl : 4 < fs.length) (hdg : decode cc pc = .ok (.putfield 83, 3)) (kk : ∀ (H1 : Heap) (locs1 : List Loc), fP Γ (fset w k i (oO 3 (fs.set 4 v))) H1 → va_S (fA Γ) s.heap H1 locs1 → W p l e R s m args below meth c H1 locs1 cells slots Q (F0 m (pc + 3) ls rest)) : W p l e R s m args below meth c H locs cells slots Q (F0 m pc ls (v :: .ref a :: rest)) := fw_putN (T := TX3) C hP hS qy_X3 tyX3 tyX3_ok nmX3 rfl 4 (by decide) (C.2.1.2.1 (83, RX3, "digestStale", "Z") (by simp [fNest])) rfl rfl hn hfit he ha hl hdg kk
theorem pf_X4_113 (C : fC p s m args c cc nL RX4 Γ) (hP : fP Γ w H) (hS : va_S (fA Γ) s.heap H locs) {v : Value} (hn : narrow (tyX4 6) v = v) (hfit : fits (tyX4 6) v = true) {fs : List Value} (he : w.2 k i = some (oO 4 fs)) (ha : w.1 k i = a) (hl : 6 < fs.length) (hdg : decode cc pc = .ok (.putfield 113, 3)) (kk : ∀ (H1 : Heap) (locs1 : List Loc), fP Γ (fset w k i (oO 4 (fs.set 6 v))) H1 → va_S (fA Γ) s.heap H1 locs1 → W p l e R s m args below meth c H1 locs1 cells slots Q (F0 m (pc + 3) ls rest)) : W p l e R s m args below meth c H locs cells slots Q (F0 m pc ls (v :: .ref a :: rest)) := fw_put C hP hS qy_X4 tyX4 tyX4_ok nmX4 rfl 6 (by decide) qf_X4_113 rfl rfl hn hfit he ha hl hdg kk
theorem pf_X4_130 (C : fC p s m args c cc nL RX4 Γ) (hP : fP Γ w H) (hS : va_S (fA Γ) s.heap H locs) {v : Value} (hn : narrow (tyX4 11) v = v) (hfit : fits (tyX4 11) v = true) {fs : List Value} (he : w.2 k i = some (oO 4 fs)) (ha : w.1 k i = a) (hl : 11 < fs.length) (hdg : decode cc pc = .ok (.putfield 130, 3)) (kk : ∀ (H1 : Heap) (locs1 : List Loc), fP Γ (fset w k i (oO 4 (fs.set 11 v))) H1 → va_S (fA Γ) s.heap H1 locs1 → W p l e R s m args below meth c H1 locs1 cells slots Q (F0 m (pc + 3) ls rest)) : W p l e R s m args below meth c H locs cells slots Q (F0 m pc ls (v :: .ref a :: rest)) := fw_put C hP hS qy_X4 tyX4 tyX4_ok nmX4 rfl 11 (by decide) qf_X4_130 rfl rfl hn hfit he ha hl hdg kk
theorem pf_X4_142 (C : fC p s m args c cc nL RX4 Γ) (hP : fP Γ w H) (hS : va_S (fA Γ) s.heap H locs) {v : Value} (hn : narrow (tyX2 4) v = v) (hfit : fits (tyX2 4) v = true) {fs : List Value} (he : w.2 k i = some (oO 2 fs)) (ha : w.1 k i = a) (hl : 4 < fs.length) (hdg : decode cc pc = .ok (.putfield 142, 3)) (kk : ∀ (H1 : Heap) (locs1 : List Loc), fP Γ (fset w k i (oO 2 (fs.set 4 v))) H1 → va_S (fA Γ) s.heap H1 locs1 → W p l e R s m args below meth c H1 locs1 cells slots Q (F0 m (pc + 3) ls rest)) : W p l e R s m args below meth c H locs cells slots Q (F0 m pc ls (v :: .ref a :: rest)) := fw_putN (T := TX2) C hP hS qy_X2 tyX2 tyX2_ok nmX2 rfl 4 (by decide) (C.2.1.2.1 (142, RX2, "isWithdrawn", "Z") (by simp [fNest])) rfl rfl hn hfit he ha hl hdg kk
theorem pf_X4_145 (C : fC p s m args c cc nL RX4 Γ) (hP : fP Γ w H) (hS : va_S (fA Γ) s.heap H locs) {v : Value} (hn : narrow (tyX4 8) v = v) (hfit : fits (tyX4 8) v = true) {fs : List Value} (he : w.2 k i = some (oO 4 fs)) (ha : w.1 k i = a) (hl : 8 < fs.length) (hdg : decode cc pc = .ok (.putfield 145, 3)) (kk : ∀ (H1 : Heap) (locs1 : List Loc), fP Γ (fset w k i (oO 4 (fs.set 8 v))) H1 → va_S (fA Γ) s.heap H1 locs1 → W p l e R s m args below meth c H1 locs1 cells slots Q (F0 m (pc + 3) ls rest)) : W p l e R s m args below meth c H locs cells slots Q (F0 m pc ls (v :: .ref a :: rest)) := fw_put C hP hS qy_X4 tyX4 tyX4_ok nmX4 rfl 8 (by decide) qf_X4_145 rfl rfl hn hfit he ha hl hdg kk
theorem pf_X4_152 (C : fC p s m args c cc nL RX4 Γ) (hP : fP Γ w H) (hS : va_S (fA Γ) s.heap H locs) {v : Value} (hn : narrow (tyX3 8) v = v) (hfit : fits (tyX3 8) v = true) {fs : List Value} (he : w.2 k i = some (oO 3 fs)) (ha : w.1 k i = a) (hl : 8 < fs.length) (hdg : decode cc pc = .ok (.putfield 152, 3)) (kk : ∀ (H1 : Heap) (locs1 : List Loc), fP Γ (fset w k i (oO 3 (fs.set 8 v))) H1 → va_S (fA Γ) s.heap H1 locs1 → W p l e R s m args below meth c H1 locs1 cells slots Q (F0 m (pc + 3) ls rest)) : W p l e R s m args below meth c H locs cells slots Q (F0 m pc ls (v :: .ref a :: rest)) := fw_putN (T := TX3) C hP hS qy_X3 tyX3 tyX3_ok nmX3 rfl 8 (by decide) (C.2.1.2.1 (152, RX3, "neededCount", "I") (by simp [fNest])) rfl rfl hn hfit he ha hl hdg kk
theorem pf_X4_158 (C : fC p s m args c cc nL RX4 Γ) (hP : fP Γ w H) (hS : va_S (fA Γ) s.heap H locs) {v : Value} (hn : narrow (tyX3 6) v = v) (hfit : fits (tyX3 6) v = true) {fs : List Value} (he : w.2 k i = some (oO 3 fs)) (ha : w.1 k i = a) (hl : 6 < fs.length) (hdg : decode cc pc = .ok (.putfield 158, 3)) (kk : ∀ (H1 : Heap) (locs1 : List Loc), fP Γ (fset w k i (oO 3 (fs.set 6 v))) H1 → va_S (fA Γ) s.heap H1 locs1 → W p l e R s m args below meth c H1 locs1 cells slots Q (F0 m (pc + 3) ls rest)) : W p l e R s m args below meth c H locs cells slots Q (F0 m pc ls (v :: .ref a :: rest)) := fw_putN (T := TX3) C hP hS qy_X3 tyX3 tyX3_ok nmX3 rfl 6 (by decide) (C.2.1.2.1 (158, RX3, "commentCount", "I") (by simp [fNest])) rfl rfl hn hfit he ha hl hdg kk
theorem pf_X5_9 (C : fC p s m args c cc nL RX5 Γ) (hP : fP Γ w H) (hS : va_S (fA Γ) s.heap H locs) (hin : meth.name = "<init>") {v : Value} (hn : narrow (tyX5 2) v = v) (hfit : fits (tyX5 2) v = true) {fs : List Value} (he : w.2 k i = some (oO 5 fs)) (ha : w.1 k i = a) (hl : 2 < fs.length) (hdg : decode cc pc = .ok (.putfield 9, 3)) (kk : ∀ (H1 : Heap) (locs1 : List Loc), fP Γ (fset w k i (oO 5 (fs.set 2 v))) H1 → va_S (fA Γ) s.heap H1 locs1 → W p l e R s m args below meth c H1 locs1 cells slots Q (F0 m (pc + 3) ls rest)) : W p l e R s m args below meth c H locs cells slots Q (F0 m pc ls (v :: .ref a :: rest)) := fw_putF C hP hS hin qy_X5 tyX5 tyX5_ok nmX5 rfl 2 (by decide) qf_X5_9 rfl rfl rfl hn hfit he ha hl hdg kk
theorem pf_X5_13 (C : fC p s m args c cc nL RX5 Γ) (hP : fP Γ w H) (hS : va_S (fA Γ) s.heap H locs) (hin : meth.name = "<init>") {v : Value} (hn : narrow (tyX5 3) v = v) (hfit : fits (tyX5 3) v = true) {fs : List Value} (he : w.2 k i = some (oO 5 fs)) (ha : w.1 k i = a) (hl : 3 < fs.length) (hdg : decode cc pc = .ok (.putfield 13, 3)) (kk : ∀ (H1 : Heap) (locs1 : List Loc), fP Γ (fset w k i (oO 5 (fs.set 3 v))) H1 → va_S (fA Γ) s.heap H1 locs1 → W p l e R s m args below meth c H1 locs1 cells slots Q (F0 m (pc + 3) ls rest)) : W p l e R s m args below meth c H locs cells slots Q (F0 m pc ls (v :: .ref a :: rest)) := fw_putF C hP hS hin qy_X5 tyX5 tyX5_ok nmX5 rfl 3 (by decide) qf_X5_13 rfl rfl rfl hn hfit he ha hl hdg kk
theorem pf_X5_16 (C : fC p s m args c cc nL RX5 Γ) (hP : fP Γ w H) (hS : va_S (fA Γ) s.heap H locs) (hin : meth.name = "<init>") {v : Value} (hn : narrow (tyX5 4) v = v) (hfit : fits (tyX5 4) v = true) {fs : List Value} (he : w.2 k i = some (oO 5 fs)) (ha : w.1 k i = a) (hl : 4 < fs.length) (hdg : decode cc pc = .ok (.putfield 16, 3)) (kk : ∀ (H1 : Heap) (locs1 : List Loc), fP Γ (fset w k i (oO 5 (fs.set 4 v))) H1 → va_S (fA Γ) s.heap H1 locs1 → W p l e R s m args below meth c H1 locs1 cells slots Q (F0 m (pc + 3) ls rest)) : W p l e R s m args below meth c H locs cells slots Q (F0 m pc ls (v :: .ref a :: rest)) := fw_putF C hP hS hin qy_X5 tyX5 tyX5_ok nmX5 rfl 4 (by decide) qf_X5_16 rfl rfl rfl hn hfit he ha hl hdg kk
theorem pf_X5_20 (C : fC p s m args c cc nL RX5 Γ) (hP : fP Γ w H) (hS : va_S (fA Γ) s.heap H locs) (hin : meth.name = "<init>") {v : Value} (hn : narrow (tyX5 5) v = v) (hfit : fits (tyX5 5) v = true) {fs : List Value} (he : w.2 k i = some (oO 5 fs)) (ha : w.1 k i = a) (hl : 5 < fs.length) (hdg : decode cc pc = .ok (.putfield 20, 3)) (kk : ∀ (H1 : Heap) (locs1 : List Loc), fP Γ (fset w k i (oO 5 (fs.set 5 v))) H1 → va_S (fA Γ) s.heap H1 locs1 → W p l e R s m args below meth c H1 locs1 cells slots Q (F0 m (pc + 3) ls rest)) : W p l e R s m args below meth c H locs cells slots Q (F0 m pc ls (v :: .ref a :: rest)) := fw_putF C hP hS hin qy_X5 tyX5 tyX5_ok nmX5 rfl 5 (by decide) qf_X5_20 rfl rfl rfl hn hfit he ha hl hdg kk
theorem pf_X5_23 (C : fC p s m args c cc nL RX5 Γ) (hP : fP Γ w H) (hS : va_S (fA Γ) s.heap H locs) (hin : meth.name = "<init>") {v : Value} (hn : narrow (tyX5 7) v = v) (hfit : fits (tyX5 7) v = true) {fs : List Value} (he : w.2 k i = some (oO 5 fs)) (ha : w.1 k i = a) (hl : 7 < fs.length) (hdg : decode cc pc = .ok (.putfield 23, 3)) (kk : ∀ (H1 : Heap) (locs1 : List Loc), fP Γ (fset w k i (oO 5 (fs.set 7 v))) H1 → va_S (fA Γ) s.heap H1 locs1 → W p l e R s m args below meth c H1 locs1 cells slots Q (F0 m (pc + 3) ls rest)) : W p l e R s m args below meth c H locs cells slots Q (F0 m pc ls (v :: .ref a :: rest)) := fw_putF C hP hS hin qy_X5 tyX5 tyX5_ok nmX5 rfl 7 (by decide) qf_X5_23 rfl rfl rfl hn hfit he ha hl hdg kk
theorem pf_X5_26 (C : fC p s m args c cc nL RX5 Γ) (hP : fP Γ w H) (hS : va_S (fA Γ) s.heap H locs) (hin : meth.name = "<init>") {v : Value} (hn : narrow (tyX5 8) v = v) (hfit : fits (tyX5 8) v = true) {fs : List Value} (he : w.2 k i = some (oO 5 fs)) (ha : w.1 k i = a) (hl : 8 < fs.length) (hdg : decode cc pc = .ok (.putfield 26, 3)) (kk : ∀ (H1 : Heap) (locs1 : List Loc), fP Γ (fset w k i (oO 5 (fs.set 8 v))) H1 → va_S (fA Γ) s.heap H1 locs1 → W p l e R s m args below meth c H1 locs1 cells slots Q (F0 m (pc + 3) ls rest)) : W p l e R s m args below meth c H locs cells slots Q (F0 m pc ls (v :: .ref a :: rest)) := fw_putF C hP hS hin qy_X5 tyX5 tyX5_ok nmX5 rfl 8 (by decide) qf_X5_26 rfl rfl rfl hn hfit he ha hl hdg kk
theorem pf_X5_29 (C : fC p s m args c cc nL RX5 Γ) (hP : fP Γ w H) (hS : va_S (fA Γ) s.heap H locs) (hin : meth.name = "<init>") {v : Value} (hn : narrow (tyX5 9) v = v) (hfit : fits (tyX5 9) v = true) {fs : List Value} (he : w.2 k i = some (oO 5 fs)) (ha : w.1 k i = a) (hl : 9 < fs.length) (hdg : decode cc pc = .ok (.putfield 29, 3)) (kk : ∀ (H1 : Heap) (locs1 : List Loc), fP Γ (fset w k i (oO 5 (fs.set 9 v))) H1 → va_S (fA Γ) s.heap H1 locs1 → W p l e R s m args below meth c H1 locs1 cells slots Q (F0 m (pc + 3) ls rest)) : W p l e R s m args below meth c H locs cells slots Q (F0 m pc ls (v :: .ref a :: rest)) := fw_putF C hP hS hin qy_X5 tyX5 tyX5_ok nmX5 rfl 9 (by decide) qf_X5_29 rfl rfl rfl hn hfit he ha hl hdg kk
theorem pf_X5_32 (C : fC p s m args c cc nL RX5 Γ) (hP : fP Γ w H) (hS : va_S (fA Γ) s.heap H locs) (hin : meth.name = "<init>") {v : Value} (hn : narrow (tyX5 10) v = v) (hfit : fits (tyX5 10) v = true) {fs : List Value} (he : w.2 k i = some (oO 5 fs)) (ha : w.1 k i = a) (hl : 10 < fs.length) (hdg : decode cc pc = .ok (.putfield 32, 3)) (kk : ∀ (H1 : Heap) (locs1 : List Loc), fP Γ (fset w k i (oO 5 (fs.set 10 v))) H1 → va_S (fA Γ) s.heap H1 locs1 → W p l e R s m args below meth c H1 locs1 cells slots Q (F0 m (pc + 3) ls rest)) : W p l e R s m args below meth c H locs cells slots Q (F0 m pc ls (v :: .ref a :: rest)) := fw_putF C hP hS hin qy_X5 tyX5 tyX5_ok nmX5 rfl 10 (by decide) qf_X5_32 rfl rfl rfl hn hfit he ha hl hdg kk
theorem pf_X5_35 (C : fC p s m args c cc nL RX5 Γ) (hP : fP Γ w H) (hS : va_S (fA Γ) s.heap H locs) (hin : meth.name = "<init>") {v : Value} (hn : narrow (tyX5 11) v = v) (hfit : fits (tyX5 11) v = true) {fs : List Value} (he : w.2 k i = some (oO 5 fs)) (ha : w.1 k i = a) (hl : 11 < fs.length) (hdg : decode cc pc = .ok (.putfield 35, 3)) (kk : ∀ (H1 : Heap) (locs1 : List Loc), fP Γ (fset w k i (oO 5 (fs.set 11 v))) H1 → va_S (fA Γ) s.heap H1 locs1 → W p l e R s m args below meth c H1 locs1 cells slots Q (F0 m (pc + 3) ls rest)) : W p l e R s m args below meth c H locs cells slots Q (F0 m pc ls (v :: .ref a :: rest)) := fw_putF C hP hS hin qy_X5 tyX5 tyX5_ok nmX5 rfl 11 (by decide) qf_X5_35 rfl rfl rfl hn hfit he ha hl hdg kk
theorem pf_X5_38 (C : fC p s m args c cc nL RX5 Γ) (hP : fP Γ w H) (hS : va_S (fA Γ) s.heap H locs) (hin : meth.name = "<init>") {v : Value} (hn : narrow (tyX5 12) v = v) (hfit : fits (tyX5 12) v = true) {fs : List Value} (he : w.2 k i = some (oO 5 fs)) (ha : w.1 k i = a) (hl : 12 < fs.length) (hdg : decode cc pc = .ok (.putfield 38, 3)) (kk : ∀ (H1 : Heap) (locs1 : List Loc), fP Γ (fset w k i (oO 5 (fs.set 12 v))) H1 → va_S (fA Γ) s.heap H1 locs1 → W p l e R s m args below meth c H1 locs1 cells slots Q (F0 m (pc + 3) ls rest)) : W p l e R s m args below meth c H locs cells slots Q (F0 m pc ls (v :: .ref a :: rest)) := fw_putF C hP hS hin qy_X5 tyX5 tyX5_ok nmX5 rfl 12 (by decide) qf_X5_38 rfl rfl rfl hn hfit he ha hl hdg kk
theorem pf_X5_41 (C : fC p s m args c cc nL RX5 Γ) (hP : fP Γ w H) (hS : va_S (fA Γ) s.heap H locs) (hin : meth.name = "<init>") {v : Value} (hn : narrow (tyX5 13) v = v) (hfit : fits (tyX5 13) v = true) {fs : List Value} (he : w.2 k i = some (oO 5 fs)) (ha : w.1 k i = a) (hl : 13 < fs.length) (hdg : decode cc pc = .ok (.putfield 41, 3)) (kk : ∀ (H1 : Heap) (locs1 : List Loc), fP Γ (fset w k i (oO 5 (fs.set 13 v))) H1 → va_S (fA Γ) s.heap H1 locs1 → W p l e R s m args below meth c H1 locs1 cells slots Q (F0 m (pc + 3) ls rest)) : W p l e R s m args below meth c H locs cells slots Q (F0 m pc ls (v :: .ref a :: rest)) := fw_putF C hP hS hin qy_X5 tyX5 tyX5_ok nmX5 rfl 13 (by decide) qf_X5_41 rfl rfl rfl hn hfit he ha hl hdg kk
theorem pf_X5_44 (C : fC p s m args c cc nL RX5 Γ) (hP : fP Γ w H) (hS : va_S (fA Γ) s.heap H locs) (hin : meth.name = "<init>") {v : Value} (hn : narrow (tyX5 14) v = v) (hfit : fits (tyX5 14) v = true) {fs : List Value} (he : w.2 k i = some (oO 5 fs)) (ha : w.1 k i = a) (hl : 14 < fs.length) (hdg : decode cc pc = .ok (.putfield 44, 3)) (kk : ∀ (H1 : Heap) (locs1 : List Loc), fP Γ (fset w k i (oO 5 (fs.set 14 v))) H1 → va_S (fA Γ) s.heap H1 locs1 → W p l e R s m args below meth c H1 locs1 cells slots Q (F0 m (pc + 3) ls rest)) : W p l e R s m args below meth c H locs cells slots Q (F0 m pc ls (v :: .ref a :: rest)) := fw_putF C hP hS hin qy_X5 tyX5 tyX5_ok nmX5 rfl 14 (by decide) qf_X5_44 rfl rfl rfl hn hfit he ha hl hdg kk
theorem pf_X5_47 (C : fC p s m args c cc nL RX5 Γ) (hP : fP Γ w H) (hS : va_S (fA Γ) s.heap H locs) (hin : meth.name = "<init>") {v : Value} (hn : narrow (tyX5 16) v = v) (hfit : fits (tyX5 16) v = true) {fs : List Value} (he : w.2 k i = some (oO 5 fs)) (ha : w.1 k i = a) (hl : 16 < fs.length) (hdg : decode cc pc = .ok (.putfield 47, 3)) (kk : ∀ (H1 : Heap) (locs1 : List Loc), fP Γ (fset w k i (oO 5 (fs.set 16 v))) H1 → va_S (fA Γ) s.heap H1 locs1 → W p l e R s m args below meth c H1 locs1 cells slots Q (F0 m (pc + 3) ls rest)) : W p l e R s m args below meth c H locs cells slots Q (F0 m pc ls (v :: .ref a :: rest)) := fw_putF C hP hS hin qy_X5 tyX5 tyX5_ok nmX5 rfl 16 (by decide) qf_X5_47 rfl rfl rfl hn hfit he ha hl hdg kk
theorem pf_X5_50 (C : fC p s m args c cc nL RX5 Γ) (hP : fP Γ w H) (hS : va_S (fA Γ) s.heap H locs) (hin : meth.name = "<init>") {v : Value} (hn : narrow (tyX5 17) v = v) (hfit : fits (tyX5 17) v = true) {fs : List Value} (he : w.2 k i = some (oO 5 fs)) (ha : w.1 k i = a) (hl : 17 < fs.length) (hdg : decode cc pc = .ok (.putfield 50, 3)) (kk : ∀ (H1 : Heap) (locs1 : List Loc), fP Γ (fset w k i (oO 5 (fs.set 17 v))) H1 → va_S (fA Γ) s.heap H1 locs1 → W p l e R s m args below meth c H1 locs1 cells slots Q (F0 m (pc + 3) ls rest)) : W p l e R s m args below meth c H locs cells slots Q (F0 m pc ls (v :: .ref a :: rest)) := fw_putF C hP hS hin qy_X5 tyX5 tyX5_ok nmX5 rfl 17 (by decide) qf_X5_50 rfl rfl rfl hn hfit he ha hl hdg kk
theorem pf_X5_53 (C : fC p s m args c cc nL RX5 Γ) (hP : fP Γ w H) (hS : va_S (fA Γ) s.heap H locs) (hin : meth.name = "<init>") {v : Value} (hn : narrow (tyX5 18) v = v) (hfit : fits (tyX5 18) v = true) {fs : List Value} (he : w.2 k i = some (oO 5 fs)) (ha : w.1 k i = a) (hl : 18 < fs.length) (hdg : decode cc pc = .ok (.putfield 53, 3)) (kk : ∀ (H1 : Heap) (locs1 : List Loc), fP Γ (fset w k i (oO 5 (fs.set 18 v))) H1 → va_S (fA Γ) s.heap H1 locs1 → W p l e R s m args below meth c H1 locs1 cells slots Q (F0 m (pc + 3) ls rest)) : W p l e R s m args below meth c H locs cells slots Q (F0 m pc ls (v :: .ref a :: rest)) := fw_putF C hP hS hin qy_X5 tyX5 tyX5_ok nmX5 rfl 18 (by decide) qf_X5_53 rfl rfl rfl hn hfit he ha hl hdg kk
theorem pf_X5_56 (C : fC p s m args c cc nL RX5 Γ) (hP : fP Γ w H) (hS : va_S (fA Γ) s.heap H locs) (hin : meth.name = "<init>") {v : Value} (hn : narrow (tyX5 19) v = v) (hfit : fits (tyX5 19) v = true) {fs : List Value} (he : w.2 k i = some (oO 5 fs)) (ha : w.1 k i = a) (hl : 19 < fs.length) (hdg : decode cc pc = .ok (.putfield 56, 3)) (kk : ∀ (H1 : Heap) (locs1 : List Loc), fP Γ (fset w k i (oO 5 (fs.set 19 v))) H1 → va_S (fA Γ) s.heap H1 locs1 → W p l e R s m args below meth c H1 locs1 cells slots Q (F0 m (pc + 3) ls rest)) : W p l e R s m args below meth c H locs cells slots Q (F0 m pc ls (v :: .ref a :: rest)) := fw_putF C hP hS hin qy_X5 tyX5 tyX5_ok nmX5 rfl 19 (by decide) qf_X5_56 rfl rfl rfl hn hfit he ha hl hdg kk
theorem pf_X5_59 (C : fC p s m args c cc nL RX5 Γ) (hP : fP Γ w H) (hS : va_S (fA Γ) s.heap H locs) (hin : meth.name = "<init>") {v : Value} (hn : narrow (tyX5 20) v = v) (hfit : fits (tyX5 20) v = true) {fs : List Value} (he : w.2 k i = some (oO 5 fs)) (ha : w.1 k i = a) (hl : 20 < fs.length) (hdg : decode cc pc = .ok (.putfield 59, 3)) (kk : ∀ (H1 : Heap) (locs1 : List Loc), fP Γ (fset w k i (oO 5 (fs.set 20 v))) H1 → va_S (fA Γ) s.heap H1 locs1 → W p l e R s m args below meth c H1 locs1 cells slots Q (F0 m (pc + 3) ls rest)) : W p l e R s m args below meth c H locs cells slots Q (F0 m pc ls (v :: .ref a :: rest)) := fw_putF C hP hS hin qy_X5 tyX5 tyX5_ok nmX5 rfl 20 (by decide) qf_X5_59 rfl rfl rfl hn hfit he ha hl hdg kk
theorem pf_X5_63 (C : fC p s m args c cc nL RX5 Γ) (hP : fP Γ w H) (hS : va_S (fA Γ) s.heap H locs) (hin : meth.name = "<init>") {v : Value} (hn : narrow (tyX5 22) v = v) (hfit : fits (tyX5 22) v = true) {fs : List Value} (he : w.2 k i = some (oO 5 fs)) (ha : w.1 k i = a) (hl : 22 < fs.length) (hdg : decode cc pc = .ok (.putfield 63, 3)) (kk : ∀ (H1 : Heap) (locs1 : List Loc), fP Γ (fset w k i (oO 5 (fs.set 22 v))) H1 → va_S (fA Γ) s.heap H1 locs1 → W p l e R s m args below meth c H1 locs1 cells slots Q (F0 m (pc + 3) ls rest)) : W p l e R s m args below meth c H locs cells slots Q (F0 m pc ls (v :: .ref a :: rest)) := fw_putF C hP hS hin qy_X5 tyX5 tyX5_ok nmX5 rfl 22 (by decide) qf_X5_63 rfl rfl rfl hn hfit he ha hl hdg kk
theorem pf_X5_66 (C : fC p s m args c cc nL RX5 Γ) (hP : fP Γ w H) (hS : va_S (fA Γ) s.heap H locs) (hin : meth.name = "<init>") {v : Value} (hn : narrow (tyX5 23) v = v) (hfit : fits (tyX5 23) v = true) {fs : List Value} (he : w.2 k i = some (oO 5 fs)) (ha : w.1 k i = a) (hl : 23 < fs.length) (hdg : decode cc pc = .ok (.putfield 66, 3)) (kk : ∀ (H1 : Heap) (locs1 : List Loc), fP Γ (fset w k i (oO 5 (fs.set 23 v))) H1 → va_S (fA Γ) s.heap H1 locs1 → W p l e R s m args below meth c H1 locs1 cells slots Q (F0 m (pc + 3) ls rest)) : W p l e R s m args below meth c H locs cells slots Q (F0 m pc ls (v :: .ref a :: rest)) := fw_putF C hP hS hin qy_X5 tyX5 tyX5_ok nmX5 rfl 23 (by decide) qf_X5_66 rfl rfl rfl hn hfit he ha hl hdg kk
theorem pf_X5_69 (C : fC p s m args c cc nL RX5 Γ) (hP : fP Γ w H) (hS : va_S (fA Γ) s.heap H locs) (hin : meth.name = "<init>") {v : Value} (hn : narrow (tyX5 27) v = v) (hfit : fits (tyX5 27) v = true) {fs : List Value} (he : w.2 k i = some (oO 5 fs)) (ha : w.1 k i = a) (hl : 27 < fs.length) (hdg : decode cc pc = .ok (.putfield 69, 3)) (kk : ∀ (H1 : Heap) (locs1 : List Loc), fP Γ (fset w k i (oO 5 (fs.set 27 v))) H1 → va_S (fA Γ) s.heap H1 locs1 → W p l e R s m args below meth c H1 locs1 cells slots Q (F0 m (pc + 3) ls rest)) : W p l e R s m args below meth c H locs cells slots Q (F0 m pc ls (v :: .ref a :: rest)) := fw_putF C hP hS hin qy_X5 tyX5 tyX5_ok nmX5 rfl 27 (by decide) qf_X5_69 rfl rfl rfl hn hfit he ha hl hdg kk
theorem pf_X5_72 (C : fC p s m args c cc nL RX5 Γ) (hP : fP Γ w H) (hS : va_S (fA Γ) s.heap H locs) (hin : meth.name = "<init>") {v : Value} (hn : narrow (tyX5 28) v = v) (hfit : fits (tyX5 28) v = true) {fs : List Value} (he : w.2 k i = some (oO 5 fs)) (ha : w.1 k i = a) (hl : 28 < fs.length) (hdg : decode cc pc = .ok (.putfield 72, 3)) (kk : ∀ (H1 : Heap) (locs1 : List Loc), fP Γ (fset w k i (oO 5 (fs.set 28 v))) H1 → va_S (fA Γ) s.heap H1 locs1 → W p l e R s m args below meth c H1 locs1 cells slots Q (F0 m (pc + 3) ls rest)) : W p l e R s m args below meth c H locs cells slots Q (F0 m pc ls (v :: .ref a :: rest)) := fw_putF C hP hS hin qy_X5 tyX5 tyX5_ok nmX5 rfl 28 (by decide) qf_X5_72 rfl rfl rfl hn hfit he ha hl hdg kk
theorem pf_X5_75 (C : fC p s m args c cc nL RX5 Γ) (hP : fP Γ w H) (hS : va_S (fA Γ) s.heap H locs) (hin : meth.name = "<init>") {v : Value} (hn : narrow (tyX5 29) v = v) (hfit : fits (tyX5 29) v = true) {fs : List Value} (he : w.2 k i = some (oO 5 fs)) (ha : w.1 k i = a) (hl : 29 < fs.length) (hdg : decode cc pc = .ok (.putfield 75, 3)) (kk : ∀ (H1 : Heap) (locs1 : List Loc), fP Γ (fset w k i (oO 5 (fs.set 29 v))) H1 → va_S (fA Γ) s.heap H1 locs1 → W p l e R s m args below meth c H1 locs1 cells slots Q (F0 m (pc + 3) ls rest)) : W p l e R s m args below meth c H locs cells slots Q (F0 m pc ls (v :: .ref a :: rest)) := fw_putF C hP hS hin qy_X5 tyX5 tyX5_ok nmX5 rfl 29 (by decide) qf_X5_75 rfl rfl rfl hn hfit he ha hl hdg kk
theorem pf_X5_78 (C : fC p s m args c cc nL RX5 Γ) (hP : fP Γ w H) (hS : va_S (fA Γ) s.heap H locs) (hin : meth.name = "<init>") {v : Value} (hn : narrow (tyX5 30) v = v) (hfit : fits (tyX5 30) v = true) {fs : List Value} (he : w.2 k i = some (oO 5 fs)) (ha : w.1 k i = a) (hl : 30 < fs.length) (hdg : decode cc pc = .ok (.putfield 78, 3)) (kk : ∀ (H1 : Heap) (locs1 : List Loc), fP Γ (fset w k i (oO 5 (fs.set 30 v))) H1 → va_S (fA Γ) s.heap H1 locs1 → W p l e R s m args below meth c H1 locs1 cells slots Q (F0 m (pc + 3) ls rest)) : W p l e R s m args below meth c H locs cells slots Q (F0 m pc ls (v :: .ref a :: rest)) := fw_putF C hP hS hin qy_X5 tyX5 tyX5_ok nmX5 rfl 30 (by decide) qf_X5_78 rfl rfl rfl hn hfit he ha hl hdg kk
theorem pf_X5_81 (C : fC p s m args c cc nL RX5 Γ) (hP : fP Γ w H) (hS : va_S (fA Γ) s.heap H locs) (hin : meth.name = "<init>") {v : Value} (hn : narrow (tyX5 31) v = v) (hfit : fits (tyX5 31) v = true) {fs : List Value} (he : w.2 k i = some (oO 5 fs)) (ha : w.1 k i = a) (hl : 31 < fs.length) (hdg : decode cc pc = .ok (.putfield 81, 3)) (kk : ∀ (H1 : Heap) (locs1 : List Loc), fP Γ (fset w k i (oO 5 (fs.set 31 v))) H1 → va_S (fA Γ) s.heap H1 locs1 → W p l e R s m args below meth c H1 locs1 cells slots Q (F0 m (pc + 3) ls rest)) : W p l e R s m args below meth c H locs cells slots Q (F0 m pc ls (v :: .ref a :: rest)) := fw_putF C hP hS hin qy_X5 tyX5 tyX5_ok nmX5 rfl 31 (by decide) qf_X5_81 rfl rfl rfl hn hfit he ha hl hdg kk
theorem pf_X5_84 (C : fC p s m args c cc nL RX5 Γ) (hP : fP Γ w H) (hS : va_S (fA Γ) s.heap H locs) {v : Value} (hn : narrow (tyX5 25) v = v) (hfit : fits (tyX5 25) v = true) {fs : List Value} (he : w.2 k i = some (oO 5 fs)) (ha : w.1 k i = a) (hl : 25 < fs.length) (hdg : decode cc pc = .ok (.putfield 84, 3)) (kk : ∀ (H1 : Heap) (locs1 : List Loc), fP Γ (fset w k i (oO 5 (fs.set 25 v))) H1 → va_S (fA Γ) s.heap H1 locs1 → W p l e R s m args below meth c H1 locs1 cells slots Q (F0 m (pc + 3) ls rest)) : W p l e R s m args below meth c H locs cells slots Q (F0 m pc ls (v :: .ref a :: rest)) := fw_put C hP hS qy_X5 tyX5 tyX5_ok nmX5 rfl 25 (by decide) qf_X5_84 rfl rfl hn hfit he ha hl hdg kk
theorem pf_X5_88 (C : fC p s m args c cc nL RX5 Γ) (hP : fP Γ w H) (hS : va_S (fA Γ) s.heap H locs) {v : Value} (hn : narrow (tyX5 0) v = v) (hfit : fits (tyX5 0) v = true) {fs : List Value} (he : w.2 k i = some (oO 5 fs)) (ha : w.1 k i = a) (hl : 0 < fs.length) (hdg : decode cc pc = .ok (.putfield 88, 3)) (kk : ∀ (H1 : Heap) (locs1 : List Loc), fP Γ (fset w k i (oO 5 (fs.set 0 v))) H1 → va_S (fA Γ) s.heap H1 locs1 → W p l e R s m args below meth c H1 locs1 cells slots Q (F0 m (pc + 3) ls rest)) : W p l e R s m args below meth c H locs cells slots Q (F0 m pc ls (v :: .ref a :: rest)) := fw_put C hP hS qy_X5 tyX5 tyX5_ok nmX5 rfl 0 (by decide) qf_X5_88 rfl rfl hn hfit he ha hl hdg kk
theorem pf_X5_91 (C : fC p s m args c cc nL RX5 Γ) (hP : fP Γ w H) (hS : va_S (fA Γ) s.heap H locs) {v : Value} (hn : narrow (tyX5 6) v = v) (hfit : fits (tyX5 6) v = true) {fs : List Value} (he : w.2 k i = some (oO 5 fs)) (ha : w.1 k i = a) (hl : 6 < fs.length) (hdg : decode cc pc = .ok (.putfield 91, 3)) (kk : ∀ (H1 : Heap) (locs1 : List Loc), fP Γ (fset w k i (oO 5 (fs.set 6 v))) H1 → va_S (fA Γ) s.heap H1 locs1 → W p l e R s m args below meth c H1 locs1 cells slots Q (F0 m (pc + 3) ls rest)) : W p l e R s m args below meth c H locs cells slots Q (F0 m pc ls (v :: .ref a :: rest)) := fw_put C hP hS qy_X5 tyX5 tyX5_ok nmX5 rfl 6 (by decide) qf_X5_91 rfl rfl hn hfit he ha hl hdg kk
theorem pf_X5_107 (C : fC p s m args c cc nL RX5 Γ) (hP : fP Γ w H) (hS : va_S (fA Γ) s.heap H locs) {v : Value} (hn : narrow (tyX5 1) v = v) (hfit : fits (tyX5 1) v = true) {fs : List Value} (he : w.2 k i = some (oO 5 fs)) (ha : w.1 k i = a) (hl : 1 < fs.length) (hdg : decode cc pc = .ok (.putfield 107, 3)) (kk : ∀ (H1 : Heap) (locs1 : List Loc), fP Γ (fset w k i (oO 5 (fs.set 1 v))) H1 → va_S (fA Γ) s.heap H1 locs1 → W p l e R s m args below meth c H1 locs1 cells slots Q (F0 m (pc + 3) ls rest)) : W p l e R s m args below meth c H locs cells slots Q (F0 m pc ls (v :: .ref a :: rest)) := fw_put C hP hS qy_X5 tyX5 tyX5_ok nmX5 rfl 1 (by decide) qf_X5_107 rfl rfl hn hfit he ha hl hdg kk
theorem pf_X5_117 (C : fC p s m args c cc nL RX5 Γ) (hP : fP Γ w H) (hS : va_S (fA Γ) s.heap H locs) {v : Value} (hn : narrow (tyX5 15) v = v) (hfit : fits (tyX5 15) v = true) {fs : List Value} (he : w.2 k i = some (oO 5 fs)) (ha : w.1 k i = a) (hl : 15 < fs.length) (hdg : decode cc pc = .ok (.putfield 117, 3)) (kk : ∀ (H1 : Heap) (locs1 : List Loc), fP Γ (fset w k i (oO 5 (fs.set 15 v))) H1 → va_S (fA Γ) s.heap H1 locs1 → W p l e R s m args below meth c H1 locs1 cells slots Q (F0 m (pc + 3) ls rest)) : W p l e R s m args below meth c H locs cells slots Q (F0 m pc ls (v :: .ref a :: rest)) := fw_put C hP hS qy_X5 tyX5 tyX5_ok nmX5 rfl 15 (by decide) qf_X5_117 rfl rfl hn hfit he ha hl hdg kk
theorem pf_X5_123 (C : fC p s m args c cc nL RX5 Γ) (hP : fP Γ w H) (hS : va_S (fA Γ) s.heap H locs) {v : Value} (hn : narrow (tyX5 24) v = v) (hfit : fits (tyX5 24) v = true) {fs : List Value} (he : w.2 k i = some (oO 5 fs)) (ha : w.1 k i = a) (hl : 24 < fs.length) (hdg : decode cc pc = .ok (.putfield 123, 3)) (kk : ∀ (H1 : Heap) (locs1 : List Loc), fP Γ (fset w k i (oO 5 (fs.set 24 v))) H1 → va_S (fA Γ) s.heap H1 locs1 → W p l e R s m args below meth c H1 locs1 cells slots Q (F0 m (pc + 3) ls rest)) : W p l e R s m args below meth c H locs cells slots Q (F0 m pc ls (v :: .ref a :: rest)) := fw_put C hP hS qy_X5 tyX5 tyX5_ok nmX5 rfl 24 (by decide) qf_X5_123 rfl rfl hn hfit he ha hl hdg kk
theorem pf_X5_137 (C : fC p s m args c cc nL RX5 Γ) (hP : fP Γ w H) (hS : va_S (fA Γ) s.heap H locs) {v : Value} (hn : narrow (tyX5 21) v = v) (hfit : fits (tyX5 21) v = true) {fs : List Value} (he : w.2 k i = some (oO 5 fs)) (ha : w.1 k i = a) (hl : 21 < fs.length) (hdg : decode cc pc = .ok (.putfield 137, 3)) (kk : ∀ (H1 : Heap) (locs1 : List Loc), fP Γ (fset w k i (oO 5 (fs.set 21 v))) H1 → va_S (fA Γ) s.heap H1 locs1 → W p l e R s m args below meth c H1 locs1 cells slots Q (F0 m (pc + 3) ls rest)) : W p l e R s m args below meth c H locs cells slots Q (F0 m pc ls (v :: .ref a :: rest)) := fw_put C hP hS qy_X5 tyX5 tyX5_ok nmX5 rfl 21 (by decide) qf_X5_137 rfl rfl hn hfit he ha hl hdg kk
theorem pf_X5_153 (C : fC p s m args c cc nL RX5 Γ) (hP : fP Γ w H) (hS : va_S (fA Γ) s.heap H locs) {v : Value} (hn : narrow (tyX5 26) v = v) (hfit : fits (tyX5 26) v = true) {fs : List Value} (he : w.2 k i = some (oO 5 fs)) (ha : w.1 k i = a) (hl : 26 < fs.length) (hdg : decode cc pc = .ok (.putfield 153, 3)) (kk : ∀ (H1 : Heap) (locs1 : List Loc), fP Γ (fset w k i (oO 5 (fs.set 26 v))) H1 → va_S (fA Γ) s.heap H1 locs1 → W p l e R s m args below meth c H1 locs1 cells slots Q (F0 m (pc + 3) ls rest)) : W p l e R s m args below meth c H locs cells slots Q (F0 m pc ls (v :: .ref a :: rest)) := fw_put C hP hS qy_X5 tyX5 tyX5_ok nmX5 rfl 26 (by decide) qf_X5_153 rfl rfl hn hfit he ha hl hdg kk
end FWS
theorem wV_L_7 : fVw RL 7 yX4_sign RX4 cX4_sign 8 (some .int) 4 := ⟨qm_L_7, qi_X4_sign, qv_X4_sign, qn_X4, qc_X4_sign, by decide +kernel, by decide +kernel⟩
theorem wI_L_15 : fIw RL 15 yX4_init cX4_init 1 0 := ⟨qm_L_15, qi_X4_init, qn_X4, qc_X4_init, by decide +kernel, by decide +kernel, rfl⟩
theorem wI_L_18 : fIw RL 18 yX5_init cX5_init 1 0 := ⟨qm_L_18, qi_X5_init, qn_X5, qc_X5_init, by decide +kernel, by decide +kernel, rfl⟩
theorem wV_L_19 : fVw RL 19 yX4_person RX4 cX4_person 1 (some .int) 0 := ⟨qm_L_19, qi_X4_person, qv_X4_person, qn_X4, qc_X4_person, by decide +kernel, by decide +kernel⟩
theorem wV_L_23 : fVw RL 23 yX5_person RX5 cX5_person 1 (some .int) 0 := ⟨qm_L_23, qi_X5_person, qv_X5_person, qn_X5, qc_X5_person, by decide +kernel, by decide +kernel⟩
theorem wV_L_26 : fVw RL 26 yX4_role RX4 cX4_role 7 (some .boolean) 4 := ⟨qm_L_26, qi_X4_role, qv_X4_role, qn_X4, qc_X4_role, by decide +kernel, by decide +kernel⟩
theorem wV_L_30 : fVw RL 30 yX5_role RX5 cX5_role 7 (some .boolean) 4 := ⟨qm_L_30, qi_X5_role, qv_X5_role, qn_X5, qc_X5_role, by decide +kernel, by decide +kernel⟩
theorem wV_L_31 : fVw RL 31 yX4_thing RX4 cX4_thing 2 (some .int) 1 := ⟨qm_L_31, qi_X4_thing, qv_X4_thing, qn_X4, qc_X4_thing, by decide +kernel, by decide +kernel⟩
theorem wV_L_35 : fVw RL 35 yX5_thing RX5 cX5_thing 2 (some .int) 1 := ⟨qm_L_35, qi_X5_thing, qv_X5_thing, qn_X5, qc_X5_thing, by decide +kernel, by decide +kernel⟩
theorem wV_L_36 : fVw RL 36 yX4_byteOf RX4 cX4_byteOf 4 (some .boolean) 2 := ⟨qm_L_36, qi_X4_byteOf, qv_X4_byteOf, qn_X4, qc_X4_byteOf, by decide +kernel, by decide +kernel⟩
theorem wV_L_40 : fVw RL 40 yX5_byteOf RX5 cX5_byteOf 3 (some .boolean) 2 := ⟨qm_L_40, qi_X5_byteOf, qv_X5_byteOf, qn_X5, qc_X5_byteOf, by decide +kernel, by decide +kernel⟩
theorem wV_L_46 : fVw RL 46 yX5_sign RX5 cX5_sign 8 (some .int) 4 := ⟨qm_L_46, qi_X5_sign, qv_X5_sign, qn_X5, qc_X5_sign, by decide +kernel, by decide +kernel⟩
theorem wV_L_47 : fVw RL 47 yX5_thrown RX5 cX5_thrown 1 (some .int) 0 := ⟨qm_L_47, qi_X5_thrown, qv_X5_thrown, qn_X5, qc_X5_thrown, by decide +kernel, by decide +kernel⟩
theorem wV_L_50 : fVw RL 50 yX4_holds RX4 cX4_holds 3 (some .boolean) 1 := ⟨qm_L_50, qi_X4_holds, qv_X4_holds, qn_X4, qc_X4_holds, by decide +kernel, by decide +kernel⟩
theorem wV_L_54 : fVw RL 54 yX5_holds RX5 cX5_holds 2 (some .boolean) 1 := ⟨qm_L_54, qi_X5_holds, qv_X5_holds, qn_X5, qc_X5_holds, by decide +kernel, by decide +kernel⟩
theorem wV_L_55 : fVw RL 55 yX4_withdraw RX4 cX4_withdraw 3 (some .boolean) 1 := ⟨qm_L_55, qi_X4_withdraw, qv_X4_withdraw, qn_X4, qc_X4_withdraw, by decide +kernel, by decide +kernel⟩
theorem wV_L_58 : fVw RL 58 yX5_withdraw RX5 cX5_withdraw 2 (some .boolean) 1 := ⟨qm_L_58, qi_X5_withdraw, qv_X5_withdraw, qn_X5, qc_X5_withdraw, by decide +kernel, by decide +kernel⟩
theorem wV_L_59 : fVw RL 59 yX4_order RX4 cX4_order 5 (some .boolean) 2 := ⟨qm_L_59, qi_X4_order, qv_X4_order, qn_X4, qc_X4_order, by decide +kernel, by decide +kernel⟩
theorem wV_L_62 : fVw RL 62 yX5_order RX5 cX5_order 3 (some .boolean) 2 := ⟨qm_L_62, qi_X5_order, qv_X5_order, qn_X5, qc_X5_order, by decide +kernel, by decide +kernel⟩
theorem wV_L_63 : fVw RL 63 yX4_complete RX4 cX4_complete 5 (some .int) 1 := ⟨qm_L_63, qi_X4_complete, qv_X4_complete, qn_X4, qc_X4_complete, by decide +kernel, by decide +kernel⟩
theorem wV_L_66 : fVw RL 66 yX5_complete RX5 cX5_complete 3 (some .int) 1 := ⟨qm_L_66, qi_X5_complete, qv_X5_complete, qn_X5, qc_X5_complete, by decide +kernel, by decide +kernel⟩
theorem wV_L_67 : fVw RL 67 yX4_comment RX4 cX4_comment 6 (some .boolean) 3 := ⟨qm_L_67, qi_X4_comment, qv_X4_comment, qn_X4, qc_X4_comment, by decide +kernel, by decide +kernel⟩
theorem wV_L_71 : fVw RL 71 yX5_comment RX5 cX5_comment 5 (some .boolean) 3 := ⟨qm_L_71, qi_X5_comment, qv_X5_comment, qn_X5, qc_X5_comment, by decide +kernel, by decide +kernel⟩
theorem wV_L_72 : fVw RL 72 yX4_digest RX4 cX4_digest 5 (some .int) 2 := ⟨qm_L_72, qi_X4_digest, qv_X4_digest, qn_X4, qc_X4_digest, by decide +kernel, by decide +kernel⟩
theorem wV_L_76 : fVw RL 76 yX5_digest RX5 cX5_digest 3 (some .int) 2 := ⟨qm_L_76, qi_X5_digest, qv_X5_digest, qn_X5, qc_X5_digest, by decide +kernel, by decide +kernel⟩
theorem wV_L_77 : fVw RL 77 yX4_listed RX4 cX4_listed 2 (some .int) 1 := ⟨qm_L_77, qi_X4_listed, qv_X4_listed, qn_X4, qc_X4_listed, by decide +kernel, by decide +kernel⟩
theorem wV_L_80 : fVw RL 80 yX5_listed RX5 cX5_listed 2 (some .int) 1 := ⟨qm_L_80, qi_X5_listed, qv_X5_listed, qn_X5, qc_X5_listed, by decide +kernel, by decide +kernel⟩
theorem wV_L_81 : fVw RL 81 yX4_needs RX4 cX4_needs 5 (some .int) 2 := ⟨qm_L_81, qi_X4_needs, qv_X4_needs, qn_X4, qc_X4_needs, by decide +kernel, by decide +kernel⟩
theorem wV_L_84 : fVw RL 84 yX5_needs RX5 cX5_needs 5 (some .int) 2 := ⟨qm_L_84, qi_X5_needs, qv_X5_needs, qn_X5, qc_X5_needs, by decide +kernel, by decide +kernel⟩
theorem wV_X1_25 : fVw RX1 25 yX1_loadBlock RX1 cX1_loadBlock 7 none 4 := ⟨qm_X1_25, qi_X1_loadBlock, qv_X1_loadBlock, qn_X1, qc_X1_loadBlock, by decide +kernel, by decide +kernel⟩
theorem wV_X1_29 : fVw RX1 29 yX1_spreadBlock RX1 cX1_spreadBlock 6 none 0 := ⟨qm_X1_29, qi_X1_spreadBlock, qv_X1_spreadBlock, qn_X1, qc_X1_spreadBlock, by decide +kernel, by decide +kernel⟩
theorem wV_X1_32 : fVw RX1 32 yX1_mixBlock RX1 cX1_mixBlock 15 none 0 := ⟨qm_X1_32, qi_X1_mixBlock, qv_X1_mixBlock, qn_X1, qc_X1_mixBlock, by decide +kernel, by decide +kernel⟩
theorem wS_X1_35 : fSw RX1 35 yX1_paddedByte cX1_paddedByte 3 (some .int) 3 := ⟨qm_X1_35, qs_X1_paddedByte, qn_X1, qc_X1_paddedByte, by decide +kernel, by decide +kernel⟩
theorem wS_X1_39 : fSw RX1 39 yX1_turned cX1_turned 2 (some .int) 2 := ⟨qm_X1_39, qs_X1_turned, qn_X1, qc_X1_turned, by decide +kernel, by decide +kernel⟩
theorem wI_X4_39 : fIw RX4 39 yX1_init cX1_init 1 0 := ⟨qm_X4_39, qi_X1_init, qn_X1, qc_X1_init, by decide +kernel, by decide +kernel, rfl⟩
theorem wV_X4_48 : fVw RX4 48 yX4_isPerson RX4 cX4_isPerson 2 (some .boolean) 1 := ⟨qm_X4_48, qi_X4_isPerson, qv_X4_isPerson, qn_X4, qc_X4_isPerson, by decide +kernel, by decide +kernel⟩
theorem wS_X4_52 : fSw RX4 52 yX4_isMeaning cX4_isMeaning 1 (some .boolean) 1 := ⟨qm_X4_52, qs_X4_isMeaning, qn_X4, qc_X4_isMeaning, by decide +kernel, by decide +kernel⟩
theorem wI_X4_60 : fIw RX4 60 yX0_init cX0_init 7 4 := ⟨qm_X4_60, qi_X0_init, qn_X0, qc_X0_init, by decide +kernel, by decide +kernel, rfl⟩
theorem wI_X4_66 : fIw RX4 66 yX3_init cX3_init 2 1 := ⟨qm_X4_66, qi_X3_init, qn_X3, qc_X3_init, by decide +kernel, by decide +kernel, rfl⟩
theorem wV_X4_69 : fVw RX4 69 yX4_thingAt RX4 cX4_thingAt 2 (some (.object "SignRows$Thing")) 1 := ⟨qm_X4_69, qi_X4_thingAt, qv_X4_thingAt, qn_X4, qc_X4_thingAt, by decide +kernel, by decide +kernel⟩
theorem wS_X4_73 : fSw RX4 73 yX4_isByte cX4_isByte 1 (some .boolean) 1 := ⟨qm_X4_73, qs_X4_isByte, qn_X4, qc_X4_isByte, by decide +kernel, by decide +kernel⟩
theorem wV_X4_87 : fVw RX4 87 yX4_isLate RX4 cX4_isLate 3 (some .boolean) 1 := ⟨qm_X4_87, qi_X4_isLate, qv_X4_isLate, qn_X4, qc_X4_isLate, by decide +kernel, by decide +kernel⟩
theorem wV_X4_91 : fVw RX4 91 yX4_hasRole RX4 cX4_hasRole 7 (some .boolean) 3 := ⟨qm_X4_91, qi_X4_hasRole, qv_X4_hasRole, qn_X4, qc_X4_hasRole, by decide +kernel, by decide +kernel⟩
theorem wV_X4_105 : fVw RX4 105 yX4_meaningsThatHold RX4 cX4_meaningsThatHold 5 (some .int) 1 := ⟨qm_X4_105, qi_X4_meaningsThatHold, qv_X4_meaningsThatHold, qn_X4, qc_X4_meaningsThatHold, by decide +kernel, by decide +kernel⟩
theorem wV_X4_109 : fVw RX4 109 yX4_isSignedBy RX4 cX4_isSignedBy 6 (some .boolean) 3 := ⟨qm_X4_109, qi_X4_isSignedBy, qv_X4_isSignedBy, qn_X4, qc_X4_isSignedBy, by decide +kernel, by decide +kernel⟩
theorem wI_X4_116 : fIw RX4 116 yX2_init cX2_init 4 3 := ⟨qm_X4_116, qi_X2_init, qn_X2, qc_X2_init, by decide +kernel, by decide +kernel, rfl⟩
theorem wV_X4_119 : fVw RX4 119 yX4_digestWordsOf RX4 cX4_digestWordsOf 2 (some (.array .int)) 1 := ⟨qm_X4_119, qi_X4_digestWordsOf, qv_X4_digestWordsOf, qn_X4, qc_X4_digestWordsOf, by decide +kernel, by decide +kernel⟩
theorem wS_X4_126 : fSw RX4 126 yX4_copyWords cX4_copyWords 3 none 2 := ⟨qm_X4_126, qs_X4_copyWords, qn_X4, qc_X4_copyWords, by decide +kernel, by decide +kernel⟩
theorem wV_X4_134 : fVw RX4 134 yX4_signatureAt RX4 cX4_signatureAt 2 (some (.object "SignRows$Signature")) 1 := ⟨qm_X4_134, qi_X4_signatureAt, qv_X4_signatureAt, qn_X4, qc_X4_signatureAt, by decide +kernel, by decide +kernel⟩
theorem wV_X4_138 : fVw RX4 138 yX4_isStanding RX4 cX4_isStanding 2 (some .boolean) 1 := ⟨qm_X4_138, qi_X4_isStanding, qv_X4_isStanding, qn_X4, qc_X4_isStanding, by decide +kernel, by decide +kernel⟩
theorem wS_X4_148 : fSw RX4 148 yX4_hasBit cX4_hasBit 2 (some .boolean) 2 := ⟨qm_X4_148, qs_X4_hasBit, qn_X4, qc_X4_hasBit, by decide +kernel, by decide +kernel⟩
theorem wV_X4_164 : fVw RX4 164 yX0_isHeldBy RX0 cX0_isHeldBy 5 (some .boolean) 3 := ⟨qm_X4_164, qi_X0_isHeldBy, qv_X0_isHeldBy, qn_X0, qc_X0_isHeldBy, by decide +kernel, by decide +kernel⟩
theorem wV_X4_174 : fVw RX4 174 yX2_isOf RX2 cX2_isOf 4 (some .boolean) 3 := ⟨qm_X4_174, qi_X2_isOf, qv_X2_isOf, qn_X2, qc_X2_isOf, by decide +kernel, by decide +kernel⟩
theorem wS_X4_177 : fSw RX4 177 yX4_areSameWords cX4_areSameWords 3 (some .boolean) 2 := ⟨qm_X4_177, qs_X4_areSameWords, qn_X4, qc_X4_areSameWords, by decide +kernel, by decide +kernel⟩
theorem wV_X4_181 : fVw RX4 181 yX1_hashBytes RX1 cX1_hashBytes 5 none 2 := ⟨qm_X4_181, qi_X1_hashBytes, qv_X1_hashBytes, qn_X1, qc_X1_hashBytes, by decide +kernel, by decide +kernel⟩
theorem wV_X5_96 : fVw RX5 96 yX5_isPerson RX5 cX5_isPerson 2 (some .boolean) 1 := ⟨qm_X5_96, qi_X5_isPerson, qv_X5_isPerson, qn_X5, qc_X5_isPerson, by decide +kernel, by decide +kernel⟩
theorem wS_X5_100 : fSw RX5 100 yX5_isTen cX5_isTen 1 (some .boolean) 1 := ⟨qm_X5_100, qs_X5_isTen, qn_X5, qc_X5_isTen, by decide +kernel, by decide +kernel⟩
theorem wS_X5_103 : fSw RX5 103 yX5_isSecond cX5_isSecond 2 (some .boolean) 1 := ⟨qm_X5_103, qs_X5_isSecond, qn_X5, qc_X5_isSecond, by decide +kernel, by decide +kernel⟩
theorem wV_X5_110 : fVw RX5 110 yX5_reckon RX5 cX5_reckon 7 none 1 := ⟨qm_X5_110, qi_X5_reckon, qv_X5_reckon, qn_X5, qc_X5_reckon, by decide +kernel, by decide +kernel⟩
theorem wV_X5_114 : fVw RX5 114 yX5_isThing RX5 cX5_isThing 2 (some .boolean) 1 := ⟨qm_X5_114, qi_X5_isThing, qv_X5_isThing, qn_X5, qc_X5_isThing, by decide +kernel, by decide +kernel⟩
theorem wV_X5_120 : fVw RX5 120 yX5_stands RX5 cX5_stands 4 (some .boolean) 1 := ⟨qm_X5_120, qi_X5_stands, qv_X5_stands, qn_X5, qc_X5_stands, by decide +kernel, by decide +kernel⟩
theorem wV_X5_127 : fVw RX5 127 yX5_has RX5 cX5_has 6 (some .boolean) 3 := ⟨qm_X5_127, qi_X5_has, qv_X5_has, qn_X5, qc_X5_has, by decide +kernel, by decide +kernel⟩
theorem wV_X5_140 : fVw RX5 140 yX5_comes RX5 cX5_comes 6 (some .boolean) 3 := ⟨qm_X5_140, qi_X5_comes, qv_X5_comes, qn_X5, qc_X5_comes, by decide +kernel, by decide +kernel⟩
theorem wS_X5_149 : fSw RX5 149 yX5_root cX5_root 6 (some .int) 2 := ⟨qm_X5_149, qs_X5_root, qn_X5, qc_X5_root, by decide +kernel, by decide +kernel⟩
theorem wV_X5_157 : fVw RX5 157 yX5_prepare RX5 cX5_prepare 5 none 0 := ⟨qm_X5_157, qi_X5_prepare, qv_X5_prepare, qn_X5, qc_X5_prepare, by decide +kernel, by decide +kernel⟩
theorem wV_X5_160 : fVw RX5 160 yX5_padded RX5 cX5_padded 6 (some .int) 3 := ⟨qm_X5_160, qi_X5_padded, qv_X5_padded, qn_X5, qc_X5_padded, by decide +kernel, by decide +kernel⟩
theorem wS_X5_164 : fSw RX5 164 yX5_turn cX5_turn 2 (some .int) 2 := ⟨qm_X5_164, qs_X5_turn, qn_X5, qc_X5_turn, by decide +kernel, by decide +kernel⟩
theorem wV_X5_168 : fVw RX5 168 yX5_block RX5 cX5_block 11 none 0 := ⟨qm_X5_168, qi_X5_block, qv_X5_block, qn_X5, qc_X5_block, by decide +kernel, by decide +kernel⟩
end
section
def bt (x : Int32) (i : Nat) : Bool := x.toBitVec.getLsbD i
theorem b_ext {x y : Int32} (h : ∀ i, i < 32 → bt x i = bt y i) : x = y := Int32.toBitVec_inj.mp (BitVec.eq_of_getLsbD_eq (fun i hi => h i hi))
theorem b_or (x y : Int32) (i : Nat) : bt (x ||| y) i = (bt x i || bt y i) := by unfold bt; rw [Int32.toBitVec_or, BitVec.getLsbD_or]
theorem b_and (x y : Int32) (i : Nat) : bt (x &&& y) i = (bt x i && bt y i) := by unfold bt; rw [Int32.toBitVec_and, BitVec.getLsbD_and]
theorem b_xor (x y : Int32) (i : Nat) : bt (x ^^^ y) i = (bt x i ^^ bt y i) := by unfold bt; rw [Int32.toBitVec_xor, BitVec.getLsbD_xor]
theorem b_big {x : Int32} {i : Nat} (h : 32 ≤ i) : bt x i = false := BitVec.getLsbD_of_ge _ _ h
theorem b_255 (i : Nat) : bt 255 i = decide (i < 8) := by
  rcases Nat.lt_or_ge i 32 with h | h
  · exact (by decide +kernel : ∀ i, i < 32 → bt 255 i = decide (i < 8)) i h
  · rw [b_big h, decide_eq_false (by omega)]
theorem b_65535 (i : Nat) : bt 65535 i = decide (i < 16) := by
  rcases Nat.lt_or_ge i 32 with h | h
  · exact (by decide +kernel : ∀ i, i < 32 → bt 65535 i = decide (i < 16)) i h
  · rw [b_big h, decide_eq_false (by omega)]
theorem b_m1 : ∀ i, i < 32 → bt (-1) i = true := by decide +kernel
theorem b_0 (i : Nat) : bt 0 i = false := BitVec.getLsbD_zero
theorem s_l : ∀ n, n < 32 → ((nI n &&& 31).toBitVec.smod 32).toNat = n := by decide +kernel
theorem s_u : ∀ n, n < 32 → (((nI n).toUInt32 &&& Int32.toUInt32 31).toBitVec % 32).toNat = n := by decide +kernel
theorem b_shl (n : Nat) (hn : n < 32) (x : Int32) {i : Nat} (hi : i < 32) : bt (x <<< (nI n &&& 31)) i = (decide (n ≤ i) && bt x (i - n)) := by
  unfold bt
  rw [Int32.toBitVec_shiftLeft]
  show (x.toBitVec <<< ((nI n &&& 31).toBitVec.smod 32).toNat).getLsbD i = _
  rw [s_l n hn, BitVec.getLsbD_shiftLeft]
  rcases Nat.lt_or_ge i n with h | h
  · simp [h, Nat.not_le.mpr h]
  · simp [hi, h, Nat.not_lt.mpr h]
theorem b_ushr (n : Nat) (hn : n < 32) (x : Int32) (i : Nat) : bt ((x.toUInt32 >>> ((nI n).toUInt32 &&& Int32.toUInt32 31)).toInt32) i = bt x (n + i) := by
  show (x.toUInt32 >>> ((nI n).toUInt32 &&& Int32.toUInt32 31)).toBitVec.getLsbD i = x.toUInt32.toBitVec.getLsbD (n + i)
  rw [UInt32.toBitVec_shiftRight]
  show (x.toUInt32.toBitVec >>> (((nI n).toUInt32 &&& Int32.toUInt32 31).toBitVec % 32).toNat).getLsbD i = _
  rw [s_u n hn, BitVec.getLsbD_ushiftRight]
theorem b_sshr (n : Nat) (hn : n < 32) (x : Int32) {i : Nat} (hi : i < 32) : bt (x >>> (nI n &&& 31)) i = if n + i < 32 then bt x (n + i) else bt x 31 := by
  unfold bt
  rw [Int32.toBitVec_shiftRight]
  show (x.toBitVec.sshiftRight ((nI n &&& 31).toBitVec.smod 32).toNat).getLsbD i = _
  rw [s_l n hn, BitVec.getLsbD_sshiftRight, BitVec.msb_eq_getLsbD_last]
  simp [hi]
theorem b_shl8 (x : Int32) {i : Nat} (hi : i < 32) : bt (x <<< ((8 : Int32) &&& 31)) i = (decide (8 ≤ i) && bt x (i - 8)) := b_shl 8 (by omega) x hi
theorem b_shl16 (x : Int32) {i : Nat} (hi : i < 32) : bt (x <<< ((16 : Int32) &&& 31)) i = (decide (16 ≤ i) && bt x (i - 16)) := b_shl 16 (by omega) x hi
theorem b_shl24 (x : Int32) {i : Nat} (hi : i < 32) : bt (x <<< ((24 : Int32) &&& 31)) i = (decide (24 ≤ i) && bt x (i - 24)) := b_shl 24 (by omega) x hi
theorem b_sshr8 (x : Int32) {i : Nat} (hi : i < 32) : bt (x >>> ((8 : Int32) &&& 31)) i = if 8 + i < 32 then bt x (8 + i) else bt x 31 := b_sshr 8 (by omega) x hi
theorem fb_holes : ∀ (m n : Nat) (f : Nat → Nat), (∀ i, i < n → f i < m) → (∀ i j, i < j → j < n → f i ≠ f j) → n ≤ m := by
  intro m
  induction m with
  | zero =>
    intro n f h1 _
    rcases Nat.eq_zero_or_pos n with h | h
    · omega
    · exact absurd (h1 0 h) (Nat.not_lt_zero _)
  | succ m ih =>
    intro n f h1 h2
    by_cases hx : ∃ i, i < n ∧ f i = m
    · obtain ⟨a, ha, hfa⟩ := hx
      have hg := ih (n - 1) (fun i => if i < a then f i else f (i + 1)) (by
        intro i hi
        by_cases q : i < a
        · simp only [if_pos q]
          have b1 := h1 i (by omega)
          have b2 := h2 i a q ha
          omega
        · simp only [if_neg q]
          have b1 := h1 (i + 1) (by omega)
          have b2 := h2 a (i + 1) (by omega) (by omega)
          omega) (by
        intro i j hij hj
        by_cases q : i < a
        · by_cases r : j < a
          · simp only [if_pos q, if_pos r]
            exact h2 i j hij (by omega)
          · simp only [if_pos q, if_neg r]
            exact h2 i (j + 1) (by omega) (by omega)
        · have r : ¬ j < a := by omega
          simp only [if_neg q, if_neg r]
          exact h2 (i + 1) (j + 1) (by omega) (by omega))
      omega
    · have hg := ih n f (fun i hi => by
        have b1 := h1 i hi
        have b2 : f i ≠ m := fun e => hx ⟨i, hi, e⟩
        omega) h2
      omega
def fb_ct (p : Nat → Bool) : Nat → Nat
  | 0 => 0
  | n + 1 => fb_ct p n + (if p n then 1 else 0)
theorem fb_ct_succ (p : Nat → Bool) (n : Nat) : fb_ct p (n + 1) = fb_ct p n + (if p n then 1 else 0) := rfl
theorem fb_ct_le (p : Nat → Bool) : ∀ n, fb_ct p n ≤ n
  | 0 => Nat.le_refl _
  | n + 1 => by
    have h := fb_ct_le p n
    rw [fb_ct_succ]
    split <;> omega
theorem fb_ct_step (p : Nat → Bool) (m : Nat) : ∀ n, fb_ct p m ≤ fb_ct p (m + n)
  | 0 => Nat.le_refl _
  | n + 1 => by
    have h := fb_ct_step p m n
    show fb_ct p m ≤ fb_ct p (m + n + 1)
    rw [fb_ct_succ]
    omega
theorem fb_ct_mono (p : Nat → Bool) {m n : Nat} (h : m ≤ n) : fb_ct p m ≤ fb_ct p n := by
  have := fb_ct_step p m (n - m)
  rwa [Nat.add_sub_cancel' h] at this
theorem fb_ct_cong {p q : Nat → Bool} : ∀ {n : Nat}, (∀ k, k < n → p k = q k) → fb_ct p n = fb_ct q n
  | 0, _ => rfl
  | n + 1, h => by
    rw [fb_ct_succ, fb_ct_succ, fb_ct_cong (fun k hk => h k (by omega)), h n (by omega)]
theorem fb_ct_out (p : Nat → Bool) (b : Bool) {i n : Nat} (h : n ≤ i) : fb_ct (fun k => if k = i then b else p k) n = fb_ct p n :=
  fb_ct_cong fun k hk => if_neg (by omega)
theorem fb_ct_upd (p : Nat → Bool) (b : Bool) {i : Nat} : ∀ {n : Nat}, i < n → fb_ct (fun k => if k = i then b else p k) n + (if p i then 1 else 0) = fb_ct p n + (if b then 1 else 0)
  | 0, h => absurd h (Nat.not_lt_zero i)
  | n + 1, h => by
    rw [fb_ct_succ, fb_ct_succ]
    rcases Nat.lt_or_ge i n with q | q
    · have := fb_ct_upd p b q
      have e : (if n = i then b else p n) = p n := if_neg (by omega)
      rw [e]
      omega
    · have e : i = n := by omega
      subst e
      rw [fb_ct_out p b (Nat.le_refl _)]
      simp only [if_true]
      omega
theorem fb_ct_sub {p q : Nat → Bool} : ∀ {n : Nat}, (∀ k, k < n → p k = true → q k = true) → fb_ct p n ≤ fb_ct q n
  | 0, _ => Nat.le_refl _
  | n + 1, h => by
    have h1 := fb_ct_sub (n := n) (p := p) (q := q) (fun k hk => h k (by omega))
    have h2 := h n (by omega)
    rw [fb_ct_succ, fb_ct_succ]
    cases hp : p n <;> cases hq : q n <;> simp_all <;> omega
/-! SHA-256, of bytes b 0 .. b (n - 1) -/
def trn (v k : Int32) : Int32 := (v.toUInt32 >>> (k.toUInt32 &&& Int32.toUInt32 31)).toInt32 ||| (v <<< ((32 - k) &&& 31))
def ush (x k : Int32) : Int32 := (x.toUInt32 >>> (k.toUInt32 &&& Int32.toUInt32 31)).toInt32
def sg0 (x : Int32) : Int32 := (trn x 7 ^^^ trn x 18) ^^^ ush x 3
def sg1 (x : Int32) : Int32 := (trn x 17 ^^^ trn x 19) ^^^ ush x 10
def shV (f : Nat → Int32) (t : Nat) : Int32 := sg1 (f (t - 2)) + f (t - 7) + sg0 (f (t - 15)) + f (t - 16)
def shSf (f : Nat → Int32) : Nat → Nat → Int32
  | 0 => f
  | n + 1 => upd (shSf f n) (16 + n) (shV (shSf f n) (16 + n))
def bs0 (a : Int32) : Int32 := (trn a 2 ^^^ trn a 13) ^^^ trn a 22
def bs1 (e : Int32) : Int32 := (trn e 6 ^^^ trn e 11) ^^^ trn e 25
def chx (e f g : Int32) : Int32 := (e &&& f) ^^^ ((e ^^^ (-1)) &&& g)
def mjx (a b c : Int32) : Int32 := ((a &&& b) ^^^ (a &&& c)) ^^^ (b &&& c)
abbrev S8 : Type := Int32 × Int32 × Int32 × Int32 × Int32 × Int32 × Int32 × Int32
def rd1 (e f g h k w : Int32) : Int32 := h + bs1 e + chx e f g + k + w
def rnd (x : S8) (k w : Int32) : S8 := match x with
  | (a, b, c, d, e, f, g, h) => (rd1 e f g h k w + bs0 a + mjx a b c, a, b, c, d + rd1 e f g h k w, e, f, g)
def rds (x : S8) (w : Nat → Int32) : Nat → S8
  | 0 => x
  | t + 1 => rnd (rds x w t) (shK t) (w t)
def at8 (x : S8) (j : Nat) : Int32 := match x with
  | (a, b, c, d, e, f, g, h) => match j with
    | 0 => a
    | 1 => b
    | 2 => c
    | 3 => d
    | 4 => e
    | 5 => f
    | 6 => g
    | _ => h
def s8 (f : Nat → Int32) : S8 := (f 0, f 1, f 2, f 3, f 4, f 5, f 6, f 7)
def pdb (b : Nat → Nat) (n i : Nat) : Int32 := if i < n then nI (b i) else if i = n then 128 else 0
def wd4 (p : Nat → Int32) (i : Nat) : Int32 := (((p i <<< ((24 : Int32) &&& 31)) ||| (p (i + 1) <<< ((16 : Int32) &&& 31))) ||| (p (i + 2) <<< ((8 : Int32) &&& 31))) ||| p (i + 3)
def shW (b : Nat → Nat) (n blk j : Nat) : Int32 := if blk = (n + 8) / 64 ∧ j = 15 then nI (n * 8) else wd4 (pdb b n) (blk * 64 + 4 * j)
def shB (b : Nat → Nat) (n : Nat) : Nat → Nat → Int32
  | 0 => shH
  | k + 1 => fun j => shB b n k j + at8 (rds (s8 (shB b n k)) (shSf (shW b n k) 48) 64) j
def shD (b : Nat → Nat) (n j : Nat) : Int32 := shB b n ((n + 8) / 64 + 1) j
theorem pdb_congr {b b' : Nat → Nat} {n : Nat} (h : ∀ i, i < n → b i = b' i) : pdb b n = pdb b' n := by
  funext i
  unfold pdb
  by_cases hi : i < n
  · rw [if_pos hi, if_pos hi, h i hi]
  · rw [if_neg hi, if_neg hi]
theorem shW_congr {b b' : Nat → Nat} {n : Nat} (h : ∀ i, i < n → b i = b' i) (k : Nat) : shW b n k = shW b' n k := by
  funext j
  unfold shW
  rw [pdb_congr h]
theorem shB_congr {b b' : Nat → Nat} {n : Nat} (h : ∀ i, i < n → b i = b' i) : ∀ k, shB b n k = shB b' n k
  | 0 => rfl
  | k + 1 => by
    unfold shB
    rw [shB_congr h k, shW_congr h k]
theorem shD_congr {b b' : Nat → Nat} {n : Nat} (h : ∀ i, i < n → b i = b' i) (j : Nat) : shD b n j = shD b' n j := by
  unfold shD
  rw [shB_congr h]
theorem shSf_at {f g : Nat → Int32} : ∀ (n : Nat), (∀ t, t < 16 → f t = g t) → ∀ t, t < 16 + n → shSf f n t = shSf g n t
  | 0, h, t, ht => h t ht
  | n + 1, h, t, ht => by
    have ih := shSf_at n h
    unfold shSf upd
    by_cases e : t = 16 + n
    · subst e
      simp only [if_true]
      unfold shV
      rw [ih _ (by omega), ih _ (by omega), ih _ (by omega), ih _ (by omega)]
    · rw [if_neg e, if_neg e]
      exact ih t (by omega)
theorem rds_at {x : S8} {f g : Nat → Int32} : ∀ (n : Nat), (∀ t, t < n → f t = g t) → rds x f n = rds x g n
  | 0, _ => rfl
  | n + 1, h => by
    unfold rds
    rw [rds_at n (fun t ht => h t (by omega)), h n (by omega)]
/-! masks of ten bits -/
def msk (p : Nat → Bool) : Nat → Int32
  | 0 => 0
  | n + 1 => if p n then msk p n ||| ((1 : Int32) <<< (nI n &&& 31)) else msk p n
def hbt (x y : Int32) : Bool := decide ((x.toUInt32 >>> (y.toUInt32 &&& Int32.toUInt32 31)).toInt32 &&& 1 = 1)
theorem bt_1 (i : Nat) : bt 1 i = decide (i = 0) := by
  rcases Nat.lt_or_ge i 32 with h | h
  · exact (by decide +kernel : ∀ i, i < 32 → bt 1 i = decide (i = 0)) i h
  · rw [b_big h, decide_eq_false (by omega)]
theorem bt_one (n : Nat) (hn : n < 32) (i : Nat) (hi : i < 32) : bt ((1 : Int32) <<< (nI n &&& 31)) i = decide (i = n) := by
  rw [b_shl n hn 1 hi, bt_1]
  by_cases h : i = n
  · subst h; simp
  · rw [decide_eq_false h]
    by_cases h2 : n ≤ i
    · rw [decide_eq_true h2, decide_eq_false (by omega)]; rfl
    · rw [decide_eq_false h2]; rfl
theorem bt_msk (p : Nat → Bool) : ∀ (n : Nat), n ≤ 32 → ∀ i, i < 32 → bt (msk p n) i = (decide (i < n) && p i)
  | 0, _, i, _ => by rw [msk, b_0, decide_eq_false (by omega)]; rfl
  | n + 1, hn, i, hi => by
    have ih := bt_msk p n (by omega) i hi
    unfold msk
    by_cases hp : p n = true
    · rw [if_pos hp, b_or, ih, bt_one n (by omega) i hi]
      by_cases h : i = n
      · subst h; simp [hp]
      · rw [decide_eq_false h, Bool.or_false]
        by_cases h2 : i < n
        · rw [decide_eq_true h2, decide_eq_true (by omega)]
        · rw [decide_eq_false h2, decide_eq_false (by omega)]
    · rw [if_neg hp, ih]
      by_cases h : i = n
      · subst h; simp [Bool.not_eq_true _ |>.mp hp]
      · by_cases h2 : i < n
        · rw [decide_eq_true h2, decide_eq_true (by omega)]
        · rw [decide_eq_false h2, decide_eq_false (by omega)]
theorem hbt_bt {x : Int32} {n : Nat} (hn : n < 32) : hbt x (nI n) = bt x n := by
  unfold hbt
  have key : ∀ y : Int32, (y &&& 1 = 1) ↔ bt y 0 = true := by
    intro y
    constructor
    · intro h
      have := congrArg (fun z => bt z 0) h
      simp only [b_and, bt_1] at this
      simpa using this
    · intro h
      apply b_ext
      intro i hi
      rw [b_and, bt_1]
      by_cases e : i = 0
      · subst e; simp [h]
      · simp [e]
  have k2 := key ((x.toUInt32 >>> ((nI n).toUInt32 &&& Int32.toUInt32 31)).toInt32)
  rw [b_ushr n hn x 0] at k2
  rw [Nat.add_zero] at k2
  cases hb : bt x n
  · rw [hb] at k2
    exact decide_eq_false (fun h => by have := k2.mp h; cases this)
  · rw [hb] at k2
    exact decide_eq_true (k2.mpr rfl)
theorem hbt_msk {p : Nat → Bool} {n : Nat} (hn : n < 10) : hbt (msk p 10) (nI n) = p n := by
  rw [hbt_bt (by omega), bt_msk p 10 (by omega) n (by omega), decide_eq_true hn, Bool.true_and]
theorem msk_or {p : Nat → Bool} {n : Nat} (hn : n < 10) : msk p 10 ||| ((1 : Int32) <<< (nI n &&& 31)) = msk (va_up p n true) 10 := by
  apply b_ext
  intro i hi
  rw [b_or, bt_msk p 10 (by omega) i hi, bt_msk _ 10 (by omega) i hi, bt_one n (by omega) i hi]
  by_cases h : i = n
  · subst h; simp [va_up, hn]
  · simp [va_up, h]
theorem msk_orm {p q : Nat → Bool} : msk p 10 ||| msk q 10 = msk (fun i => p i || q i) 10 := by
  apply b_ext
  intro i hi
  rw [b_or, bt_msk p 10 (by omega) i hi, bt_msk q 10 (by omega) i hi, bt_msk _ 10 (by omega) i hi]
  cases decide (i < 10) <;> simp
theorem msk_congr {p q : Nat → Bool} (h : ∀ i, i < 10 → p i = q i) : msk p 10 = msk q 10 := by
  apply b_ext
  intro i hi
  rw [bt_msk p 10 (by omega) i hi, bt_msk q 10 (by omega) i hi]
  by_cases h2 : i < 10
  · rw [h i h2]
  · rw [decide_eq_false h2]; rfl
theorem msk_0 : msk (fun _ => false) 10 = 0 := by decide +kernel
theorem msk_no {p q : Nat → Bool} : msk p 10 &&& (msk q 10 ^^^ (-1)) = 0 ↔ ∀ i, i < 10 → p i = true → q i = true := by
  constructor
  · intro h i hi hp
    have := congrArg (fun z => bt z i) h
    simp only [b_and, b_xor, b_0] at this
    rw [bt_msk p 10 (by omega) i (by omega), bt_msk q 10 (by omega) i (by omega), b_m1 i (by omega), decide_eq_true hi, hp] at this
    simpa using this
  · intro h
    apply b_ext
    intro i hi
    rw [b_and, b_xor, b_0, bt_msk p 10 (by omega) i hi, bt_msk q 10 (by omega) i hi, b_m1 i hi]
    by_cases h2 : i < 10
    · rw [decide_eq_true h2]
      cases hp : p i
      · simp
      · rw [h i h2 hp]; simp
    · rw [decide_eq_false h2]; simp
end
section
/-! the state of a SignRows, as numbers and functions; what each call answers, and what it leaves -/
abbrev St : Type := (Nat × Nat × Nat × Nat × Nat × Int64) × ((Nat → Nat) × (Nat → Nat) × (Nat → Int64) × (Nat → Int64)) × ((Nat → Nat) × (Nat → Nat) × (Nat → Nat → Nat) × (Nat → Nat) × (Nat → Nat → Nat) × (Nat → Nat) × (Nat → Nat → Nat)) × ((Nat → Nat) × (Nat → Nat) × (Nat → Nat) × (Nat → Nat → Int32) × (Nat → Bool) × (Nat → Nat)) × (Nat → Nat → Bool)
abbrev s_np (σ : St) : Nat := σ.1.1
abbrev s_nr (σ : St) : Nat := σ.1.2.1
abbrev s_nt (σ : St) : Nat := σ.1.2.2.1
abbrev s_ns (σ : St) : Nat := σ.1.2.2.2.1
abbrev s_nw (σ : St) : Nat := σ.1.2.2.2.2.1
abbrev s_ck (σ : St) : Int64 := σ.1.2.2.2.2.2
abbrev s_rp (σ : St) : Nat → Nat := σ.2.1.1
abbrev s_rk (σ : St) : Nat → Nat := σ.2.1.2.1
abbrev s_rf (σ : St) : Nat → Int64 := σ.2.1.2.2.1
abbrev s_rt (σ : St) : Nat → Int64 := σ.2.1.2.2.2
abbrev s_mk (σ : St) : Nat → Nat := σ.2.2.1.1
abbrev s_ln (σ : St) : Nat → Nat := σ.2.2.1.2.1
abbrev s_by (σ : St) : Nat → Nat → Nat := σ.2.2.1.2.2.1
abbrev s_cn (σ : St) : Nat → Nat := σ.2.2.1.2.2.2.1
abbrev s_cm (σ : St) : Nat → Nat → Nat := σ.2.2.1.2.2.2.2.1
abbrev s_dn (σ : St) : Nat → Nat := σ.2.2.1.2.2.2.2.2.1
abbrev s_nd (σ : St) : Nat → Nat → Nat := σ.2.2.1.2.2.2.2.2.2
abbrev s_st (σ : St) : Nat → Nat := σ.2.2.2.1.1
abbrev s_sp (σ : St) : Nat → Nat := σ.2.2.2.1.2.1
abbrev s_sm (σ : St) : Nat → Nat := σ.2.2.2.1.2.2.1
abbrev s_sw (σ : St) : Nat → Nat → Int32 := σ.2.2.2.1.2.2.2.1
abbrev s_sg (σ : St) : Nat → Bool := σ.2.2.2.1.2.2.2.2.1
abbrev s_wl (σ : St) : Nat → Nat := σ.2.2.2.1.2.2.2.2.2
abbrev s_bh (σ : St) : Nat → Nat → Bool := σ.2.2.2.2
abbrev cLAST : Int64 := 1000000000000
def s_0 : St := ((0, 0, 0, 0, 0, 0), (fun _ => 0, fun _ => 0, fun _ => 0, fun _ => 0), (fun _ => 0, fun _ => 0, fun _ _ => 0, fun _ => 0, fun _ _ => 0, fun _ => 0, fun _ _ => 0), (fun _ => 0, fun _ => 0, fun _ => 0, fun _ _ => 0, fun _ => false, fun _ => 0), fun _ _ => false)
/-- the digest of thing t -/
def s_dg (σ : St) (t : Nat) : Nat → Int32 := shD (s_by σ t) (s_ln σ t)
def eqw (f g : Nat → Int32) : Nat → Bool
  | 0 => true
  | k + 1 => eqw f g k && decide (f k = g k)
/-- signature i holds -/
def s_sd (σ : St) (i : Nat) : Bool := !s_sg σ i && eqw (s_sw σ i) (s_dg σ (s_st σ i)) 8
/-- some of the first n signatures is of thing t, meaning m, of person q if one is named, and holds -/
def s_hs (σ : St) (t m : Nat) (q : Option Nat) : Nat → Bool
  | 0 => false
  | n + 1 => s_hs σ t m q n || (decide (s_st σ n = t) && decide (s_sm σ n = m) && (match q with | none => true | some p => decide (s_sp σ n = p)) && s_sd σ n)
def isSec (x : Int64) : Bool := decide (0 ≤ x) && decide (x ≤ cLAST)
def n_of (x : Int32) : Nat := x.toNatClampNeg
theorem n_of_nI {j : Nat} (h : j < 2 ^ 31) : n_of (nI j) = j := nI_clamp h
-- person
def a_person (σ : St) : Int32 := if s_np σ = 24 then -2 else nI (s_np σ)
def n_person (σ : St) : St := if s_np σ = 24 then σ else ((s_np σ + 1, σ.1.2), σ.2)
-- role
def a_role (σ : St) (p r : Int32) (f t : Int64) : Bool := fIn p (s_np σ) && fIn r 10 && isSec f && isSec t && decide (f ≤ t) && decide (s_nr σ ≠ 100)
def n_role (σ : St) (p r : Int32) (f t : Int64) : St := if a_role σ p r f t then ((s_np σ, s_nr σ + 1, σ.1.2.2), (va_up (s_rp σ) (s_nr σ) (n_of p), va_up (s_rk σ) (s_nr σ) (n_of r), va_up (s_rf σ) (s_nr σ) f, va_up (s_rt σ) (s_nr σ) t), σ.2.2) else σ
-- thing
def a_thing (σ : St) (p : Int32) : Int32 := if fIn p (s_np σ) then (if s_nt σ = 16 then -2 else nI (s_nt σ)) else -1
def n_thing (σ : St) (p : Int32) : St := if fIn p (s_np σ) then (if s_nt σ = 16 then σ else ((s_np σ, s_nr σ, s_nt σ + 1, σ.1.2.2.2), σ.2.1, (va_up (s_mk σ) (s_nt σ) (n_of p), σ.2.2.1.2), σ.2.2.2)) else σ
-- byteOf
def a_byteOf (σ : St) (t b : Int32) : Bool := fIn t (s_nt σ) && fIn b 256 && decide (s_ln σ (n_of t) ≠ 1000)
def n_byteOf (σ : St) (t b : Int32) : St := if a_byteOf σ t b then (σ.1, σ.2.1, (s_mk σ, va_up (s_ln σ) (n_of t) (s_ln σ (n_of t) + 1), f2 (s_by σ) (n_of t) (s_ln σ (n_of t)) (n_of b), σ.2.2.1.2.2.2), σ.2.2.2) else σ
-- sign
def s_rl (σ : St) (p m : Nat) (x : Int64) : Nat → Bool
  | 0 => false
  | n + 1 => s_rl σ p m x n || (decide (s_rp σ n = p) && decide (s_rk σ n = m) && decide (s_rf σ n ≤ x) && decide (x ≤ s_rt σ n))
def s_ob (σ : St) (t m : Nat) : Nat → Bool
  | 0 => false
  | n + 1 => s_ob σ t m n || (s_bh σ m n && !s_hs σ t n none (s_ns σ))
/-- none: thrown -/
def a_sign (σ : St) (t p m : Int32) (x : Int64) : Option Int32 :=
  if !(fIn t (s_nt σ) && fIn p (s_np σ) && fIn m 10) then some (-1)
  else if !(isSec x && decide (s_ck σ ≤ x)) then some (-3)
  else if !s_rl σ (n_of p) (n_of m) x (s_nr σ) then none
  else if s_mk σ (n_of t) = n_of p then some (-4)
  else if s_ob σ (n_of t) (n_of m) 10 then some (-5)
  else if s_hs σ (n_of t) (n_of m) (some (n_of p)) (s_ns σ) then some (-6)
  else if s_ns σ = 400 then some (-2)
  else some (nI (s_ns σ))
def k_sign (σ : St) (t p m : Int32) (x : Int64) : Bool := fIn t (s_nt σ) && fIn p (s_np σ) && fIn m 10 && isSec x && decide (s_ck σ ≤ x) && s_rl σ (n_of p) (n_of m) x (s_nr σ) && decide (s_mk σ (n_of t) ≠ n_of p) && !s_ob σ (n_of t) (n_of m) 10 && !s_hs σ (n_of t) (n_of m) (some (n_of p)) (s_ns σ) && decide (s_ns σ ≠ 400)
def m_sign (σ : St) (t p m : Nat) (x : Int64) : St := ((s_np σ, s_nr σ, s_nt σ, s_ns σ + 1, s_nw σ, x), σ.2.1, σ.2.2.1, (va_up (s_st σ) (s_ns σ) t, va_up (s_sp σ) (s_ns σ) p, va_up (s_sm σ) (s_ns σ) m, va_up (s_sw σ) (s_ns σ) (s_dg σ t), σ.2.2.2.1.2.2.2.2), s_bh σ)
def n_sign (σ : St) (t p m : Int32) (x : Int64) : St := if k_sign σ t p m x then m_sign σ (n_of t) (n_of p) (n_of m) x else σ
-- holds
def a_holds (σ : St) (i : Int32) : Bool := fIn i (s_ns σ) && s_sd σ (n_of i)
-- withdraw
def a_withdraw (σ : St) (i : Int32) : Bool := fIn i (s_ns σ) && !s_sg σ (n_of i)
def n_withdraw (σ : St) (i : Int32) : St := if a_withdraw σ i then ((s_np σ, s_nr σ, s_nt σ, s_ns σ, s_nw σ + 1, s_ck σ), σ.2.1, σ.2.2.1, (s_st σ, s_sp σ, s_sm σ, s_sw σ, va_up (s_sg σ) (n_of i) true, va_up (s_wl σ) (s_nw σ) (n_of i)), s_bh σ) else σ
-- order
def anyj (f : Nat → Bool) : Nat → Bool
  | 0 => false
  | n + 1 => anyj f n || f n
def cmx (bh : Nat → Nat → Bool) : Nat → Nat → Nat → Bool
  | 0, m, b => bh m b
  | k + 1, m, b => bh m b || anyj (fun j => bh m j && cmx bh k j b) 10
def a_order (σ : St) (m a : Int32) : Bool := fIn m 10 && fIn a 10 && decide (m ≠ a) && !s_bh σ (n_of m) (n_of a) && !cmx (s_bh σ) 10 (n_of a) (n_of m)
def n_order (σ : St) (m a : Int32) : St := if a_order σ m a then (σ.1, σ.2.1, σ.2.2.1, σ.2.2.2.1, f2 (s_bh σ) (n_of m) (n_of a) true) else σ
-- complete
def s_cp (σ : St) (t : Nat) : Nat → Nat → Int32
  | 0, _ => 0
  | n + 1, k => if s_hs σ t (s_nd σ t k) none (s_ns σ) then s_cp σ t n (k + 1) else nI (1 + k)
def a_complete (σ : St) (t : Int32) : Int32 := if fIn t (s_nt σ) then s_cp σ (n_of t) (s_dn σ (n_of t)) 0 else -1
-- comment
def a_comment (σ : St) (t u : Int32) (x : Int64) : Bool := fIn t (s_nt σ) && fIn u 256 && isSec x && decide (s_ck σ ≤ x) && decide (s_cn σ (n_of t) ≠ 200)
def n_comment (σ : St) (t u : Int32) (x : Int64) : St := if a_comment σ t u x then ((s_np σ, s_nr σ, s_nt σ, s_ns σ, s_nw σ, x), σ.2.1, (s_mk σ, s_ln σ, s_by σ, va_up (s_cn σ) (n_of t) (s_cn σ (n_of t) + 1), f2 (s_cm σ) (n_of t) (s_cn σ (n_of t)) (n_of u), σ.2.2.1.2.2.2.2.2), σ.2.2.2) else σ
-- digest
def a_digest (σ : St) (t i : Int32) : Int32 := if fIn t (s_nt σ) && fIn i (32 + s_cn σ (n_of t)) then (if n_of i < 32 then ush (s_dg σ (n_of t) (n_of i / 4)) (nI (24 - 8 * (n_of i % 4))) &&& 255 else nI (s_cm σ (n_of t) (n_of i - 32))) else -1
-- listed
def a_listed (σ : St) (k : Int32) : Int32 := if fIn k (s_nw σ) then nI (s_wl σ (n_of k)) else -1
-- needs
def s_nf (σ : St) (t m : Nat) : Nat → Nat → Nat
  | 0, k => k
  | n + 1, k => if s_nd σ t k = m then k else s_nf σ t m n (k + 1)
def a_needs (σ : St) (t m : Int32) : Int32 := if fIn t (s_nt σ) && fIn m 10 then nI (s_nf σ (n_of t) (n_of m) (s_dn σ (n_of t)) 0) else -1
def n_needs (σ : St) (t m : Int32) : St := if fIn t (s_nt σ) && fIn m 10 && decide (s_nf σ (n_of t) (n_of m) (s_dn σ (n_of t)) 0 = s_dn σ (n_of t)) then (σ.1, σ.2.1, (s_mk σ, s_ln σ, s_by σ, s_cn σ, s_cm σ, va_up (s_dn σ) (n_of t) (s_dn σ (n_of t) + 1), f2 (s_nd σ) (n_of t) (s_dn σ (n_of t)) (n_of m)), σ.2.2.2) else σ
/-- what every state that calls lead to keeps -/
def Inv (σ : St) : Prop :=
  (s_np σ ≤ 24 ∧ s_nr σ ≤ 100 ∧ s_nt σ ≤ 16 ∧ s_ns σ ≤ 400 ∧ s_nw σ = fb_ct (s_sg σ) (s_ns σ) ∧ 0 ≤ s_ck σ ∧ s_ck σ ≤ cLAST) ∧
  (∀ i, i < s_nr σ → s_rp σ i < 24 ∧ s_rk σ i < 10) ∧
  (∀ t, s_ln σ t ≤ 1000 ∧ s_cn σ t ≤ 200 ∧ s_dn σ t ≤ 10 ∧ s_mk σ t < 24 ∧ (s_nt σ ≤ t → s_ln σ t = 0 ∧ s_cn σ t = 0 ∧ s_dn σ t = 0)) ∧
  (∀ t j, s_by σ t j < 256 ∧ s_cm σ t j < 256 ∧ s_nd σ t j < 10) ∧
  (∀ t i j, i < j → j < s_dn σ t → s_nd σ t i ≠ s_nd σ t j) ∧
  (∀ i, i < s_ns σ → s_st σ i < s_nt σ ∧ s_sp σ i < 24 ∧ s_sm σ i < 10) ∧
  (∀ i, s_ns σ ≤ i → s_sg σ i = false) ∧ (∀ j, s_wl σ j < 400) ∧
  (∀ m, m < 10 → ∀ k, cmx (s_bh σ) k m m = false)
end
section
/-! the class's cells and the reference's, for a state: labels 0 .. 17 are the class's, 20 and 32 .. 61 the reference's, 70 the law's own -/
abbrev oSR (σ : St) (w : FW) : FE := oO 4 [.int (nI (s_np σ)), .ref (w.1 1 0), .int (nI (s_nr σ)), .ref (w.1 2 0), .int (nI (s_nt σ)), .ref (w.1 3 0), .int (nI (s_ns σ)), .ref (w.1 4 0), .int (nI (s_nw σ)), .ref (w.1 5 0), .ref (w.1 6 0), .long (s_ck σ), .ref (w.1 7 0)]
abbrev oRo (σ : St) (i : Nat) : FE := oO 0 [.int (nI (s_rp σ i)), .int (nI (s_rk σ i)), .long (s_rf σ i), .long (s_rt σ i)]
abbrev oTh (σ : St) (w : FW) (t : Nat) (z : Bool) : FE := oO 3 [.int (nI (s_mk σ t)), .ref (w.1 12 t), .int (nI (s_ln σ t)), .ref (w.1 13 t), .int (b2i z), .ref (w.1 14 t), .int (nI (s_cn σ t)), .ref (w.1 15 t), .int (nI (s_dn σ t))]
abbrev oSg (σ : St) (w : FW) (i : Nat) : FE := oO 2 [.ref (w.1 11 (s_st σ i)), .int (nI (s_sp σ i)), .int (nI (s_sm σ i)), .ref (w.1 17 i), .int (b2i (s_sg σ i))]
def Rc0 (σ : St) (w : FW) : Prop := w.2 0 0 = some (oSR σ w)
def RcR (σ : St) (w : FW) : Prop := ∃ f, w.2 1 0 = some (aR 4 100 f) ∧ (∀ i, i < s_nr σ → f i = some (w.1 10 i) ∧ w.2 10 i = some (oRo σ i)) ∧ ∀ i, s_nr σ ≤ i → w.2 10 i = none
def Th (σ : St) (w : FW) (t : Nat) : Prop := ∃ (b d c n : Nat → Int32) (z : Bool), w.2 11 t = some (oTh σ w t z) ∧ w.2 12 t = some (aI 0 1000 b) ∧ w.2 13 t = some (aI 1 8 d) ∧ w.2 14 t = some (aI 0 200 c) ∧ w.2 15 t = some (aI 1 10 n) ∧
  (∀ j, j < s_ln σ t → b j &&& 255 = nI (s_by σ t j)) ∧ (∀ j, j < s_cn σ t → c j &&& 255 = nI (s_cm σ t j)) ∧ (∀ j, j < s_dn σ t → n j = nI (s_nd σ t j)) ∧ (z = false → ∀ j, j < 8 → d j = s_dg σ t j)
def RcT (σ : St) (w : FW) : Prop := (∃ f, w.2 2 0 = some (aR 6 16 f) ∧ ∀ t, t < s_nt σ → f t = some (w.1 11 t)) ∧ (∀ t, t < s_nt σ → Th σ w t) ∧ ∀ t, s_nt σ ≤ t → w.2 11 t = none ∧ w.2 12 t = none ∧ w.2 13 t = none ∧ w.2 14 t = none ∧ w.2 15 t = none
def Sg (σ : St) (w : FW) (i : Nat) : Prop := w.2 16 i = some (oSg σ w i) ∧ ∃ d, w.2 17 i = some (aI 1 8 d) ∧ ∀ j, j < 8 → d j = s_sw σ i j
def RcS (σ : St) (w : FW) : Prop := (∃ f, w.2 3 0 = some (aR 5 400 f) ∧ ∀ i, i < s_ns σ → f i = some (w.1 16 i)) ∧ (∀ i, i < s_ns σ → Sg σ w i) ∧ ∀ i, s_ns σ ≤ i → w.2 16 i = none ∧ w.2 17 i = none
def RcW (σ : St) (w : FW) : Prop := ∃ f, w.2 4 0 = some (aI 1 400 f) ∧ ∀ j, j < s_nw σ → f j = nI (s_wl σ j)
def RcO (σ : St) (w : FW) : Prop := ∃ tb eb, w.2 5 0 = some (aI 1 10 tb) ∧ w.2 6 0 = some (aI 1 10 eb) ∧ (∀ m, m < 10 → tb m = msk (s_bh σ m) 10) ∧ ∀ m, m < 10 → eb m = msk (fun b => cmx (s_bh σ) 10 m b) 10
def RcH (w : FW) : Prop := w.2 7 0 = some (oO 1 [.ref (w.1 8 0), .ref (w.1 9 0)]) ∧ (∃ a, w.2 8 0 = some (aI 1 8 a)) ∧ ∃ a, w.2 9 0 = some (aI 1 64 a)
def Rc (σ : St) (w : FW) : Prop := Rc0 σ w ∧ RcR σ w ∧ RcT σ w ∧ RcS σ w ∧ RcW σ w ∧ RcO σ w ∧ RcH w
/-- what a call of the class leaves to others -/
def fr (w w1 : FW) : Prop := (∀ k i, w.2 k i ≠ none → w1.2 k i ≠ none ∧ w1.1 k i = w.1 k i) ∧ ∀ k i, 20 ≤ k → w1.2 k i = w.2 k i
theorem fr_rf (w : FW) : fr w w := ⟨fun _ _ h => ⟨h, rfl⟩, fun _ _ _ => rfl⟩
theorem fr_tr {a b c : FW} (h1 : fr a b) (h2 : fr b c) : fr a c := ⟨fun k i h => by
  obtain ⟨x1, x2⟩ := h1.1 k i h
  obtain ⟨y1, y2⟩ := h2.1 k i x1
  exact ⟨y1, y2.trans x2⟩, fun k i h => (h2.2 k i h).trans (h1.2 k i h)⟩
theorem fr_set {w : FW} {k i : Nat} {e : FE} (hk : k < 20) : fr w (fset w k i e) := by
  refine ⟨fun k' i' h => ⟨?_, rfl⟩, fun k' i' h => ?_⟩
  · show f2 w.2 k i (some e) k' i' ≠ none
    unfold f2
    split
    · split
      · exact fun h => by cases h
      · exact h
    · exact h
  · exact f2_k (by omega)
theorem fr_new {w : FW} {k i q : Nat} {e : FE} (hk : k < 20) (hn : w.2 k i = none) : fr w (fnew w k i e q) := by
  refine ⟨fun k' i' h => ?_, fun k' i' h => ?_⟩
  · have hne : ¬ (k' = k ∧ i' = i) := by
      rintro ⟨rfl, rfl⟩
      exact h hn
    show f2 w.2 k i (some e) k' i' ≠ none ∧ f2 w.1 k i q k' i' = w.1 k' i'
    by_cases ha : k' = k
    · have hb : i' ≠ i := fun h => hne ⟨ha, h⟩
      rw [f2_i hb, f2_i hb]
      exact ⟨h, rfl⟩
    · rw [f2_k ha, f2_k ha]
      exact ⟨h, rfl⟩
  · exact f2_k (by omega)
abbrev oMo (σ : St) (w : FW) (th : Int32) (z : Bool) : FE := oO 5 [.int (nI (s_np σ)), .int (nI (s_nr σ)), .ref (w.1 32 0), .ref (w.1 33 0), .ref (w.1 34 0), .ref (w.1 35 0), .int (nI (s_nt σ)), .ref (w.1 37 0), .ref (w.1 38 0), .ref (w.1 39 0), .ref (w.1 40 0), .ref (w.1 41 0), .ref (w.1 42 0), .ref (w.1 43 0), .ref (w.1 44 0), .int (nI (s_ns σ)), .ref (w.1 46 0), .ref (w.1 47 0), .ref (w.1 48 0), .ref (w.1 49 0), .ref (w.1 50 0), .int (nI (s_nw σ)), .ref (w.1 52 0), .ref (w.1 53 0), .long (s_ck σ), .int th, .int (b2i z), .ref (w.1 57 0), .ref (w.1 58 0), .ref (w.1 59 0), .ref (w.1 60 0), .ref (w.1 61 0)]
def RmA (σ : St) (w : FW) : Prop := (∃ f, w.2 32 0 = some (aI 1 100 f) ∧ ∀ i, i < s_nr σ → f i = nI (s_rp σ i)) ∧ (∃ f, w.2 33 0 = some (aI 1 100 f) ∧ ∀ i, i < s_nr σ → f i = nI (s_rk σ i)) ∧ (∃ f, w.2 34 0 = some (aL 100 f) ∧ ∀ i, i < s_nr σ → f i = s_rf σ i) ∧ (∃ f, w.2 35 0 = some (aL 100 f) ∧ ∀ i, i < s_nr σ → f i = s_rt σ i)
def RmT (σ : St) (w : FW) : Prop := (∃ f, w.2 37 0 = some (aI 1 16 f) ∧ ∀ t, t < s_nt σ → f t = nI (s_mk σ t)) ∧ (∃ f, w.2 38 0 = some (aI 1 16 f) ∧ ∀ t, t < 16 → f t = nI (s_ln σ t)) ∧ (∃ f, w.2 39 0 = some (aI 1 128 f) ∧ ∀ t, t < s_nt σ → ∀ j, j < 8 → f (8 * t + j) = s_dg σ t j) ∧ (∃ f, w.2 40 0 = some (aI 1 16000 f) ∧ ∀ t, t < 16 → ∀ j, j < s_ln σ t → f (1000 * t + j) = nI (s_by σ t j)) ∧ (∃ f, w.2 41 0 = some (aI 1 16 f) ∧ ∀ t, t < 16 → f t = nI (s_cn σ t)) ∧ (∃ f, w.2 42 0 = some (aI 1 3200 f) ∧ ∀ t, t < 16 → ∀ j, j < s_cn σ t → f (200 * t + j) = nI (s_cm σ t j)) ∧ (∃ f, w.2 43 0 = some (aI 1 16 f) ∧ ∀ t, t < 16 → f t = nI (s_dn σ t)) ∧ (∃ f, w.2 44 0 = some (aI 1 160 f) ∧ ∀ t, t < 16 → ∀ j, j < s_dn σ t → f (10 * t + j) = nI (s_nd σ t j))
def RmS (σ : St) (w : FW) : Prop := (∃ f, w.2 46 0 = some (aI 1 400 f) ∧ ∀ i, i < s_ns σ → f i = nI (s_st σ i)) ∧ (∃ f, w.2 47 0 = some (aI 1 400 f) ∧ ∀ i, i < s_ns σ → f i = nI (s_sp σ i)) ∧ (∃ f, w.2 48 0 = some (aI 1 400 f) ∧ ∀ i, i < s_ns σ → f i = nI (s_sm σ i)) ∧ (∃ f, w.2 49 0 = some (aI 1 3200 f) ∧ ∀ i, i < s_ns σ → ∀ j, j < 8 → f (8 * i + j) = s_sw σ i j) ∧ (∃ f, w.2 50 0 = some (aI 3 400 f) ∧ ∀ i, i < 400 → f i = b2i (s_sg σ i)) ∧ (∃ f, w.2 52 0 = some (aI 1 400 f) ∧ ∀ j, j < s_nw σ → f j = nI (s_wl σ j))
def RmO (σ : St) (w : FW) : Prop := ∃ f, w.2 53 0 = some (aI 3 100 f) ∧ ∀ m, m < 10 → ∀ a, a < 10 → f (10 * m + a) = b2i (s_bh σ m a)
def RmH (z : Bool) (w : FW) : Prop := (∃ f, w.2 57 0 = some (aI 1 64 f) ∧ (z = true → ∀ j, j < 64 → f j = shK j)) ∧ (∃ f, w.2 58 0 = some (aI 1 8 f) ∧ (z = true → ∀ j, j < 8 → f j = shH j)) ∧ (∃ f, w.2 59 0 = some (aI 1 64 f)) ∧ (∃ f, w.2 60 0 = some (aI 1 8 f)) ∧ (∃ f, w.2 61 0 = some (aI 1 8 f))
def Rm (σ : St) (th : Int32) (w : FW) : Prop := ∃ z, w.2 20 0 = some (oMo σ w th z) ∧ RmA σ w ∧ RmT σ w ∧ RmS σ w ∧ RmO σ w ∧ RmH z w
/-- what a call of the reference leaves to others -/
def frm (w w1 : FW) : Prop := w1.1 = w.1 ∧ ∀ k i, k < 20 ∨ 62 ≤ k → w1.2 k i = w.2 k i
theorem frm_rf (w : FW) : frm w w := ⟨rfl, fun _ _ _ => rfl⟩
theorem frm_tr {a b c : FW} (h1 : frm a b) (h2 : frm b c) : frm a c := ⟨h2.1.trans h1.1, fun k i h => (h2.2 k i h).trans (h1.2 k i h)⟩
theorem frm_set {w : FW} {k i : Nat} {e : FE} (hk : 20 ≤ k ∧ k < 62) : frm w (fset w k i e) := ⟨rfl, fun k' i' h => f2_k (by omega)⟩
end
section
set_option maxHeartbeats 4000000 in
set_option maxRecDepth 100000 in
theorem k_X4_isPerson (l : Launch) (Γ : FG) (w : FW) (σ : St) (x : Int32) (hI : s_np σ ≤ 24) (h0 : Rc0 σ w) : Met l yX4_isPerson (ws_ yX4_isPerson cX4_isPerson 2 (some .boolean)) (rmD 0 0 0) (va_Pc [.ref (w.1 0 0), .int x] (fI Γ w)) (va_Qi (fun r w1 => r = b2i (fIn x (s_np σ)) ∧ w1 = w) (fI Γ) (fA Γ)) 0 0 (fA Γ) := by
  refine fw_met (by decide) (Nat.le_of_ble_eq_true rfl) ?_
  intro p e s m below meth c ls C hP hS hr hlk hin hl
  have C : fC p s m [.ref (w.1 0 0), .int x].toArray c cX4_isPerson 2 RX4 Γ := C
  have hx := C.1.1
  have hb := C.1.2.1
  have hl : lv_has ls 2 [(0, .ref (w.1 0 0)), (1, .int x)] := hl
  refine lv_iload_n hx hb dX4_isPerson_0 rfl (lv_at hl 1 rfl) ?_
  refine lv_if_lt (tgt := 16) hx hb dX4_isPerson_1 (by decide) (fun c_1 => ?_) (fun c_1 => ?_)
  · refine lv_iconst (v := nI 0) hx hb dX4_isPerson_16 (by decide) ?_
    exact fw_reti C hr hlk rfl hP hS (⟨b2i_f (fIn_lt c_1), rfl⟩) (Nat.le_of_ble_eq_true rfl) (Nat.le_of_ble_eq_true rfl) dX4_isPerson_17
  · refine lv_iload_n hx hb dX4_isPerson_4 rfl (lv_at hl 1 rfl) ?_
    refine lv_aload_n hx hb dX4_isPerson_5 rfl (lv_at hl 0 rfl) ?_
    refine gf_X4_44 C hP h0 rfl rfl dX4_isPerson_6 ?_
    refine lv_icmp_ge (tgt := 16) hx hb dX4_isPerson_9 (by decide) (fun c_9 => ?_) (fun c_9 => ?_)
    · refine lv_iconst (v := nI 0) hx hb dX4_isPerson_16 (by decide) ?_
      exact fw_reti C hr hlk rfl hP hS (⟨b2i_f (fIn_ge (by omega) c_9), rfl⟩) (Nat.le_of_ble_eq_true rfl) (Nat.le_of_ble_eq_true rfl) dX4_isPerson_17
    · refine lv_iconst (v := nI 1) hx hb dX4_isPerson_12 (by decide) ?_
      refine lv_goto (tgt := 17) hx hb dX4_isPerson_13 (by decide) ?_
      exact fw_reti C hr hlk rfl hP hS (⟨b2i_t (fIn_in (by omega) c_1 c_9), rfl⟩) (Nat.le_of_ble_eq_true rfl) (Nat.le_of_ble_eq_true rfl) dX4_isPerson_17
set_option maxHeartbeats 4000000 in
set_option maxRecDepth 100000 in
theorem k_X4_isMeaning (l : Launch) (Γ : FG) (w : FW) (x : Int32) : Met l yX4_isMeaning (ws_ yX4_isMeaning cX4_isMeaning 1 (some .boolean)) (rmD 0 0 0) (va_Pc [.int x] (fI Γ w)) (va_Qi (fun r w1 => r = b2i (fIn x 10) ∧ w1 = w) (fI Γ) (fA Γ)) 0 0 (fA Γ) := by
  refine fw_met (by decide) (Nat.le_of_ble_eq_true rfl) ?_
  intro p e s m below meth c ls C hP hS hr hlk hin hl
  have C : fC p s m [.int x].toArray c cX4_isMeaning 1 RX4 Γ := C
  have hx := C.1.1
  have hb := C.1.2.1
  have hl : lv_has ls 1 [(0, .int x)] := hl
  refine lv_iload_n hx hb dX4_isMeaning_0 rfl (lv_at hl 0 rfl) ?_
  refine lv_if_lt (tgt := 14) hx hb dX4_isMeaning_1 (by decide) (fun c_1 => ?_) (fun c_1 => ?_)
  · refine lv_iconst (v := nI 0) hx hb dX4_isMeaning_14 (by decide) ?_
    exact fw_reti C hr hlk rfl hP hS (⟨b2i_f (fIn_lt c_1), rfl⟩) (Nat.le_of_ble_eq_true rfl) (Nat.le_of_ble_eq_true rfl) dX4_isMeaning_15
  · refine lv_iload_n hx hb dX4_isMeaning_4 rfl (lv_at hl 0 rfl) ?_
    refine lv_bipush (v := nI 10) hx hb dX4_isMeaning_5 (by decide) ?_
    refine lv_icmp_ge (tgt := 14) hx hb dX4_isMeaning_7 (by decide) (fun c_7 => ?_) (fun c_7 => ?_)
    · refine lv_iconst (v := nI 0) hx hb dX4_isMeaning_14 (by decide) ?_
      exact fw_reti C hr hlk rfl hP hS (⟨b2i_f (fIn_ge (by decide) c_7), rfl⟩) (Nat.le_of_ble_eq_true rfl) (Nat.le_of_ble_eq_true rfl) dX4_isMeaning_15
    · refine lv_iconst (v := nI 1) hx hb dX4_isMeaning_10 (by decide) ?_
      refine lv_goto (tgt := 15) hx hb dX4_isMeaning_11 (by decide) ?_
      exact fw_reti C hr hlk rfl hP hS (⟨b2i_t (fIn_in (by decide) c_1 c_7), rfl⟩) (Nat.le_of_ble_eq_true rfl) (Nat.le_of_ble_eq_true rfl) dX4_isMeaning_15
theorem fa_lt255 {x : Int32} (h : nI 256 ≤ x) : nI 255 < x := by
  have h1 := Int32.le_iff_toInt_le.mp h
  rw [nI_toInt (by omega)] at h1
  exact Int32.lt_iff_toInt_lt.mpr (by rw [nI_toInt (by omega)]; omega)
theorem fa_ge256 {x : Int32} (h : nI 255 < x) : nI 256 ≤ x := by
  have h1 := Int32.lt_iff_toInt_lt.mp h
  rw [nI_toInt (by omega)] at h1
  exact Int32.le_iff_toInt_le.mpr (by rw [nI_toInt (by omega)]; omega)
set_option maxHeartbeats 4000000 in
set_option maxRecDepth 100000 in
theorem k_X4_isByte (l : Launch) (Γ : FG) (w : FW) (x : Int32) : Met l yX4_isByte (ws_ yX4_isByte cX4_isByte 1 (some .boolean)) (rmD 0 0 0) (va_Pc [.int x] (fI Γ w)) (va_Qi (fun r w1 => r = b2i (fIn x 256) ∧ w1 = w) (fI Γ) (fA Γ)) 0 0 (fA Γ) := by
  refine fw_met (by decide) (Nat.le_of_ble_eq_true rfl) ?_
  intro p e s m below meth c ls C hP hS hr hlk hin hl
  have C : fC p s m [.int x].toArray c cX4_isByte 1 RX4 Γ := C
  have hx := C.1.1
  have hb := C.1.2.1
  have hl : lv_has ls 1 [(0, .int x)] := hl
  refine lv_iload_n hx hb dX4_isByte_0 rfl (lv_at hl 0 rfl) ?_
  refine lv_if_lt (tgt := 15) hx hb dX4_isByte_1 (by decide) (fun c_1 => ?_) (fun c_1 => ?_)
  · refine lv_iconst (v := nI 0) hx hb dX4_isByte_15 (by decide) ?_
    exact fw_reti C hr hlk rfl hP hS (⟨b2i_f (fIn_lt c_1), rfl⟩) (Nat.le_of_ble_eq_true rfl) (Nat.le_of_ble_eq_true rfl) dX4_isByte_16
  · refine lv_iload_n hx hb dX4_isByte_4 rfl (lv_at hl 0 rfl) ?_
    refine lv_sipush (v := nI 255) hx hb dX4_isByte_5 (by decide) ?_
    refine lv_icmp_gt (tgt := 15) hx hb dX4_isByte_8 (by decide) (fun c_8 => ?_) (fun c_8 => ?_)
    · refine lv_iconst (v := nI 0) hx hb dX4_isByte_15 (by decide) ?_
      exact fw_reti C hr hlk rfl hP hS (⟨b2i_f (fIn_ge (by decide) (fa_ge256 c_8)), rfl⟩) (Nat.le_of_ble_eq_true rfl) (Nat.le_of_ble_eq_true rfl) dX4_isByte_16
    · refine lv_iconst (v := nI 1) hx hb dX4_isByte_11 (by decide) ?_
      refine lv_goto (tgt := 16) hx hb dX4_isByte_12 (by decide) ?_
      exact fw_reti C hr hlk rfl hP hS (⟨b2i_t (fIn_in (by decide) c_1 (fun q => c_8 (fa_lt255 q))), rfl⟩) (Nat.le_of_ble_eq_true rfl) (Nat.le_of_ble_eq_true rfl) dX4_isByte_16
set_option maxHeartbeats 4000000 in
set_option maxRecDepth 100000 in
theorem k_X4_isLate (l : Launch) (Γ : FG) (w : FW) (σ : St) (x : Int64) (h0 : Rc0 σ w) : Met l yX4_isLate (ws_ yX4_isLate cX4_isLate 3 (some .boolean)) (rmD 0 0 0) (va_Pc [.ref (w.1 0 0), .long x] (fI Γ w)) (va_Qi (fun r w1 => r = b2i (decide (x < s_ck σ) || decide (cLAST < x)) ∧ w1 = w) (fI Γ) (fA Γ)) 0 0 (fA Γ) := by
  refine fw_met (by decide) (Nat.le_of_ble_eq_true rfl) ?_
  intro p e s m below meth c ls C hP hS hr hlk hin hl
  have C : fC p s m [.ref (w.1 0 0), .long x].toArray c cX4_isLate 3 RX4 Γ := C
  have hx := C.1.1
  have hb := C.1.2.1
  have hl : lv_has ls 3 [(0, .ref (w.1 0 0)), (1, .long x)] := hl
  refine lv_lload_n hx hb dX4_isLate_0 rfl (lv_at hl 1 rfl) ?_
  refine lv_aload_n hx hb dX4_isLate_1 rfl (lv_at hl 0 rfl) ?_
  refine gf_X4_130 C hP h0 rfl rfl dX4_isLate_2 ?_
  refine W.lcmp hx hb dX4_isLate_5 ?_
  refine fw_llt (tgt := 17) hx hb dX4_isLate_6 (by decide) (fun c_6 => ?_) (fun c_6 => ?_)
  · refine lv_iconst (v := nI 1) hx hb dX4_isLate_17 (by decide) ?_
    refine lv_goto (tgt := 22) hx hb dX4_isLate_18 (by decide) ?_
    exact fw_reti C hr hlk rfl hP hS (⟨b2i_t (by rw [decide_eq_true c_6, Bool.true_or]), rfl⟩) (Nat.le_of_ble_eq_true rfl) (Nat.le_of_ble_eq_true rfl) dX4_isLate_22
  · refine lv_lload_n hx hb dX4_isLate_9 rfl (lv_at hl 1 rfl) ?_
    refine lv_ldc2 hx hb C.1.2.2.2.1 (C.1.2.2.2.2 _ qk_X4_55) dX4_isLate_10 ?_
    refine W.lcmp hx hb dX4_isLate_13 ?_
    refine fw_lle (tgt := 21) hx hb dX4_isLate_14 (by decide) (fun c_14 => ?_) (fun c_14 => ?_)
    · refine lv_iconst (v := nI 0) hx hb dX4_isLate_21 (by decide) ?_
      exact fw_reti C hr hlk rfl hP hS (⟨b2i_f (by rw [decide_eq_false c_6, decide_eq_false (Int64.not_lt.mpr c_14)]; rfl), rfl⟩) (Nat.le_of_ble_eq_true rfl) (Nat.le_of_ble_eq_true rfl) dX4_isLate_22
    · refine lv_iconst (v := nI 1) hx hb dX4_isLate_17 (by decide) ?_
      refine lv_goto (tgt := 22) hx hb dX4_isLate_18 (by decide) ?_
      exact fw_reti C hr hlk rfl hP hS (⟨b2i_t (by rw [decide_eq_true (Int64.not_le.mp c_14), Bool.or_true]), rfl⟩) (Nat.le_of_ble_eq_true rfl) (Nat.le_of_ble_eq_true rfl) dX4_isLate_22
set_option maxHeartbeats 4000000 in
set_option maxRecDepth 100000 in
theorem k_X4_hasBit (l : Launch) (Γ : FG) (w : FW) (x y : Int32) : Met l yX4_hasBit (ws_ yX4_hasBit cX4_hasBit 2 (some .boolean)) (rmD 0 0 0) (va_Pc [.int x, .int y] (fI Γ w)) (va_Qi (fun r w1 => r = b2i (hbt x y) ∧ w1 = w) (fI Γ) (fA Γ)) 0 0 (fA Γ) := by
  refine fw_met (by decide) (Nat.le_of_ble_eq_true rfl) ?_
  intro p e s m below meth c ls C hP hS hr hlk hin hl
  have C : fC p s m [.int x, .int y].toArray c cX4_hasBit 2 RX4 Γ := C
  have hx := C.1.1
  have hb := C.1.2.1
  have hl : lv_has ls 2 [(0, .int x), (1, .int y)] := hl
  refine lv_iload_n hx hb dX4_hasBit_0 rfl (lv_at hl 0 rfl) ?_
  refine lv_iload_n hx hb dX4_hasBit_1 rfl (lv_at hl 1 rfl) ?_
  refine lv_iushr (v := ush x y) hx hb dX4_hasBit_2 rfl ?_
  refine lv_iconst (v := nI 1) hx hb dX4_hasBit_3 (by decide) ?_
  refine lv_iand hx hb dX4_hasBit_4 ?_
  refine lv_iconst (v := nI 1) hx hb dX4_hasBit_5 (by decide) ?_
  refine lv_icmp_ne (tgt := 13) hx hb dX4_hasBit_6 (by decide) (fun c_6 => ?_) (fun c_6 => ?_)
  · refine lv_iconst (v := nI 0) hx hb dX4_hasBit_13 (by decide) ?_
    exact fw_reti C hr hlk rfl hP hS (⟨b2i_f (decide_eq_false c_6), rfl⟩) (Nat.le_of_ble_eq_true rfl) (Nat.le_of_ble_eq_true rfl) dX4_hasBit_14
  · refine lv_iconst (v := nI 1) hx hb dX4_hasBit_9 (by decide) ?_
    refine lv_goto (tgt := 14) hx hb dX4_hasBit_10 (by decide) ?_
    exact fw_reti C hr hlk rfl hP hS (⟨b2i_t (decide_eq_true c_6), rfl⟩) (Nat.le_of_ble_eq_true rfl) (Nat.le_of_ble_eq_true rfl) dX4_hasBit_14
set_option maxHeartbeats 4000000 in
set_option maxRecDepth 100000 in
theorem k_X4_thingAt (l : Launch) (Γ : FG) (w : FW) (σ : St) (x : Int32) (hI : s_nt σ ≤ 16) (h0 : Rc0 σ w) (h2 : ∃ f, w.2 2 0 = some (aR 6 16 f) ∧ ∀ t, t < s_nt σ → f t = some (w.1 11 t)) : Met l yX4_thingAt (ws_ yX4_thingAt cX4_thingAt 2 (some (.object "SignRows$Thing"))) (rmD 0 0 0) (va_Pc [.ref (w.1 0 0), .int x] (fI Γ w)) (va_Qq (fun r w1 => r = (if fIn x (s_nt σ) then some (w.1 11 (n_of x)) else none) ∧ w1 = w) (fI Γ) (fA Γ)) 0 0 (fA Γ) := by
  refine fw_met (by decide) (Nat.le_of_ble_eq_true rfl) ?_
  intro p e s m below meth c ls C hP hS hr hlk hin hl
  have C : fC p s m [.ref (w.1 0 0), .int x].toArray c cX4_thingAt 2 RX4 Γ := C
  have hx := C.1.1
  have hb := C.1.2.1
  have hl : lv_has ls 2 [(0, .ref (w.1 0 0)), (1, .int x)] := hl
  obtain ⟨f, hf, hff⟩ := h2
  refine lv_iload_n hx hb dX4_thingAt_0 rfl (lv_at hl 1 rfl) ?_
  refine lv_if_lt (tgt := 18) hx hb dX4_thingAt_1 (by decide) (fun c_1 => ?_) (fun c_1 => ?_)
  · refine lv_null hx hb dX4_thingAt_18 ?_
    exact fw_retq (r := none) C hr (Or.inl ⟨_, rfl⟩) hlk rfl hP hS (⟨by rw [fIn_lt c_1]; rfl, rfl⟩) (Nat.le_of_ble_eq_true rfl) (Nat.le_of_ble_eq_true rfl) dX4_thingAt_19
  · refine lv_iload_n hx hb dX4_thingAt_4 rfl (lv_at hl 1 rfl) ?_
    refine lv_aload_n hx hb dX4_thingAt_5 rfl (lv_at hl 0 rfl) ?_
    refine gf_X4_63 C hP h0 rfl rfl dX4_thingAt_6 ?_
    refine lv_icmp_ge (tgt := 18) hx hb dX4_thingAt_9 (by decide) (fun c_9 => ?_) (fun c_9 => ?_)
    · refine lv_null hx hb dX4_thingAt_18 ?_
      exact fw_retq (r := none) C hr (Or.inl ⟨_, rfl⟩) hlk rfl hP hS (⟨by rw [fIn_ge (by omega) c_9]; rfl, rfl⟩) (Nat.le_of_ble_eq_true rfl) (Nat.le_of_ble_eq_true rfl) dX4_thingAt_19
    · refine lv_iload_n hx hb dX4_thingAt_12 rfl (lv_at hl 1 rfl) ?_
      refine lv_bipush (v := nI 16) hx hb dX4_thingAt_13 (by decide) ?_
      refine lv_icmp_lt (tgt := 20) hx hb dX4_thingAt_15 (by decide) (fun c_15 => ?_) (fun c_15 => ?_)
      · obtain ⟨j, hj, rfl⟩ := fIn_t (fIn_in (n := s_nt σ) (by omega) c_1 c_9) (by omega)
        refine lv_aload_n hx hb dX4_thingAt_20 rfl (lv_at hl 0 rfl) ?_
        refine gf_X4_17 C hP h0 rfl rfl dX4_thingAt_21 ?_
        refine lv_iload_n hx hb dX4_thingAt_24 rfl (lv_at hl 1 rfl) ?_
        refine fw_aald (Cn := RX3) C hP (by decide) rfl hf rfl j rfl (by omega) (by decide) (show va_rf (f j) = .ref (w.1 11 j) from (by rw [hff j (by omega)]; rfl)) dX4_thingAt_25 ?_
        exact fw_retq (r := some (w.1 11 j)) C hr (Or.inl ⟨_, rfl⟩) hlk rfl hP hS (⟨by rw [fIn_N (by omega), decide_eq_true hj, n_of_nI (by omega)]; rfl, rfl⟩) (Nat.le_of_ble_eq_true rfl) (Nat.le_of_ble_eq_true rfl) dX4_thingAt_26
      · refine lv_null hx hb dX4_thingAt_18 ?_
        exact absurd (fIn_in (n := s_nt σ) (by omega) c_1 c_9) (by rw [fIn_ge (by omega) (Int32.le_trans (nI_le hI (by omega)) (Int32.not_lt.mp c_15))]; decide)
set_option maxHeartbeats 4000000 in
set_option maxRecDepth 100000 in
theorem k_X4_signatureAt (l : Launch) (Γ : FG) (w : FW) (σ : St) (x : Int32) (hI : s_ns σ ≤ 400) (h0 : Rc0 σ w) (h2 : ∃ f, w.2 3 0 = some (aR 5 400 f) ∧ ∀ i, i < s_ns σ → f i = some (w.1 16 i)) : Met l yX4_signatureAt (ws_ yX4_signatureAt cX4_signatureAt 2 (some (.object "SignRows$Signature"))) (rmD 0 0 0) (va_Pc [.ref (w.1 0 0), .int x] (fI Γ w)) (va_Qq (fun r w1 => r = (if fIn x (s_ns σ) then some (w.1 16 (n_of x)) else none) ∧ w1 = w) (fI Γ) (fA Γ)) 0 0 (fA Γ) := by
  refine fw_met (by decide) (Nat.le_of_ble_eq_true rfl) ?_
  intro p e s m below meth c ls C hP hS hr hlk hin hl
  have C : fC p s m [.ref (w.1 0 0), .int x].toArray c cX4_signatureAt 2 RX4 Γ := C
  have hx := C.1.1
  have hb := C.1.2.1
  have hl : lv_has ls 2 [(0, .ref (w.1 0 0)), (1, .int x)] := hl
  obtain ⟨f, hf, hff⟩ := h2
  refine lv_iload_n hx hb dX4_signatureAt_0 rfl (lv_at hl 1 rfl) ?_
  refine lv_if_lt (tgt := 19) hx hb dX4_signatureAt_1 (by decide) (fun c_1 => ?_) (fun c_1 => ?_)
  · refine lv_null hx hb dX4_signatureAt_19 ?_
    exact fw_retq (r := none) C hr (Or.inl ⟨_, rfl⟩) hlk rfl hP hS (⟨by rw [fIn_lt c_1]; rfl, rfl⟩) (Nat.le_of_ble_eq_true rfl) (Nat.le_of_ble_eq_true rfl) dX4_signatureAt_20
  · refine lv_iload_n hx hb dX4_signatureAt_4 rfl (lv_at hl 1 rfl) ?_
    refine lv_aload_n hx hb dX4_signatureAt_5 rfl (lv_at hl 0 rfl) ?_
    refine gf_X4_113 C hP h0 rfl rfl dX4_signatureAt_6 ?_
    refine lv_icmp_ge (tgt := 19) hx hb dX4_signatureAt_9 (by decide) (fun c_9 => ?_) (fun c_9 => ?_)
    · refine lv_null hx hb dX4_signatureAt_19 ?_
      exact fw_retq (r := none) C hr (Or.inl ⟨_, rfl⟩) hlk rfl hP hS (⟨by rw [fIn_ge (by omega) c_9]; rfl, rfl⟩) (Nat.le_of_ble_eq_true rfl) (Nat.le_of_ble_eq_true rfl) dX4_signatureAt_20
    · refine lv_iload_n hx hb dX4_signatureAt_12 rfl (lv_at hl 1 rfl) ?_
      refine lv_sipush (v := nI 400) hx hb dX4_signatureAt_13 (by decide) ?_
      refine lv_icmp_lt (tgt := 21) hx hb dX4_signatureAt_16 (by decide) (fun c_16 => ?_) (fun c_16 => ?_)
      · obtain ⟨j, hj, rfl⟩ := fIn_t (fIn_in (n := s_ns σ) (by omega) c_1 c_9) (by omega)
        refine lv_aload_n hx hb dX4_signatureAt_21 rfl (lv_at hl 0 rfl) ?_
        refine gf_X4_23 C hP h0 rfl rfl dX4_signatureAt_22 ?_
        refine lv_iload_n hx hb dX4_signatureAt_25 rfl (lv_at hl 1 rfl) ?_
        refine fw_aald (Cn := RX2) C hP (by decide) rfl hf rfl j rfl (by omega) (by decide) (show va_rf (f j) = .ref (w.1 16 j) from (by rw [hff j (by omega)]; rfl)) dX4_signatureAt_26 ?_
        exact fw_retq (r := some (w.1 16 j)) C hr (Or.inl ⟨_, rfl⟩) hlk rfl hP hS (⟨by rw [fIn_N (by omega), decide_eq_true hj, n_of_nI (by omega)]; rfl, rfl⟩) (Nat.le_of_ble_eq_true rfl) (Nat.le_of_ble_eq_true rfl) dX4_signatureAt_27
      · refine lv_null hx hb dX4_signatureAt_19 ?_
        exact absurd (fIn_in (n := s_ns σ) (by omega) c_1 c_9) (by rw [fIn_ge (by omega) (Int32.le_trans (nI_le hI (by omega)) (Int32.not_lt.mp c_16))]; decide)
end
section
set_option maxHeartbeats 4000000 in
set_option maxRecDepth 100000 in
theorem k_X0_isHeldBy (l : Launch) (Γ : FG) (w : FW) (σ : St) (i a b : Nat) (x : Int64) (ha : a < 2 ^ 31) (hb0 : b < 2 ^ 31) (hI : s_rp σ i < 24 ∧ s_rk σ i < 10) (h0 : w.2 10 i = some (oRo σ i)) : Met l yX0_isHeldBy (ws_ yX0_isHeldBy cX0_isHeldBy 5 (some .boolean)) (rmD 0 0 0) (va_Pc [.ref (w.1 10 i), .int (nI a), .int (nI b), .long x] (fI Γ w)) (va_Qi (fun r w1 => r = b2i (decide (s_rp σ i = a) && decide (s_rk σ i = b) && decide (s_rf σ i ≤ x) && decide (x ≤ s_rt σ i)) ∧ w1 = w) (fI Γ) (fA Γ)) 0 0 (fA Γ) := by
  refine fw_met (by decide) (Nat.le_of_ble_eq_true rfl) ?_
  intro p e s m below meth c ls C hP hS hr hlk hin hl
  have C : fC p s m [.ref (w.1 10 i), .int (nI a), .int (nI b), .long x].toArray c cX0_isHeldBy 5 RX0 Γ := C
  have hx := C.1.1
  have hb := C.1.2.1
  have hl : lv_has ls 5 [(0, .ref (w.1 10 i)), (1, .int (nI a)), (2, .int (nI b)), (3, .long x)] := hl
  refine lv_aload_n hx hb dX0_isHeldBy_0 rfl (lv_at hl 0 rfl) ?_
  refine gf_X0_7 C hP h0 rfl rfl dX0_isHeldBy_1 ?_
  refine lv_iload_n hx hb dX0_isHeldBy_4 rfl (lv_at hl 1 rfl) ?_
  refine fw_neN (tgt := 38) hx hb (by omega) (by omega) dX0_isHeldBy_5 (by decide) (fun c_5 => ?_) (fun c_5 => ?_)
  · refine lv_iconst (v := nI 0) hx hb dX0_isHeldBy_38 (by decide) ?_
    exact fw_reti C hr hlk rfl hP hS (⟨b2i_f (by rw [decide_eq_false c_5]; rfl), rfl⟩) (Nat.le_of_ble_eq_true rfl) (Nat.le_of_ble_eq_true rfl) dX0_isHeldBy_39
  · refine lv_aload_n hx hb dX0_isHeldBy_8 rfl (lv_at hl 0 rfl) ?_
    refine gf_X0_13 C hP h0 rfl rfl dX0_isHeldBy_9 ?_
    refine lv_iload_n hx hb dX0_isHeldBy_12 rfl (lv_at hl 2 rfl) ?_
    refine fw_neN (tgt := 38) hx hb (by omega) (by omega) dX0_isHeldBy_13 (by decide) (fun c_13 => ?_) (fun c_13 => ?_)
    · refine lv_iconst (v := nI 0) hx hb dX0_isHeldBy_38 (by decide) ?_
      exact fw_reti C hr hlk rfl hP hS (⟨b2i_f (by rw [decide_eq_true c_5, decide_eq_false c_13]; rfl), rfl⟩) (Nat.le_of_ble_eq_true rfl) (Nat.le_of_ble_eq_true rfl) dX0_isHeldBy_39
    · refine lv_aload_n hx hb dX0_isHeldBy_16 rfl (lv_at hl 0 rfl) ?_
      refine gf_X0_16 C hP h0 rfl rfl dX0_isHeldBy_17 ?_
      refine lv_lload_n hx hb dX0_isHeldBy_20 rfl (lv_at hl 3 rfl) ?_
      refine W.lcmp hx hb dX0_isHeldBy_21 ?_
      refine fw_lgt (tgt := 38) hx hb dX0_isHeldBy_22 (by decide) (fun c_22 => ?_) (fun c_22 => ?_)
      · refine lv_iconst (v := nI 0) hx hb dX0_isHeldBy_38 (by decide) ?_
        exact fw_reti C hr hlk rfl hP hS (⟨b2i_f (by rw [decide_eq_true c_5, decide_eq_true c_13, decide_eq_false (Int64.not_le.mpr c_22)]; rfl), rfl⟩) (Nat.le_of_ble_eq_true rfl) (Nat.le_of_ble_eq_true rfl) dX0_isHeldBy_39
      · refine lv_lload_n hx hb dX0_isHeldBy_25 rfl (lv_at hl 3 rfl) ?_
        refine lv_aload_n hx hb dX0_isHeldBy_26 rfl (lv_at hl 0 rfl) ?_
        refine gf_X0_20 C hP h0 rfl rfl dX0_isHeldBy_27 ?_
        refine W.lcmp hx hb dX0_isHeldBy_30 ?_
        refine fw_lgt (tgt := 38) hx hb dX0_isHeldBy_31 (by decide) (fun c_31 => ?_) (fun c_31 => ?_)
        · refine lv_iconst (v := nI 0) hx hb dX0_isHeldBy_38 (by decide) ?_
          exact fw_reti C hr hlk rfl hP hS (⟨b2i_f (by rw [decide_eq_true c_5, decide_eq_true c_13, decide_eq_true (Int64.not_lt.mp c_22), decide_eq_false (Int64.not_le.mpr c_31)]; rfl), rfl⟩) (Nat.le_of_ble_eq_true rfl) (Nat.le_of_ble_eq_true rfl) dX0_isHeldBy_39
        · refine lv_iconst (v := nI 1) hx hb dX0_isHeldBy_34 (by decide) ?_
          refine lv_goto (tgt := 39) hx hb dX0_isHeldBy_35 (by decide) ?_
          exact fw_reti C hr hlk rfl hP hS (⟨b2i_t (by rw [decide_eq_true c_5, decide_eq_true c_13, decide_eq_true (Int64.not_lt.mp c_22), decide_eq_true (Int64.not_lt.mp c_31)]; rfl), rfl⟩) (Nat.le_of_ble_eq_true rfl) (Nat.le_of_ble_eq_true rfl) dX0_isHeldBy_39
set_option maxHeartbeats 4000000 in
set_option maxRecDepth 100000 in
theorem k_X0_init (l : Launch) (Γ : FG) (w : FW) (i a b : Nat) (x y : Int64) (h0 : w.2 10 i = some (oO 0 [.int 0, .int 0, .long 0, .long 0])) : Met l yX0_init (ws_ yX0_init cX0_init 7 none) (rmD 1 0 0) (va_Pc [.ref (w.1 10 i), .int (nI a), .int (nI b), .long x, .long y] (fI Γ w)) (va_Qv (fun w1 => w1 = fset w 10 i (oO 0 [.int (nI a), .int (nI b), .long x, .long y])) (fI Γ) (fA Γ)) 0 0 (fA Γ) := by
  refine fw_met (by decide) (Nat.le_of_ble_eq_true rfl) ?_
  intro p e s m below meth c ls C hP hS hr hlk hin hl
  have C : fC p s m [.ref (w.1 10 i), .int (nI a), .int (nI b), .long x, .long y].toArray c cX0_init 7 RX0 Γ := C
  have hx := C.1.1
  have hb := C.1.2.1
  have hl : lv_has ls 7 [(0, .ref (w.1 10 i)), (1, .int (nI a)), (2, .int (nI b)), (3, .long x), (5, .long y)] := hl
  refine lv_aload_n hx hb dX0_init_0 rfl (lv_at hl 0 rfl) ?_
  refine fw_obj C qm_X0_1 hl.1 ⟨(Nat.le_of_ble_eq_true rfl), (Nat.le_of_ble_eq_true rfl)⟩ (Nat.le_of_ble_eq_true rfl) dX0_init_1 ?_
  refine lv_aload_n hx hb dX0_init_4 rfl (lv_at hl 0 rfl) ?_
  refine lv_iload_n hx hb dX0_init_5 rfl (lv_at hl 1 rfl) ?_
  refine pf_X0_7 C hP hS hin rfl rfl h0 rfl (Nat.le_of_ble_eq_true rfl) dX0_init_6 (fun H locs hP hS => ?_)
  have hP : fP Γ (fset w 10 i (oO 0 [.int (nI a), .int 0, .long 0, .long 0])) H := hP
  refine lv_aload_n hx hb dX0_init_9 rfl (lv_at hl 0 rfl) ?_
  refine lv_iload_n hx hb dX0_init_10 rfl (lv_at hl 2 rfl) ?_
  refine pf_X0_13 C hP hS hin rfl rfl fset_at rfl (Nat.le_of_ble_eq_true rfl) dX0_init_11 (fun H locs hP hS => ?_)
  have hP : fP Γ (fset (fset w 10 i (oO 0 [.int (nI a), .int 0, .long 0, .long 0])) 10 i (oO 0 [.int (nI a), .int (nI b), .long 0, .long 0])) H := hP
  rw [fset_s] at hP
  refine lv_aload_n hx hb dX0_init_14 rfl (lv_at hl 0 rfl) ?_
  refine lv_lload_n hx hb dX0_init_15 rfl (lv_at hl 3 rfl) ?_
  refine pf_X0_16 C hP hS hin rfl rfl fset_at rfl (Nat.le_of_ble_eq_true rfl) dX0_init_16 (fun H locs hP hS => ?_)
  have hP : fP Γ (fset (fset w 10 i (oO 0 [.int (nI a), .int (nI b), .long 0, .long 0])) 10 i (oO 0 [.int (nI a), .int (nI b), .long x, .long 0])) H := hP
  rw [fset_s] at hP
  refine lv_aload_n hx hb dX0_init_19 rfl (lv_at hl 0 rfl) ?_
  refine lv_lload hx hb dX0_init_20 (lv_at hl 4 rfl) ?_
  refine pf_X0_20 C hP hS hin rfl rfl fset_at rfl (Nat.le_of_ble_eq_true rfl) dX0_init_22 (fun H locs hP hS => ?_)
  have hP : fP Γ (fset (fset w 10 i (oO 0 [.int (nI a), .int (nI b), .long x, .long 0])) 10 i (oO 0 [.int (nI a), .int (nI b), .long x, .long y])) H := hP
  rw [fset_s] at hP
  exact fw_retv C hr hlk hP hS (rfl) (Nat.le_of_ble_eq_true rfl) (Nat.le_of_ble_eq_true rfl) dX0_init_25
set_option maxHeartbeats 4000000 in
set_option maxRecDepth 100000 in
theorem k_X2_isOf (l : Launch) (Γ : FG) (w : FW) (σ : St) (i t a b : Nat) (ha : a < 2 ^ 31) (hb0 : b < 2 ^ 31) (hI : s_sp σ i < 24 ∧ s_sm σ i < 10) (hinj : w.1 11 (s_st σ i) = w.1 11 t → s_st σ i = t) (h0 : w.2 16 i = some (oSg σ w i)) : Met l yX2_isOf (ws_ yX2_isOf cX2_isOf 4 (some .boolean)) (rmD 0 0 0) (va_Pc [.ref (w.1 16 i), .ref (w.1 11 t), .int (nI a), .int (nI b)] (fI Γ w)) (va_Qi (fun r w1 => r = b2i (decide (s_st σ i = t) && decide (s_sp σ i = a) && decide (s_sm σ i = b)) ∧ w1 = w) (fI Γ) (fA Γ)) 0 0 (fA Γ) := by
  refine fw_met (by decide) (Nat.le_of_ble_eq_true rfl) ?_
  intro p e s m below meth c ls C hP hS hr hlk hin hl
  have C : fC p s m [.ref (w.1 16 i), .ref (w.1 11 t), .int (nI a), .int (nI b)].toArray c cX2_isOf 4 RX2 Γ := C
  have hx := C.1.1
  have hb := C.1.2.1
  have hl : lv_has ls 4 [(0, .ref (w.1 16 i)), (1, .ref (w.1 11 t)), (2, .int (nI a)), (3, .int (nI b))] := hl
  refine lv_aload_n hx hb dX2_isOf_0 rfl (lv_at hl 0 rfl) ?_
  refine gf_X2_15 C hP h0 rfl rfl dX2_isOf_1 ?_
  refine lv_aload_n hx hb dX2_isOf_4 rfl (lv_at hl 1 rfl) ?_
  refine lv_acmp_ne (rx := some (w.1 11 (s_st σ i))) (ry := some (w.1 11 t)) (tgt := 28) hx hb dX2_isOf_5 (by decide) (fun c_5 => ?_) (fun c_5 => ?_)
  · refine lv_iconst (v := nI 0) hx hb dX2_isOf_28 (by decide) ?_
    exact fw_reti C hr hlk rfl hP hS (⟨b2i_f (by rw [decide_eq_false (fun q => c_5 (by rw [q]))]; rfl), rfl⟩) (Nat.le_of_ble_eq_true rfl) (Nat.le_of_ble_eq_true rfl) dX2_isOf_29
  · refine lv_aload_n hx hb dX2_isOf_8 rfl (lv_at hl 0 rfl) ?_
    refine gf_X2_19 C hP h0 rfl rfl dX2_isOf_9 ?_
    refine lv_iload_n hx hb dX2_isOf_12 rfl (lv_at hl 2 rfl) ?_
    refine fw_neN (tgt := 28) hx hb (by omega) (by omega) dX2_isOf_13 (by decide) (fun c_13 => ?_) (fun c_13 => ?_)
    · refine lv_iconst (v := nI 0) hx hb dX2_isOf_28 (by decide) ?_
      exact fw_reti C hr hlk rfl hP hS (⟨b2i_f (by rw [decide_eq_true (hinj (Option.some.inj c_5)), decide_eq_false c_13]; rfl), rfl⟩) (Nat.le_of_ble_eq_true rfl) (Nat.le_of_ble_eq_true rfl) dX2_isOf_29
    · refine lv_aload_n hx hb dX2_isOf_16 rfl (lv_at hl 0 rfl) ?_
      refine gf_X2_23 C hP h0 rfl rfl dX2_isOf_17 ?_
      refine lv_iload_n hx hb dX2_isOf_20 rfl (lv_at hl 3 rfl) ?_
      refine fw_neN (tgt := 28) hx hb (by omega) (by omega) dX2_isOf_21 (by decide) (fun c_21 => ?_) (fun c_21 => ?_)
      · refine lv_iconst (v := nI 0) hx hb dX2_isOf_28 (by decide) ?_
        exact fw_reti C hr hlk rfl hP hS (⟨b2i_f (by rw [decide_eq_true (hinj (Option.some.inj c_5)), decide_eq_true c_13, decide_eq_false c_21]; rfl), rfl⟩) (Nat.le_of_ble_eq_true rfl) (Nat.le_of_ble_eq_true rfl) dX2_isOf_29
      · refine lv_iconst (v := nI 1) hx hb dX2_isOf_24 (by decide) ?_
        refine lv_goto (tgt := 29) hx hb dX2_isOf_25 (by decide) ?_
        exact fw_reti C hr hlk rfl hP hS (⟨b2i_t (by rw [decide_eq_true (hinj (Option.some.inj c_5)), decide_eq_true c_13, decide_eq_true c_21]; rfl), rfl⟩) (Nat.le_of_ble_eq_true rfl) (Nat.le_of_ble_eq_true rfl) dX2_isOf_29
set_option maxHeartbeats 4000000 in
set_option maxRecDepth 100000 in
theorem k_X2_init (l : Launch) (Γ : FG) (w : FW) (i t a b : Nat) (h0 : w.2 16 i = some (oO 2 [.null, .int 0, .int 0, .null, .int (b2i false)])) (h1 : w.2 17 i = none) : Met l yX2_init (ws_ yX2_init cX2_init 4 none) (rmD 1 1 8) (va_Pc [.ref (w.1 16 i), .ref (w.1 11 t), .int (nI a), .int (nI b)] (fI Γ w)) (va_Qv (fun w1 => ∃ q, w1 = fset (fnew w 17 i (aI 1 8 (fun _ => 0)) q) 16 i (oO 2 [.ref (w.1 11 t), .int (nI a), .int (nI b), .ref q, .int (b2i false)])) (fI Γ) (fA Γ)) 1 8 (fA Γ) := by
  refine fw_met (by decide) (Nat.le_of_ble_eq_true rfl) ?_
  intro p e s m below meth c ls C hP hS hr hlk hin hl
  have C : fC p s m [.ref (w.1 16 i), .ref (w.1 11 t), .int (nI a), .int (nI b)].toArray c cX2_init 4 RX2 Γ := C
  have hx := C.1.1
  have hb := C.1.2.1
  have hl : lv_has ls 4 [(0, .ref (w.1 16 i)), (1, .ref (w.1 11 t)), (2, .int (nI a)), (3, .int (nI b))] := hl
  refine lv_aload_n hx hb dX2_init_0 rfl (lv_at hl 0 rfl) ?_
  refine fw_obj C qm_X2_3 hl.1 ⟨(Nat.le_of_ble_eq_true rfl), (Nat.le_of_ble_eq_true rfl)⟩ (Nat.le_of_ble_eq_true rfl) dX2_init_1 ?_
  refine lv_aload_n hx hb dX2_init_4 rfl (lv_at hl 0 rfl) ?_
  refine lv_bipush (v := nI 8) hx hb dX2_init_5 (by decide) ?_
  refine fw_newI (atype := .int) C hP hS 17 i (t := 1) (N := 8) (by decide) rfl rfl qa_int (by decide) (by decide) (Nat.le_of_ble_eq_true rfl) h1 (Nat.le_of_ble_eq_true rfl) (Nat.le_of_ble_eq_true rfl) dX2_init_7 (fun q7 H hP hS => ?_)
  have hP : fP Γ (fnew w 17 i (aI 1 8 (fun _ => 0)) q7) H := hP
  refine pf_X2_9 C hP hS hin rfl rfl ((fnew_ne (by decide)).trans h0) ((fnew_ane (by decide)).trans rfl) (Nat.le_of_ble_eq_true rfl) dX2_init_9 (fun H locs hP hS => ?_)
  have hP : fP Γ (fset (fnew w 17 i (aI 1 8 (fun _ => 0)) q7) 16 i (oO 2 [.null, .int 0, .int 0, .ref q7, .int (b2i false)])) H := hP
  refine lv_aload_n hx hb dX2_init_12 rfl (lv_at hl 0 rfl) ?_
  refine lv_aload_n hx hb dX2_init_13 rfl (lv_at hl 1 rfl) ?_
  refine pf_X2_15 C hP hS hin rfl rfl fset_at (fset_ad.trans ((fnew_ane (by decide)).trans rfl)) (Nat.le_of_ble_eq_true rfl) dX2_init_14 (fun H locs hP hS => ?_)
  have hP : fP Γ (fset (fset (fnew w 17 i (aI 1 8 (fun _ => 0)) q7) 16 i (oO 2 [.null, .int 0, .int 0, .ref q7, .int (b2i false)])) 16 i (oO 2 [.ref (w.1 11 t), .int 0, .int 0, .ref q7, .int (b2i false)])) H := hP
  rw [fset_s] at hP
  refine lv_aload_n hx hb dX2_init_17 rfl (lv_at hl 0 rfl) ?_
  refine lv_iload_n hx hb dX2_init_18 rfl (lv_at hl 2 rfl) ?_
  refine pf_X2_19 C hP hS hin rfl rfl fset_at (fset_ad.trans ((fnew_ane (by decide)).trans rfl)) (Nat.le_of_ble_eq_true rfl) dX2_init_19 (fun H locs hP hS => ?_)
  have hP : fP Γ (fset (fset (fnew w 17 i (aI 1 8 (fun _ => 0)) q7) 16 i (oO 2 [.ref (w.1 11 t), .int 0, .int 0, .ref q7, .int (b2i false)])) 16 i (oO 2 [.ref (w.1 11 t), .int (nI a), .int 0, .ref q7, .int (b2i false)])) H := hP
  rw [fset_s] at hP
  refine lv_aload_n hx hb dX2_init_22 rfl (lv_at hl 0 rfl) ?_
  refine lv_iload_n hx hb dX2_init_23 rfl (lv_at hl 3 rfl) ?_
  refine pf_X2_23 C hP hS hin rfl rfl fset_at (fset_ad.trans ((fnew_ane (by decide)).trans rfl)) (Nat.le_of_ble_eq_true rfl) dX2_init_24 (fun H locs hP hS => ?_)
  have hP : fP Γ (fset (fset (fnew w 17 i (aI 1 8 (fun _ => 0)) q7) 16 i (oO 2 [.ref (w.1 11 t), .int (nI a), .int 0, .ref q7, .int (b2i false)])) 16 i (oO 2 [.ref (w.1 11 t), .int (nI a), .int (nI b), .ref q7, .int (b2i false)])) H := hP
  rw [fset_s] at hP
  exact fw_retv C hr hlk hP hS (⟨_, rfl⟩) (Nat.le_of_ble_eq_true rfl) (Nat.le_of_ble_eq_true rfl) dX2_init_27
set_option maxHeartbeats 4000000 in
set_option maxRecDepth 100000 in
theorem k_X3_init (l : Launch) (Γ : FG) (w : FW) (t a : Nat) (h0 : w.2 11 t = some (oO 3 [.int 0, .null, .int 0, .null, .int (b2i false), .null, .int 0, .null, .int 0])) (h12 : w.2 12 t = none) (h13 : w.2 13 t = none) (h14 : w.2 14 t = none) (h15 : w.2 15 t = none) : Met l yX3_init (ws_ yX3_init cX3_init 2 none) (rmD 1 4 1218) (va_Pc [.ref (w.1 11 t), .int (nI a)] (fI Γ w)) (va_Qv (fun w1 => ∃ q1 q2 q3 q4, (∀ k i, ¬ (i = t ∧ 11 ≤ k ∧ k ≤ 15) → w1.2 k i = w.2 k i ∧ w1.1 k i = w.1 k i) ∧ w1.1 11 t = w.1 11 t ∧ w1.1 12 t = q1 ∧ w1.1 13 t = q2 ∧ w1.1 14 t = q3 ∧ w1.1 15 t = q4 ∧ w1.2 12 t = some (aI 0 1000 (fun _ => 0)) ∧ w1.2 13 t = some (aI 1 8 (fun _ => 0)) ∧ w1.2 14 t = some (aI 0 200 (fun _ => 0)) ∧ w1.2 15 t = some (aI 1 10 (fun _ => 0)) ∧ w1.2 11 t = some (oO 3 [.int (nI a), .ref q1, .int 0, .ref q2, .int (b2i true), .ref q3, .int 0, .ref q4, .int 0])) (fI Γ) (fA Γ)) 4 1218 (fA Γ) := by
  refine fw_met (by decide) (Nat.le_of_ble_eq_true rfl) ?_
  intro p e s m below meth c ls C hP hS hr hlk hin hl
  have C : fC p s m [.ref (w.1 11 t), .int (nI a)].toArray c cX3_init 2 RX3 Γ := C
  have hx := C.1.1
  have hb := C.1.2.1
  have hl : lv_has ls 2 [(0, .ref (w.1 11 t)), (1, .int (nI a))] := hl
  refine lv_aload_n hx hb dX3_init_0 rfl (lv_at hl 0 rfl) ?_
  refine fw_obj C qm_X3_3 hl.1 ⟨(Nat.le_of_ble_eq_true rfl), (Nat.le_of_ble_eq_true rfl)⟩ (Nat.le_of_ble_eq_true rfl) dX3_init_1 ?_
  refine lv_aload_n hx hb dX3_init_4 rfl (lv_at hl 0 rfl) ?_
  refine lv_sipush (v := nI 1000) hx hb dX3_init_5 (by decide) ?_
  refine fw_newI (atype := .byte) C hP hS 12 t (t := 0) (N := 1000) (by decide) rfl rfl qa_byte (by decide) (by decide) (Nat.le_of_ble_eq_true rfl) h12 (Nat.le_of_ble_eq_true rfl) (Nat.le_of_ble_eq_true rfl) dX3_init_8 (fun q8 H hP hS => ?_)
  have hP : fP Γ (fnew w 12 t (aI 0 1000 (fun _ => 0)) q8) H := hP
  refine pf_X3_9 C hP hS hin rfl rfl ((fnew_ne (by decide)).trans h0) ((fnew_ane (by decide)).trans rfl) (Nat.le_of_ble_eq_true rfl) dX3_init_10 (fun H locs hP hS => ?_)
  have hP : fP Γ (fset (fnew w 12 t (aI 0 1000 (fun _ => 0)) q8) 11 t (oO 3 [.int 0, .ref q8, .int 0, .null, .int (b2i false), .null, .int 0, .null, .int 0])) H := hP
  refine lv_aload_n hx hb dX3_init_13 rfl (lv_at hl 0 rfl) ?_
  refine lv_bipush (v := nI 8) hx hb dX3_init_14 (by decide) ?_
  refine fw_newI (atype := .int) C hP hS 13 t (t := 1) (N := 8) (by decide) rfl rfl qa_int (by decide) (by decide) (Nat.le_of_ble_eq_true rfl) ((fset_ne (by decide)).trans ((fnew_ne (by decide)).trans h13)) (Nat.le_of_ble_eq_true rfl) (Nat.le_of_ble_eq_true rfl) dX3_init_16 (fun q16 H hP hS => ?_)
  have hP : fP Γ (fnew (fset (fnew w 12 t (aI 0 1000 (fun _ => 0)) q8) 11 t (oO 3 [.int 0, .ref q8, .int 0, .null, .int (b2i false), .null, .int 0, .null, .int 0])) 13 t (aI 1 8 (fun _ => 0)) q16) H := hP
  refine pf_X3_15 C hP hS hin rfl rfl ((fnew_ne (by decide)).trans fset_at) ((fnew_ane (by decide)).trans (fset_ad.trans ((fnew_ane (by decide)).trans rfl))) (Nat.le_of_ble_eq_true rfl) dX3_init_18 (fun H locs hP hS => ?_)
  have hP : fP Γ (fset (fnew (fset (fnew w 12 t (aI 0 1000 (fun _ => 0)) q8) 11 t (oO 3 [.int 0, .ref q8, .int 0, .null, .int (b2i false), .null, .int 0, .null, .int 0])) 13 t (aI 1 8 (fun _ => 0)) q16) 11 t (oO 3 [.int 0, .ref q8, .int 0, .ref q16, .int (b2i false), .null, .int 0, .null, .int 0])) H := hP
  refine lv_aload_n hx hb dX3_init_21 rfl (lv_at hl 0 rfl) ?_
  refine lv_iconst (v := nI 1) hx hb dX3_init_22 (by decide) ?_
  refine pf_X3_19 C hP hS rfl rfl fset_at (fset_ad.trans ((fnew_ane (by decide)).trans (fset_ad.trans ((fnew_ane (by decide)).trans rfl)))) (Nat.le_of_ble_eq_true rfl) dX3_init_23 (fun H locs hP hS => ?_)
  have hP : fP Γ (fset (fset (fnew (fset (fnew w 12 t (aI 0 1000 (fun _ => 0)) q8) 11 t (oO 3 [.int 0, .ref q8, .int 0, .null, .int (b2i false), .null, .int 0, .null, .int 0])) 13 t (aI 1 8 (fun _ => 0)) q16) 11 t (oO 3 [.int 0, .ref q8, .int 0, .ref q16, .int (b2i false), .null, .int 0, .null, .int 0])) 11 t (oO 3 [.int 0, .ref q8, .int 0, .ref q16, .int (b2i true), .null, .int 0, .null, .int 0])) H := hP
  rw [fset_s] at hP
  refine lv_aload_n hx hb dX3_init_26 rfl (lv_at hl 0 rfl) ?_
  refine lv_sipush (v := nI 200) hx hb dX3_init_27 (by decide) ?_
  refine fw_newI (atype := .byte) C hP hS 14 t (t := 0) (N := 200) (by decide) rfl rfl qa_byte (by decide) (by decide) (Nat.le_of_ble_eq_true rfl) ((fset_ne (by decide)).trans ((fnew_ne (by decide)).trans ((fset_ne (by decide)).trans ((fnew_ne (by decide)).trans h14)))) (Nat.le_of_ble_eq_true rfl) (Nat.le_of_ble_eq_true rfl) dX3_init_30 (fun q30 H hP hS => ?_)
  have hP : fP Γ (fnew (fset (fnew (fset (fnew w 12 t (aI 0 1000 (fun _ => 0)) q8) 11 t (oO 3 [.int 0, .ref q8, .int 0, .null, .int (b2i false), .null, .int 0, .null, .int 0])) 13 t (aI 1 8 (fun _ => 0)) q16) 11 t (oO 3 [.int 0, .ref q8, .int 0, .ref q16, .int (b2i true), .null, .int 0, .null, .int 0])) 14 t (aI 0 200 (fun _ => 0)) q30) H := hP
  refine pf_X3_23 C hP hS hin rfl rfl ((fnew_ne (by decide)).trans fset_at) ((fnew_ane (by decide)).trans (fset_ad.trans ((fnew_ane (by decide)).trans (fset_ad.trans ((fnew_ane (by decide)).trans rfl))))) (Nat.le_of_ble_eq_true rfl) dX3_init_32 (fun H locs hP hS => ?_)
  have hP : fP Γ (fset (fnew (fset (fnew (fset (fnew w 12 t (aI 0 1000 (fun _ => 0)) q8) 11 t (oO 3 [.int 0, .ref q8, .int 0, .null, .int (b2i false), .null, .int 0, .null, .int 0])) 13 t (aI 1 8 (fun _ => 0)) q16) 11 t (oO 3 [.int 0, .ref q8, .int 0, .ref q16, .int (b2i true), .null, .int 0, .null, .int 0])) 14 t (aI 0 200 (fun _ => 0)) q30) 11 t (oO 3 [.int 0, .ref q8, .int 0, .ref q16, .int (b2i true), .ref q30, .int 0, .null, .int 0])) H := hP
  refine lv_aload_n hx hb dX3_init_35 rfl (lv_at hl 0 rfl) ?_
  refine lv_bipush (v := nI 10) hx hb dX3_init_36 (by decide) ?_
  refine fw_newI (atype := .int) C hP hS 15 t (t := 1) (N := 10) (by decide) rfl rfl qa_int (by decide) (by decide) (Nat.le_of_ble_eq_true rfl) ((fset_ne (by decide)).trans ((fnew_ne (by decide)).trans ((fset_ne (by decide)).trans ((fnew_ne (by decide)).trans ((fset_ne (by decide)).trans ((fnew_ne (by decide)).trans h15)))))) (Nat.le_of_ble_eq_true rfl) (Nat.le_of_ble_eq_true rfl) dX3_init_38 (fun q38 H hP hS => ?_)
  have hP : fP Γ (fnew (fset (fnew (fset (fnew (fset (fnew w 12 t (aI 0 1000 (fun _ => 0)) q8) 11 t (oO 3 [.int 0, .ref q8, .int 0, .null, .int (b2i false), .null, .int 0, .null, .int 0])) 13 t (aI 1 8 (fun _ => 0)) q16) 11 t (oO 3 [.int 0, .ref q8, .int 0, .ref q16, .int (b2i true), .null, .int 0, .null, .int 0])) 14 t (aI 0 200 (fun _ => 0)) q30) 11 t (oO 3 [.int 0, .ref q8, .int 0, .ref q16, .int (b2i true), .ref q30, .int 0, .null, .int 0])) 15 t (aI 1 10 (fun _ => 0)) q38) H := hP
  refine pf_X3_26 C hP hS hin rfl rfl ((fnew_ne (by decide)).trans fset_at) ((fnew_ane (by decide)).trans (fset_ad.trans ((fnew_ane (by decide)).trans (fset_ad.trans ((fnew_ane (by decide)).trans (fset_ad.trans ((fnew_ane (by decide)).trans rfl))))))) (Nat.le_of_ble_eq_true rfl) dX3_init_40 (fun H locs hP hS => ?_)
  have hP : fP Γ (fset (fnew (fset (fnew (fset (fnew (fset (fnew w 12 t (aI 0 1000 (fun _ => 0)) q8) 11 t (oO 3 [.int 0, .ref q8, .int 0, .null, .int (b2i false), .null, .int 0, .null, .int 0])) 13 t (aI 1 8 (fun _ => 0)) q16) 11 t (oO 3 [.int 0, .ref q8, .int 0, .ref q16, .int (b2i true), .null, .int 0, .null, .int 0])) 14 t (aI 0 200 (fun _ => 0)) q30) 11 t (oO 3 [.int 0, .ref q8, .int 0, .ref q16, .int (b2i true), .ref q30, .int 0, .null, .int 0])) 15 t (aI 1 10 (fun _ => 0)) q38) 11 t (oO 3 [.int 0, .ref q8, .int 0, .ref q16, .int (b2i true), .ref q30, .int 0, .ref q38, .int 0])) H := hP
  refine lv_aload_n hx hb dX3_init_43 rfl (lv_at hl 0 rfl) ?_
  refine lv_iload_n hx hb dX3_init_44 rfl (lv_at hl 1 rfl) ?_
  refine pf_X3_29 C hP hS hin rfl rfl fset_at (fset_ad.trans ((fnew_ane (by decide)).trans (fset_ad.trans ((fnew_ane (by decide)).trans (fset_ad.trans ((fnew_ane (by decide)).trans (fset_ad.trans ((fnew_ane (by decide)).trans rfl)))))))) (Nat.le_of_ble_eq_true rfl) dX3_init_45 (fun H locs hP hS => ?_)
  have hP : fP Γ (fset (fset (fnew (fset (fnew (fset (fnew (fset (fnew w 12 t (aI 0 1000 (fun _ => 0)) q8) 11 t (oO 3 [.int 0, .ref q8, .int 0, .null, .int (b2i false), .null, .int 0, .null, .int 0])) 13 t (aI 1 8 (fun _ => 0)) q16) 11 t (oO 3 [.int 0, .ref q8, .int 0, .ref q16, .int (b2i true), .null, .int 0, .null, .int 0])) 14 t (aI 0 200 (fun _ => 0)) q30) 11 t (oO 3 [.int 0, .ref q8, .int 0, .ref q16, .int (b2i true), .ref q30, .int 0, .null, .int 0])) 15 t (aI 1 10 (fun _ => 0)) q38) 11 t (oO 3 [.int 0, .ref q8, .int 0, .ref q16, .int (b2i true), .ref q30, .int 0, .ref q38, .int 0])) 11 t (oO 3 [.int (nI a), .ref q8, .int 0, .ref q16, .int (b2i true), .ref q30, .int 0, .ref q38, .int 0])) H := hP
  rw [fset_s] at hP
  refine fw_retv C hr hlk hP hS ⟨q8, q16, q30, q38, fun k i h => ?_, (fset_ad.trans ((fnew_ane (by decide)).trans (fset_ad.trans ((fnew_ane (by decide)).trans (fset_ad.trans ((fnew_ane (by decide)).trans (fset_ad.trans ((fnew_ane (by decide)).trans rfl)))))))), (fset_ad.trans ((fnew_ane (by decide)).trans (fset_ad.trans ((fnew_ane (by decide)).trans (fset_ad.trans ((fnew_ane (by decide)).trans (fset_ad.trans fnew_aat))))))), (fset_ad.trans ((fnew_ane (by decide)).trans (fset_ad.trans ((fnew_ane (by decide)).trans (fset_ad.trans fnew_aat))))), (fset_ad.trans ((fnew_ane (by decide)).trans (fset_ad.trans fnew_aat))), (fset_ad.trans fnew_aat), ((fset_ne (by decide)).trans ((fnew_ne (by decide)).trans ((fset_ne (by decide)).trans ((fnew_ne (by decide)).trans ((fset_ne (by decide)).trans ((fnew_ne (by decide)).trans ((fset_ne (by decide)).trans fnew_at))))))), ((fset_ne (by decide)).trans ((fnew_ne (by decide)).trans ((fset_ne (by decide)).trans ((fnew_ne (by decide)).trans ((fset_ne (by decide)).trans fnew_at))))), ((fset_ne (by decide)).trans ((fnew_ne (by decide)).trans ((fset_ne (by decide)).trans fnew_at))), ((fset_ne (by decide)).trans fnew_at), fset_at⟩ (Nat.le_of_ble_eq_true rfl) (Nat.le_of_ble_eq_true rfl) dX3_init_48
  have hk : ∀ z, 11 ≤ z → z ≤ 15 → ¬ (k = z ∧ i = t) := fun z z1 z2 q => h ⟨q.2, by omega, by omega⟩
  have key : ∀ {α : Type} (g : Nat → Nat → α) (z : Nat) (x : α), 11 ≤ z → z ≤ 15 → f2 g z t x k i = g k i := by
    intro α g z x z1 z2
    unfold f2
    by_cases e1 : k = z
    · rw [if_pos e1, if_neg (fun e2 => hk z z1 z2 ⟨e1, e2⟩)]
    · rw [if_neg e1]
  simp only [fset, fnew]
  constructor
  · repeat rw [key _ _ _ (by decide) (by decide)]
  · repeat rw [key _ _ _ (by decide) (by decide)]
theorem cw_step {f g : Nat → Int32} {i : Nat} (h : ∀ j, j < i → g j = f j) : ∀ j, j < i + 1 → upd g i (f i) j = f j := by
  intro j hj
  unfold upd
  by_cases e : j = i
  · rw [if_pos e, e]
  · rw [if_neg e]; exact h j (by omega)
set_option maxHeartbeats 4000000 in
set_option maxRecDepth 100000 in
theorem k_X4_copyWords (l : Launch) (Γ : FG) (w : FW) (k0 i0 k1 i1 : Nat) (f g : Nat → Int32) (hk : k0 ≠ k1) (h0 : w.2 k0 i0 = some (aI 1 8 f)) (h1 : w.2 k1 i1 = some (aI 1 8 g)) : Met l yX4_copyWords (ws_ yX4_copyWords cX4_copyWords 3 none) (rmD 0 0 0) (va_Pc [.ref (w.1 k0 i0), .ref (w.1 k1 i1)] (fI Γ w)) (va_Qv (fun w1 => ∃ z, w1 = fset w k1 i1 (aI 1 8 z) ∧ ∀ j, j < 8 → z j = f j) (fI Γ) (fA Γ)) 0 0 (fA Γ) := by
  refine fw_met (by decide) (Nat.le_of_ble_eq_true rfl) ?_
  intro p e s m below meth c ls C hP hS hr hlk hin hl
  have C : fC p s m [.ref (w.1 k0 i0), .ref (w.1 k1 i1)].toArray c cX4_copyWords 3 RX4 Γ := C
  have hx := C.1.1
  have hb := C.1.2.1
  have hl : lv_has ls 3 [(0, .ref (w.1 k0 i0)), (1, .ref (w.1 k1 i1))] := hl
  refine lv_iconst (v := nI 0) hx hb dX4_copyWords_0 (by decide) ?_
  refine lv_istore_n (lv' := [(2, .int (nI 0)), (0, .ref (w.1 k0 i0)), (1, .ref (w.1 k1 i1))]) hx hb dX4_copyWords_1 rfl hl (by decide) rfl (fun ls hl => ?_)
  have hP : fP Γ (fset w k1 i1 (aI 1 8 g)) s.heap := by rw [fset_id h1]; exact hP
  refine W.widen (k := 0) (n := 0) (Nat.le_of_ble_eq_true rfl) (Nat.le_of_ble_eq_true rfl) ?_
  have loop : ∀ (fu : Nat) (i : Nat) (z : Nat → Int32) (H : Heap) (locs : List Loc) (ls : Array Slot), 8 - i < fu → (i ≤ 8) → (∀ j, j < i → z j = f j) → fP Γ (fset w k1 i1 (aI 1 8 z)) H → va_S (fA Γ) s.heap H locs → lv_has ls 3 [(2, .int (nI i)), (0, .ref (w.1 k0 i0)), (1, .ref (w.1 k1 i1))] → W p l e (rmD 0 0 0) s m [.ref (w.1 k0 i0), .ref (w.1 k1 i1)].toArray below meth c H locs 0 0 (MQ below (va_Qv (fun w1 => ∃ z, w1 = fset w k1 i1 (aI 1 8 z) ∧ ∀ j, j < 8 → z j = f j) (fI Γ) (fA Γ)) [.ref (w.1 k0 i0), .ref (w.1 k1 i1)].toArray s 0 0 (fA Γ)) (F0 m 2 ls []) := by
    intro fu
    induction fu with
    | zero =>
      intro i z H locs ls hf
      exact absurd hf (Nat.not_lt_zero _)
    | succ fu ih =>
      intro i z H locs ls hf hi hz hP hS hl
      refine lv_iload_n hx hb dX4_copyWords_2 rfl (lv_at hl 0 rfl) ?_
      refine lv_bipush (v := nI 8) hx hb dX4_copyWords_3 (by decide) ?_
      refine fw_geN (tgt := 20) hx hb (by omega) (by omega) dX4_copyWords_5 (by decide) (fun c_5 => ?_) (fun c_5 => ?_)
      · exact fw_retv C hr hlk hP hS (⟨z, rfl, fun j hj => hz j (by omega)⟩) (Nat.le_of_ble_eq_true rfl) (Nat.le_of_ble_eq_true rfl) dX4_copyWords_20
      · refine lv_aload_n hx hb dX4_copyWords_8 rfl (lv_at hl 2 rfl) ?_
        refine lv_iload_n hx hb dX4_copyWords_9 rfl (lv_at hl 0 rfl) ?_
        refine lv_aload_n hx hb dX4_copyWords_10 rfl (lv_at hl 1 rfl) ?_
        refine lv_iload_n hx hb dX4_copyWords_11 rfl (lv_at hl 0 rfl) ?_
        refine fw_iald C hP ((fset_ne hk).trans h0) rfl i rfl (by omega) (by decide) dX4_copyWords_12 ?_
        refine fw_iast C hP hS fset_at rfl i rfl (by omega) (by decide) dX4_copyWords_13 (fun H locs hP hS => ?_)
        have hP : fP Γ (fset (fset w k1 i1 (aI 1 8 z)) k1 i1 (aI 1 8 (upd z i (f i)))) H := hP
        rw [fset_s] at hP
        refine lv_iinc (v := nI (i + 1)) (lv' := [(2, .int (nI (i + 1))), (0, .ref (w.1 k0 i0)), (1, .ref (w.1 k1 i1))]) hx hb dX4_copyWords_14 hl (k := 0) rfl (by rw [show Int32.ofInt 1 = nI 1 from rfl, nI_add]) (by decide) rfl (fun ls hl => ?_)
        refine lv_goto (tgt := 2) hx hb dX4_copyWords_17 (by decide) ?_
        refine W.widen (k := 0) (n := 0) (Nat.le_of_ble_eq_true rfl) (Nat.le_of_ble_eq_true rfl) ?_
        exact ih (i + 1) (upd z i (f i)) H locs ls (by omega) (by omega) (cw_step hz) hP hS (lv_sub hl [0, 1, 2] rfl)
  exact loop 9 0 g _ _ _ (by omega) (by omega) (fun j hj => absurd hj (Nat.not_lt_zero j)) hP hS (lv_sub hl [0, 1, 2] rfl)
set_option maxHeartbeats 4000000 in
set_option maxRecDepth 100000 in
theorem k_X4_copyWordsT (l : Launch) (Γ : FG) (w : FW) (k1 i1 : Nat) (g : Nat → Int32) (h1 : w.2 k1 i1 = some (aI 1 8 g)) : Met l yX4_copyWords (ws_ yX4_copyWords cX4_copyWords 3 none) (rmD 0 0 0) (va_Pc [.ref Γ.2.2.2.1, .ref (w.1 k1 i1)] (fI Γ w)) (va_Qv (fun w1 => ∃ z, w1 = fset w k1 i1 (aI 1 8 z) ∧ ∀ j, j < 8 → z j = shH j) (fI Γ) (fA Γ)) 0 0 (fA Γ) := by
  refine fw_met (by decide) (Nat.le_of_ble_eq_true rfl) ?_
  intro p e s m below meth c ls C hP hS hr hlk hin hl
  have C : fC p s m [.ref Γ.2.2.2.1, .ref (w.1 k1 i1)].toArray c cX4_copyWords 3 RX4 Γ := C
  have hx := C.1.1
  have hb := C.1.2.1
  have hl : lv_has ls 3 [(0, .ref Γ.2.2.2.1), (1, .ref (w.1 k1 i1))] := hl
  refine lv_iconst (v := nI 0) hx hb dX4_copyWords_0 (by decide) ?_
  refine lv_istore_n (lv' := [(2, .int (nI 0)), (0, .ref Γ.2.2.2.1), (1, .ref (w.1 k1 i1))]) hx hb dX4_copyWords_1 rfl hl (by decide) rfl (fun ls hl => ?_)
  obtain ⟨f, hfe⟩ : ∃ f, f = shH := ⟨_, rfl⟩
  have hP : fP Γ (fset w k1 i1 (aI 1 8 g)) s.heap := by rw [fset_id h1]; exact hP
  refine W.widen (k := 0) (n := 0) (Nat.le_of_ble_eq_true rfl) (Nat.le_of_ble_eq_true rfl) ?_
  have loop : ∀ (fu : Nat) (i : Nat) (z : Nat → Int32) (H : Heap) (locs : List Loc) (ls : Array Slot), 8 - i < fu → (i ≤ 8) → (∀ j, j < i → z j = f j) → fP Γ (fset w k1 i1 (aI 1 8 z)) H → va_S (fA Γ) s.heap H locs → lv_has ls 3 [(2, .int (nI i)), (0, .ref Γ.2.2.2.1), (1, .ref (w.1 k1 i1))] → W p l e (rmD 0 0 0) s m [.ref Γ.2.2.2.1, .ref (w.1 k1 i1)].toArray below meth c H locs 0 0 (MQ below (va_Qv (fun w1 => ∃ z, w1 = fset w k1 i1 (aI 1 8 z) ∧ ∀ j, j < 8 → z j = shH j) (fI Γ) (fA Γ)) [.ref Γ.2.2.2.1, .ref (w.1 k1 i1)].toArray s 0 0 (fA Γ)) (F0 m 2 ls []) := by
    intro fu
    induction fu with
    | zero =>
      intro i z H locs ls hf
      exact absurd hf (Nat.not_lt_zero _)
    | succ fu ih =>
      intro i z H locs ls hf hi hz hP hS hl
      refine lv_iload_n hx hb dX4_copyWords_2 rfl (lv_at hl 0 rfl) ?_
      refine lv_bipush (v := nI 8) hx hb dX4_copyWords_3 (by decide) ?_
      refine fw_geN (tgt := 20) hx hb (by omega) (by omega) dX4_copyWords_5 (by decide) (fun c_5 => ?_) (fun c_5 => ?_)
      · exact fw_retv C hr hlk hP hS (⟨z, rfl, fun j hj => by rw [hz j (by omega), hfe]⟩) (Nat.le_of_ble_eq_true rfl) (Nat.le_of_ble_eq_true rfl) dX4_copyWords_20
      · refine lv_aload_n hx hb dX4_copyWords_8 rfl (lv_at hl 2 rfl) ?_
        refine lv_iload_n hx hb dX4_copyWords_9 rfl (lv_at hl 0 rfl) ?_
        refine lv_aload_n hx hb dX4_copyWords_10 rfl (lv_at hl 1 rfl) ?_
        refine lv_iload_n hx hb dX4_copyWords_11 rfl (lv_at hl 0 rfl) ?_
        refine fw_tald C hS C.2.2.1.1.2 i rfl (by omega) (by decide) dX4_copyWords_12 ?_
        refine fw_E (show shH i = f i from by rw [hfe]) ?_
        refine fw_iast C hP hS fset_at rfl i rfl (by omega) (by decide) dX4_copyWords_13 (fun H locs hP hS => ?_)
        have hP : fP Γ (fset (fset w k1 i1 (aI 1 8 z)) k1 i1 (aI 1 8 (upd z i (f i)))) H := hP
        rw [fset_s] at hP
        refine lv_iinc (v := nI (i + 1)) (lv' := [(2, .int (nI (i + 1))), (0, .ref Γ.2.2.2.1), (1, .ref (w.1 k1 i1))]) hx hb dX4_copyWords_14 hl (k := 0) rfl (by rw [show Int32.ofInt 1 = nI 1 from rfl, nI_add]) (by decide) rfl (fun ls hl => ?_)
        refine lv_goto (tgt := 2) hx hb dX4_copyWords_17 (by decide) ?_
        refine W.widen (k := 0) (n := 0) (Nat.le_of_ble_eq_true rfl) (Nat.le_of_ble_eq_true rfl) ?_
        exact ih (i + 1) (upd z i (f i)) H locs ls (by omega) (by omega) (cw_step hz) hP hS (lv_sub hl [0, 1, 2] rfl)
  exact loop 9 0 g _ _ _ (by omega) (by omega) (fun j hj => absurd hj (Nat.not_lt_zero j)) hP hS (lv_sub hl [0, 1, 2] rfl)
theorem eqw_8 {f g : Nat → Int32} {i : Nat} (h : eqw f g i = true) (hi : i = 8) : eqw f g 8 = true := by rw [← hi]; exact h
theorem eqw_no {f g : Nat → Int32} {i : Nat} : ∀ {n : Nat}, i < n → ¬ f i = g i → eqw f g n = false
  | 0, h, _ => absurd h (Nat.not_lt_zero _)
  | n + 1, h, hne => by
    unfold eqw
    rcases Nat.lt_or_ge i n with q | q
    · rw [eqw_no q hne]; rfl
    · have e : i = n := by omega
      subst e
      rw [decide_eq_false hne, Bool.and_false]
theorem eqw_congr {f g f1 g1 : Nat → Int32} : ∀ {n : Nat}, (∀ j, j < n → f j = f1 j) → (∀ j, j < n → g j = g1 j) → eqw f g n = eqw f1 g1 n
  | 0, _, _ => rfl
  | n + 1, h1, h2 => by
    unfold eqw
    rw [eqw_congr (fun j hj => h1 j (by omega)) (fun j hj => h2 j (by omega)), h1 n (by omega), h2 n (by omega)]
set_option maxHeartbeats 4000000 in
set_option maxRecDepth 100000 in
theorem k_X4_areSameWords (l : Launch) (Γ : FG) (w : FW) (k0 i0 k1 i1 : Nat) (f g : Nat → Int32) (h0 : w.2 k0 i0 = some (aI 1 8 f)) (h1 : w.2 k1 i1 = some (aI 1 8 g)) : Met l yX4_areSameWords (ws_ yX4_areSameWords cX4_areSameWords 3 (some .boolean)) (rmD 0 0 0) (va_Pc [.ref (w.1 k0 i0), .ref (w.1 k1 i1)] (fI Γ w)) (va_Qi (fun r w1 => r = b2i (eqw f g 8) ∧ w1 = w) (fI Γ) (fA Γ)) 0 0 (fA Γ) := by
  refine fw_met (by decide) (Nat.le_of_ble_eq_true rfl) ?_
  intro p e s m below meth c ls C hP hS hr hlk hin hl
  have C : fC p s m [.ref (w.1 k0 i0), .ref (w.1 k1 i1)].toArray c cX4_areSameWords 3 RX4 Γ := C
  have hx := C.1.1
  have hb := C.1.2.1
  have hl : lv_has ls 3 [(0, .ref (w.1 k0 i0)), (1, .ref (w.1 k1 i1))] := hl
  refine lv_iconst (v := nI 0) hx hb dX4_areSameWords_0 (by decide) ?_
  refine lv_istore_n (lv' := [(2, .int (nI 0)), (0, .ref (w.1 k0 i0)), (1, .ref (w.1 k1 i1))]) hx hb dX4_areSameWords_1 rfl hl (by decide) rfl (fun ls hl => ?_)
  refine W.widen (k := 0) (n := 0) (Nat.le_of_ble_eq_true rfl) (Nat.le_of_ble_eq_true rfl) ?_
  have loop : ∀ (fu : Nat) (i : Nat) (H : Heap) (locs : List Loc) (ls : Array Slot), 8 - i < fu → (i ≤ 8) → (eqw f g i = true) → fP Γ w H → va_S (fA Γ) s.heap H locs → lv_has ls 3 [(2, .int (nI i)), (0, .ref (w.1 k0 i0)), (1, .ref (w.1 k1 i1))] → W p l e (rmD 0 0 0) s m [.ref (w.1 k0 i0), .ref (w.1 k1 i1)].toArray below meth c H locs 0 0 (MQ below (va_Qi (fun r w1 => r = b2i (eqw f g 8) ∧ w1 = w) (fI Γ) (fA Γ)) [.ref (w.1 k0 i0), .ref (w.1 k1 i1)].toArray s 0 0 (fA Γ)) (F0 m 2 ls []) := by
    intro fu
    induction fu with
    | zero =>
      intro i H locs ls hf
      exact absurd hf (Nat.not_lt_zero _)
    | succ fu ih =>
      intro i H locs ls hf hi hz hP hS hl
      refine lv_iload_n hx hb dX4_areSameWords_2 rfl (lv_at hl 0 rfl) ?_
      refine lv_bipush (v := nI 8) hx hb dX4_areSameWords_3 (by decide) ?_
      refine fw_geN (tgt := 25) hx hb (by omega) (by omega) dX4_areSameWords_5 (by decide) (fun c_5 => ?_) (fun c_5 => ?_)
      · refine lv_iconst (v := nI 1) hx hb dX4_areSameWords_25 (by decide) ?_
        exact fw_reti C hr hlk rfl hP hS (⟨b2i_t (eqw_8 hz (by omega)), rfl⟩) (Nat.le_of_ble_eq_true rfl) (Nat.le_of_ble_eq_true rfl) dX4_areSameWords_26
      · refine lv_aload_n hx hb dX4_areSameWords_8 rfl (lv_at hl 1 rfl) ?_
        refine lv_iload_n hx hb dX4_areSameWords_9 rfl (lv_at hl 0 rfl) ?_
        refine fw_iald C hP h0 rfl i rfl (by omega) (by decide) dX4_areSameWords_10 ?_
        refine lv_aload_n hx hb dX4_areSameWords_11 rfl (lv_at hl 2 rfl) ?_
        refine lv_iload_n hx hb dX4_areSameWords_12 rfl (lv_at hl 0 rfl) ?_
        refine fw_iald C hP h1 rfl i rfl (by omega) (by decide) dX4_areSameWords_13 ?_
        refine lv_icmp_eq (tgt := 19) hx hb dX4_areSameWords_14 (by decide) (fun c_14 => ?_) (fun c_14 => ?_)
        · refine lv_iinc (v := nI (i + 1)) (lv' := [(2, .int (nI (i + 1))), (0, .ref (w.1 k0 i0)), (1, .ref (w.1 k1 i1))]) hx hb dX4_areSameWords_19 hl (k := 0) rfl (by rw [show Int32.ofInt 1 = nI 1 from rfl, nI_add]) (by decide) rfl (fun ls hl => ?_)
          refine lv_goto (tgt := 2) hx hb dX4_areSameWords_22 (by decide) ?_
          refine W.widen (k := 0) (n := 0) (Nat.le_of_ble_eq_true rfl) (Nat.le_of_ble_eq_true rfl) ?_
          exact ih (i + 1) H locs ls (by omega) (by omega) (by rw [eqw, hz, decide_eq_true c_14]; rfl) hP hS (lv_sub hl [0, 1, 2] rfl)
        · refine lv_iconst (v := nI 0) hx hb dX4_areSameWords_17 (by decide) ?_
          exact fw_reti C hr hlk rfl hP hS (⟨b2i_f (eqw_no (i := i) (by omega) c_14), rfl⟩) (Nat.le_of_ble_eq_true rfl) (Nat.le_of_ble_eq_true rfl) dX4_areSameWords_18
  exact loop 9 0 _ _ _ (by omega) (by omega) rfl hP hS (lv_sub hl [0, 1, 2] rfl)
end
section
theorem fset_3 {w : FW} {k1 i1 k2 i2 : Nat} {a b c : FE} (h : k1 ≠ k2) : fset (fset (fset w k1 i1 a) k2 i2 b) k1 i1 c = fset (fset w k1 i1 c) k2 i2 b := by
  show (w.1, f2 (f2 (f2 w.2 k1 i1 (some a)) k2 i2 (some b)) k1 i1 (some c)) = (w.1, f2 (f2 w.2 k1 i1 (some c)) k2 i2 (some b))
  congr 1
  funext x y
  unfold f2
  by_cases h1 : x = k1
  · subst h1
    by_cases h2 : y = i1
    · simp [h, h2]
    · simp [h, h2]
  · simp [h1]
theorem rds_s (x : S8) (w : Nat → Int32) (t : Nat) : rds x w (t + 1) = rnd (rds x w t) (shK t) (w t) := rfl
theorem pd_t {y : Nat → Nat} {n i : Nat} {b : Int32} (h : i < n) (hb : b &&& 255 = nI (y i)) : b &&& nI 255 = pdb y n i := by
  unfold pdb
  rw [if_pos h]
  exact hb
theorem pd_e {y : Nat → Nat} {n i : Nat} (h : i = n) : nI 128 = pdb y n i := by
  unfold pdb
  rw [if_neg (by omega), if_pos h]
  rfl
theorem pd_f {y : Nat → Nat} {n i : Nat} (h : ¬ i < n) (h2 : i ≠ n) : nI 0 = pdb y n i := by
  unfold pdb
  rw [if_neg h, if_neg h2]
  rfl
theorem up_s {g : Nat → Int32} {P : Nat → Int32} {i : Nat} {v : Int32} (h : ∀ j, j < i → g j = P j) (hv : v = P i) : ∀ j, j < i + 1 → upd g i v j = P j := by
  intro j hj
  unfold upd
  by_cases e : j = i
  · rw [if_pos e, e]; exact hv
  · rw [if_neg e]; exact h j (by omega)
theorem sp_step {f z : Nat → Int32} {i : Nat} {v : Int32} (hz : ∀ j, j < 16 + i → z j = shSf f i j) (hv : v = shV z (16 + i)) : ∀ j, j < 16 + (i + 1) → upd z (16 + i) v j = shSf f (i + 1) j := by
  intro j hj
  show _ = upd (shSf f i) (16 + i) (shV (shSf f i) (16 + i)) j
  unfold upd
  by_cases e : j = 16 + i
  · rw [if_pos e, if_pos e, hv]
    unfold shV
    rw [hz _ (by omega), hz _ (by omega), hz _ (by omega), hz _ (by omega)]
  · rw [if_neg e, if_neg e]; exact hz j (by omega)
theorem s8_congr {f g : Nat → Int32} (h : ∀ j, j < 8 → f j = g j) : s8 f = s8 g := by
  unfold s8
  rw [h 0 (by omega), h 1 (by omega), h 2 (by omega), h 3 (by omega), h 4 (by omega), h 5 (by omega), h 6 (by omega), h 7 (by omega)]
set_option maxHeartbeats 4000000 in
set_option maxRecDepth 100000 in
theorem k_X1_turned (l : Launch) (Γ : FG) (w : FW) (v k : Int32) : Met l yX1_turned (ws_ yX1_turned cX1_turned 2 (some .int)) (rmD 0 0 0) (va_Pc [.int v, .int k] (fI Γ w)) (va_Qi (fun r w1 => r = trn v k ∧ w1 = w) (fI Γ) (fA Γ)) 0 0 (fA Γ) := by
  refine fw_met (by decide) (Nat.le_of_ble_eq_true rfl) ?_
  intro p e s m below meth c ls C hP hS hr hlk hin hl
  have C : fC p s m [.int v, .int k].toArray c cX1_turned 2 RX1 Γ := C
  have hx := C.1.1
  have hb := C.1.2.1
  have hl : lv_has ls 2 [(0, .int v), (1, .int k)] := hl
  refine lv_iload_n hx hb dX1_turned_0 rfl (lv_at hl 0 rfl) ?_
  refine lv_iload_n hx hb dX1_turned_1 rfl (lv_at hl 1 rfl) ?_
  refine lv_iushr (v := ush v k) hx hb dX1_turned_2 rfl ?_
  refine lv_iload_n hx hb dX1_turned_3 rfl (lv_at hl 0 rfl) ?_
  refine lv_bipush (v := 32) hx hb dX1_turned_4 (by decide) ?_
  refine lv_iload_n hx hb dX1_turned_6 rfl (lv_at hl 1 rfl) ?_
  refine lv_isub hx hb dX1_turned_7 ?_
  refine lv_ishl hx hb dX1_turned_8 ?_
  refine lv_ior hx hb dX1_turned_9 ?_
  exact fw_reti C hr hlk rfl hP hS (⟨rfl, rfl⟩) (Nat.le_of_ble_eq_true rfl) (Nat.le_of_ble_eq_true rfl) dX1_turned_10
set_option maxHeartbeats 4000000 in
set_option maxRecDepth 100000 in
theorem k_X1_paddedByte (l : Launch) (Γ : FG) (w : FW) (t n i nb : Nat) (b : Nat → Int32) (y : Nat → Nat) (hb0 : n ≤ nb) (hnb : nb < 2 ^ 31) (hi : i < 2 ^ 31) (hy : ∀ j, j < n → b j &&& 255 = nI (y j)) (h0 : w.2 12 t = some (aI 0 nb b)) : Met l yX1_paddedByte (ws_ yX1_paddedByte cX1_paddedByte 3 (some .int)) (rmD 0 0 0) (va_Pc [.ref (w.1 12 t), .int (nI n), .int (nI i)] (fI Γ w)) (va_Qi (fun r w1 => r = pdb y n i ∧ w1 = w) (fI Γ) (fA Γ)) 0 0 (fA Γ) := by
  refine fw_met (by decide) (Nat.le_of_ble_eq_true rfl) ?_
  intro p e s m below meth c ls C hP hS hr hlk hin hl
  have C : fC p s m [.ref (w.1 12 t), .int (nI n), .int (nI i)].toArray c cX1_paddedByte 3 RX1 Γ := C
  have hx := C.1.1
  have hb := C.1.2.1
  have hl : lv_has ls 3 [(0, .ref (w.1 12 t)), (1, .int (nI n)), (2, .int (nI i))] := hl
  refine lv_iload_n hx hb dX1_paddedByte_0 rfl (lv_at hl 2 rfl) ?_
  refine fw_iltN hx hb hi dX1_paddedByte_1 (tgt := 23) (by decide) ?_
  refine lv_iload_n hx hb dX1_paddedByte_4 rfl (lv_at hl 2 rfl) ?_
  refine lv_iload_n hx hb dX1_paddedByte_5 rfl (lv_at hl 1 rfl) ?_
  refine fw_geN (tgt := 23) hx hb (by omega) (by omega) dX1_paddedByte_6 (by decide) (fun c_6 => ?_) (fun c_6 => ?_)
  · refine lv_iload_n hx hb dX1_paddedByte_23 rfl (lv_at hl 2 rfl) ?_
    refine lv_iload_n hx hb dX1_paddedByte_24 rfl (lv_at hl 1 rfl) ?_
    refine fw_neN (tgt := 34) hx hb (by omega) (by omega) dX1_paddedByte_25 (by decide) (fun c_25 => ?_) (fun c_25 => ?_)
    · refine lv_iconst (v := nI 0) hx hb dX1_paddedByte_34 (by decide) ?_
      exact fw_reti C hr hlk rfl hP hS (⟨pd_f (by omega) c_25, rfl⟩) (Nat.le_of_ble_eq_true rfl) (Nat.le_of_ble_eq_true rfl) dX1_paddedByte_35
    · refine lv_sipush (v := nI 128) hx hb dX1_paddedByte_28 (by decide) ?_
      refine lv_goto (tgt := 35) hx hb dX1_paddedByte_31 (by decide) ?_
      exact fw_reti C hr hlk rfl hP hS (⟨pd_e c_25, rfl⟩) (Nat.le_of_ble_eq_true rfl) (Nat.le_of_ble_eq_true rfl) dX1_paddedByte_35
  · refine lv_iload_n hx hb dX1_paddedByte_9 rfl (lv_at hl 2 rfl) ?_
    refine lv_aload_n hx hb dX1_paddedByte_10 rfl (lv_at hl 0 rfl) ?_
    refine fw_alen C hP (by decide) h0 rfl dX1_paddedByte_11 ?_
    refine fw_geN (tgt := 23) hx hb (by omega) (by omega) dX1_paddedByte_12 (by decide) (fun c_12 => ?_) (fun c_12 => ?_)
    · exact absurd c_12 (by omega)
    · refine lv_aload_n hx hb dX1_paddedByte_15 rfl (lv_at hl 0 rfl) ?_
      refine lv_iload_n hx hb dX1_paddedByte_16 rfl (lv_at hl 2 rfl) ?_
      refine fw_bald C hP h0 rfl i rfl (by omega) (by omega) dX1_paddedByte_17 ?_
      refine lv_sipush (v := nI 255) hx hb dX1_paddedByte_18 (by decide) ?_
      refine lv_iand hx hb dX1_paddedByte_21 ?_
      exact fw_reti C hr hlk rfl hP hS (⟨pd_t c_6 (hy i c_6), rfl⟩) (Nat.le_of_ble_eq_true rfl) (Nat.le_of_ble_eq_true rfl) dX1_paddedByte_22
set_option maxHeartbeats 4000000 in
set_option maxRecDepth 100000 in
theorem k_X1_loadBlock (l : Launch) (Γ : FG) (w : FW) (t n : Nat) (b : Nat → Int32) (y : Nat → Nat) (hn : n ≤ 1000) (hy : ∀ j, j < n → b j &&& 255 = nI (y j)) (h12 : w.2 12 t = some (aI 0 1000 b)) (h7 : w.2 7 0 = some (oO 1 [.ref (w.1 8 0), .ref (w.1 9 0)])) (k : Nat) (hk : k < (n + 8) / 64 + 1) (g : Nat → Int32) (h9 : w.2 9 0 = some (aI 1 64 g)) : Met l yX1_loadBlock (ws_ yX1_loadBlock cX1_loadBlock 7 none) (rmD 1 0 0) (va_Pc [.ref (w.1 7 0), .ref (w.1 12 t), .int (nI n), .int (nI k), .int (nI ((n + 8) / 64 + 1))] (fI Γ w)) (va_Qv (fun w1 => ∃ z, w1 = fset w 9 0 (aI 1 64 z) ∧ ∀ j, j < 16 → z j = shW y n k j) (fI Γ) (fA Γ)) 0 0 (fA Γ) := by
  refine fw_met (by decide) (Nat.le_of_ble_eq_true rfl) ?_
  intro p e s m below meth c ls C hP hS hr hlk hin hl
  have C : fC p s m [.ref (w.1 7 0), .ref (w.1 12 t), .int (nI n), .int (nI k), .int (nI ((n + 8) / 64 + 1))].toArray c cX1_loadBlock 7 RX1 Γ := C
  have hx := C.1.1
  have hb := C.1.2.1
  have hl : lv_has ls 7 [(0, .ref (w.1 7 0)), (1, .ref (w.1 12 t)), (2, .int (nI n)), (3, .int (nI k)), (4, .int (nI ((n + 8) / 64 + 1)))] := hl
  refine lv_iconst (v := nI 0) hx hb dX1_loadBlock_0 (by decide) ?_
  refine lv_istore (lv' := [(5, .int (nI 0)), (0, .ref (w.1 7 0)), (1, .ref (w.1 12 t)), (2, .int (nI n)), (3, .int (nI k)), (4, .int (nI ((n + 8) / 64 + 1)))]) hx hb dX1_loadBlock_1 hl (by decide) rfl (fun ls hl => ?_)
  have hP : fP Γ (fset w 9 0 (aI 1 64 g)) s.heap := by rw [fset_id h9]; exact hP
  refine W.widen (k := 0) (n := 0) (Nat.le_of_ble_eq_true rfl) (Nat.le_of_ble_eq_true rfl) ?_
  have loop : ∀ (fu : Nat) (i : Nat) (z : Nat → Int32) (H : Heap) (locs : List Loc) (ls : Array Slot), 16 - i < fu → (i ≤ 16) → (∀ j, j < i → z j = wd4 (pdb y n) (k * 64 + 4 * j)) → fP Γ (fset w 9 0 (aI 1 64 z)) H → va_S (fA Γ) s.heap H locs → lv_has ls 7 [(5, .int (nI i)), (0, .ref (w.1 7 0)), (1, .ref (w.1 12 t)), (2, .int (nI n)), (3, .int (nI k)), (4, .int (nI ((n + 8) / 64 + 1)))] → W p l e (rmD 1 0 0) s m [.ref (w.1 7 0), .ref (w.1 12 t), .int (nI n), .int (nI k), .int (nI ((n + 8) / 64 + 1))].toArray below meth c H locs 0 0 (MQ below (va_Qv (fun w1 => ∃ z, w1 = fset w 9 0 (aI 1 64 z) ∧ ∀ j, j < 16 → z j = shW y n k j) (fI Γ) (fA Γ)) [.ref (w.1 7 0), .ref (w.1 12 t), .int (nI n), .int (nI k), .int (nI ((n + 8) / 64 + 1))].toArray s 0 0 (fA Γ)) (F0 m 3 ls []) := by
    intro fu
    induction fu with
    | zero =>
      intro i z H locs ls hf
      exact absurd hf (Nat.not_lt_zero _)
    | succ fu ih =>
      intro i z H locs ls hf hi hz hP hS hl
      refine lv_iload hx hb dX1_loadBlock_3 (lv_at hl 0 rfl) ?_
      refine lv_bipush (v := nI 16) hx hb dX1_loadBlock_5 (by decide) ?_
      refine fw_geN (tgt := 80) hx hb (by omega) (by omega) dX1_loadBlock_7 (by decide) (fun c_7 => ?_) (fun c_7 => ?_)
      · refine lv_iload_n hx hb dX1_loadBlock_80 rfl (lv_at hl 4 rfl) ?_
        refine lv_iload hx hb dX1_loadBlock_81 (lv_at hl 5 rfl) ?_
        refine lv_iconst (v := nI 1) hx hb dX1_loadBlock_83 (by decide) ?_
        refine fw_subN hx hb (by omega) dX1_loadBlock_84 ?_
        refine fw_neN (tgt := 99) hx hb (by omega) (by omega) dX1_loadBlock_85 (by decide) (fun c_85 => ?_) (fun c_85 => ?_)
        · exact fw_retv C hr hlk hP hS (⟨z, rfl, fun j hj => by rw [hz j (by omega), shW, if_neg (by omega)]⟩) (Nat.le_of_ble_eq_true rfl) (Nat.le_of_ble_eq_true rfl) dX1_loadBlock_99
        · refine lv_aload_n hx hb dX1_loadBlock_88 rfl (lv_at hl 1 rfl) ?_
          refine gf_X1_15 C hP ((fset_ne (by decide)).trans h7) rfl rfl dX1_loadBlock_89 ?_
          refine lv_bipush (v := nI 15) hx hb dX1_loadBlock_92 (by decide) ?_
          refine lv_iload_n hx hb dX1_loadBlock_94 rfl (lv_at hl 3 rfl) ?_
          refine lv_bipush (v := nI 8) hx hb dX1_loadBlock_95 (by decide) ?_
          refine fw_mulN hx hb dX1_loadBlock_97 ?_
          refine fw_iast C hP hS fset_at rfl 15 rfl (by omega) (by decide) dX1_loadBlock_98 (fun H locs hP hS => ?_)
          have hP : fP Γ (fset (fset w 9 0 (aI 1 64 z)) 9 0 (aI 1 64 (upd z 15 (nI (n * 8))))) H := hP
          rw [fset_s] at hP
          refine fw_retv C hr hlk hP hS ⟨_, rfl, fun j hj => ?_⟩ (Nat.le_of_ble_eq_true rfl) (Nat.le_of_ble_eq_true rfl) dX1_loadBlock_99
          rw [shW]
          unfold upd
          by_cases e : j = 15
          · rw [if_pos e, if_pos ⟨by omega, e⟩]
          · rw [if_neg e, if_neg (fun q => e q.2)]
            exact hz j (by omega)
      · refine lv_iload_n hx hb dX1_loadBlock_10 rfl (lv_at hl 4 rfl) ?_
        refine lv_bipush (v := nI 64) hx hb dX1_loadBlock_11 (by decide) ?_
        refine fw_mulN hx hb dX1_loadBlock_13 ?_
        refine lv_iconst (v := nI 4) hx hb dX1_loadBlock_14 (by decide) ?_
        refine lv_iload hx hb dX1_loadBlock_15 (lv_at hl 0 rfl) ?_
        refine fw_mulN hx hb dX1_loadBlock_17 ?_
        refine fw_addN hx hb dX1_loadBlock_18 ?_
        refine lv_istore (lv' := [(6, .int (nI (k * 64 + (4 * i)))), (5, .int (nI i)), (0, .ref (w.1 7 0)), (1, .ref (w.1 12 t)), (2, .int (nI n)), (3, .int (nI k)), (4, .int (nI ((n + 8) / 64 + 1)))]) hx hb dX1_loadBlock_19 hl (by decide) rfl (fun ls hl => ?_)
        refine lv_aload_n hx hb dX1_loadBlock_21 rfl (lv_at hl 2 rfl) ?_
        refine gf_X1_15 C hP ((fset_ne (by decide)).trans h7) rfl rfl dX1_loadBlock_22 ?_
        refine lv_iload hx hb dX1_loadBlock_25 (lv_at hl 1 rfl) ?_
        refine lv_aload_n hx hb dX1_loadBlock_27 rfl (lv_at hl 3 rfl) ?_
        refine lv_iload_n hx hb dX1_loadBlock_28 rfl (lv_at hl 4 rfl) ?_
        refine lv_iload hx hb dX1_loadBlock_29 (lv_at hl 0 rfl) ?_
        refine fw_ci0 (w := (fset w 9 0 (aI 1 64 z))) hS (fw_rS (rest := [.int (nI i), .ref (w.1 9 0)]) (As := [.ref (w.1 12 t), .int (nI n), .int (nI (k * 64 + (4 * i)))]) C hP hS wS_X1_35 (k_X1_paddedByte l Γ (fset w 9 0 (aI 1 64 z)) t n (k * 64 + (4 * i)) 1000 b y (by omega) (by decide) (by omega) hy ((fset_ne (by decide)).trans h12)) (fRm_mk rfl rfl (Nat.le_of_ble_eq_true rfl) (Nat.le_of_ble_eq_true rfl) (Nat.le_of_ble_eq_true rfl) (Nat.le_of_ble_eq_true rfl) (Nat.le_of_ble_eq_true rfl)) rfl hl.1 rfl dX1_loadBlock_31) (fun H locs hP hS => ?_)
        refine lv_bipush (v := 24) hx hb dX1_loadBlock_34 (by decide) ?_
        refine lv_ishl hx hb dX1_loadBlock_36 ?_
        refine lv_aload_n hx hb dX1_loadBlock_37 rfl (lv_at hl 3 rfl) ?_
        refine lv_iload_n hx hb dX1_loadBlock_38 rfl (lv_at hl 4 rfl) ?_
        refine lv_iload hx hb dX1_loadBlock_39 (lv_at hl 0 rfl) ?_
        refine lv_iconst (v := nI 1) hx hb dX1_loadBlock_41 (by decide) ?_
        refine fw_addN hx hb dX1_loadBlock_42 ?_
        refine fw_ci0 (w := (fset w 9 0 (aI 1 64 z))) hS (fw_rS (rest := [.int ((pdb y n (k * 64 + (4 * i))) <<< (24 &&& 31)), .int (nI i), .ref (w.1 9 0)]) (As := [.ref (w.1 12 t), .int (nI n), .int (nI (k * 64 + (4 * i) + 1))]) C hP hS wS_X1_35 (k_X1_paddedByte l Γ (fset w 9 0 (aI 1 64 z)) t n (k * 64 + (4 * i) + 1) 1000 b y (by omega) (by decide) (by omega) hy ((fset_ne (by decide)).trans h12)) (fRm_mk rfl rfl (Nat.le_of_ble_eq_true rfl) (Nat.le_of_ble_eq_true rfl) (Nat.le_of_ble_eq_true rfl) (Nat.le_of_ble_eq_true rfl) (Nat.le_of_ble_eq_true rfl)) rfl hl.1 rfl dX1_loadBlock_43) (fun H locs hP hS => ?_)
        refine lv_bipush (v := 16) hx hb dX1_loadBlock_46 (by decide) ?_
        refine lv_ishl hx hb dX1_loadBlock_48 ?_
        refine lv_ior hx hb dX1_loadBlock_49 ?_
        refine lv_aload_n hx hb dX1_loadBlock_50 rfl (lv_at hl 3 rfl) ?_
        refine lv_iload_n hx hb dX1_loadBlock_51 rfl (lv_at hl 4 rfl) ?_
        refine lv_iload hx hb dX1_loadBlock_52 (lv_at hl 0 rfl) ?_
        refine lv_iconst (v := nI 2) hx hb dX1_loadBlock_54 (by decide) ?_
        refine fw_addN hx hb dX1_loadBlock_55 ?_
        refine fw_ci0 (w := (fset w 9 0 (aI 1 64 z))) hS (fw_rS (rest := [.int (((pdb y n (k * 64 + (4 * i))) <<< (24 &&& 31)) ||| ((pdb y n (k * 64 + (4 * i) + 1)) <<< (16 &&& 31))), .int (nI i), .ref (w.1 9 0)]) (As := [.ref (w.1 12 t), .int (nI n), .int (nI (k * 64 + (4 * i) + 2))]) C hP hS wS_X1_35 (k_X1_paddedByte l Γ (fset w 9 0 (aI 1 64 z)) t n (k * 64 + (4 * i) + 2) 1000 b y (by omega) (by decide) (by omega) hy ((fset_ne (by decide)).trans h12)) (fRm_mk rfl rfl (Nat.le_of_ble_eq_true rfl) (Nat.le_of_ble_eq_true rfl) (Nat.le_of_ble_eq_true rfl) (Nat.le_of_ble_eq_true rfl) (Nat.le_of_ble_eq_true rfl)) rfl hl.1 rfl dX1_loadBlock_56) (fun H locs hP hS => ?_)
        refine lv_bipush (v := 8) hx hb dX1_loadBlock_59 (by decide) ?_
        refine lv_ishl hx hb dX1_loadBlock_61 ?_
        refine lv_ior hx hb dX1_loadBlock_62 ?_
        refine lv_aload_n hx hb dX1_loadBlock_63 rfl (lv_at hl 3 rfl) ?_
        refine lv_iload_n hx hb dX1_loadBlock_64 rfl (lv_at hl 4 rfl) ?_
        refine lv_iload hx hb dX1_loadBlock_65 (lv_at hl 0 rfl) ?_
        refine lv_iconst (v := nI 3) hx hb dX1_loadBlock_67 (by decide) ?_
        refine fw_addN hx hb dX1_loadBlock_68 ?_
        refine fw_ci0 (w := (fset w 9 0 (aI 1 64 z))) hS (fw_rS (rest := [.int ((((pdb y n (k * 64 + (4 * i))) <<< (24 &&& 31)) ||| ((pdb y n (k * 64 + (4 * i) + 1)) <<< (16 &&& 31))) ||| ((pdb y n (k * 64 + (4 * i) + 2)) <<< (8 &&& 31))), .int (nI i), .ref (w.1 9 0)]) (As := [.ref (w.1 12 t), .int (nI n), .int (nI (k * 64 + (4 * i) + 3))]) C hP hS wS_X1_35 (k_X1_paddedByte l Γ (fset w 9 0 (aI 1 64 z)) t n (k * 64 + (4 * i) + 3) 1000 b y (by omega) (by decide) (by omega) hy ((fset_ne (by decide)).trans h12)) (fRm_mk rfl rfl (Nat.le_of_ble_eq_true rfl) (Nat.le_of_ble_eq_true rfl) (Nat.le_of_ble_eq_true rfl) (Nat.le_of_ble_eq_true rfl) (Nat.le_of_ble_eq_true rfl)) rfl hl.1 rfl dX1_loadBlock_69) (fun H locs hP hS => ?_)
        refine lv_ior hx hb dX1_loadBlock_72 ?_
        refine fw_iast C hP hS fset_at rfl i rfl (by omega) (by decide) dX1_loadBlock_73 (fun H locs hP hS => ?_)
        have hP : fP Γ (fset (fset w 9 0 (aI 1 64 z)) 9 0 (aI 1 64 (upd z i (((((pdb y n (k * 64 + (4 * i))) <<< (24 &&& 31)) ||| ((pdb y n (k * 64 + (4 * i) + 1)) <<< (16 &&& 31))) ||| ((pdb y n (k * 64 + (4 * i) + 2)) <<< (8 &&& 31))) ||| (pdb y n (k * 64 + (4 * i) + 3)))))) H := hP
        rw [fset_s] at hP
        refine lv_iinc (v := nI (i + 1)) (lv' := [(5, .int (nI (i + 1))), (6, .int (nI (k * 64 + (4 * i)))), (0, .ref (w.1 7 0)), (1, .ref (w.1 12 t)), (2, .int (nI n)), (3, .int (nI k)), (4, .int (nI ((n + 8) / 64 + 1)))]) hx hb dX1_loadBlock_74 hl (k := 1) rfl (by rw [show Int32.ofInt 1 = nI 1 from rfl, nI_add]) (by decide) rfl (fun ls hl => ?_)
        refine lv_goto (tgt := 3) hx hb dX1_loadBlock_77 (by decide) ?_
        refine W.widen (k := 0) (n := 0) (Nat.le_of_ble_eq_true rfl) (Nat.le_of_ble_eq_true rfl) ?_
        exact ih (i + 1) (upd z i (((((pdb y n (k * 64 + (4 * i))) <<< (24 &&& 31)) ||| ((pdb y n (k * 64 + (4 * i) + 1)) <<< (16 &&& 31))) ||| ((pdb y n (k * 64 + (4 * i) + 2)) <<< (8 &&& 31))) ||| (pdb y n (k * 64 + (4 * i) + 3)))) H locs ls (by omega) (by omega) (up_s hz rfl) hP hS (lv_sub hl [0, 2, 3, 4, 5, 6] rfl)
  exact loop 17 0 g _ _ _ (by omega) (by omega) (fun j hj => absurd hj (Nat.not_lt_zero j)) hP hS (lv_sub hl [0, 1, 2, 3, 4, 5] rfl)
set_option maxHeartbeats 4000000 in
set_option maxRecDepth 100000 in
theorem k_X1_spreadBlock (l : Launch) (Γ : FG) (w : FW) (f : Nat → Int32) (h7 : w.2 7 0 = some (oO 1 [.ref (w.1 8 0), .ref (w.1 9 0)])) (h9 : w.2 9 0 = some (aI 1 64 f)) : Met l yX1_spreadBlock (ws_ yX1_spreadBlock cX1_spreadBlock 6 none) (rmD 1 0 0) (va_Pc [.ref (w.1 7 0)] (fI Γ w)) (va_Qv (fun w1 => ∃ z, w1 = fset w 9 0 (aI 1 64 z) ∧ ∀ j, j < 64 → z j = shSf f 48 j) (fI Γ) (fA Γ)) 0 0 (fA Γ) := by
  refine fw_met (by decide) (Nat.le_of_ble_eq_true rfl) ?_
  intro p e s m below meth c ls C hP hS hr hlk hin hl
  have C : fC p s m [.ref (w.1 7 0)].toArray c cX1_spreadBlock 6 RX1 Γ := C
  have hx := C.1.1
  have hb := C.1.2.1
  have hl : lv_has ls 6 [(0, .ref (w.1 7 0))] := hl
  refine lv_bipush (v := nI 16) hx hb dX1_spreadBlock_0 (by decide) ?_
  refine lv_istore_n (lv' := [(1, .int (nI 16)), (0, .ref (w.1 7 0))]) hx hb dX1_spreadBlock_2 rfl hl (by decide) rfl (fun ls hl => ?_)
  have hP : fP Γ (fset w 9 0 (aI 1 64 f)) s.heap := by rw [fset_id h9]; exact hP
  refine W.widen (k := 0) (n := 0) (Nat.le_of_ble_eq_true rfl) (Nat.le_of_ble_eq_true rfl) ?_
  have loop : ∀ (fu : Nat) (i : Nat) (z : Nat → Int32) (H : Heap) (locs : List Loc) (ls : Array Slot), 48 - i < fu → (i ≤ 48) → (∀ j, j < 16 + i → z j = shSf f i j) → fP Γ (fset w 9 0 (aI 1 64 z)) H → va_S (fA Γ) s.heap H locs → lv_has ls 6 [(1, .int (nI (16 + i))), (0, .ref (w.1 7 0))] → W p l e (rmD 1 0 0) s m [.ref (w.1 7 0)].toArray below meth c H locs 0 0 (MQ below (va_Qv (fun w1 => ∃ z, w1 = fset w 9 0 (aI 1 64 z) ∧ ∀ j, j < 64 → z j = shSf f 48 j) (fI Γ) (fA Γ)) [.ref (w.1 7 0)].toArray s 0 0 (fA Γ)) (F0 m 3 ls []) := by
    intro fu
    induction fu with
    | zero =>
      intro i z H locs ls hf
      exact absurd hf (Nat.not_lt_zero _)
    | succ fu ih =>
      intro i z H locs ls hf hi hz hP hS hl
      refine lv_iload_n hx hb dX1_spreadBlock_3 rfl (lv_at hl 0 rfl) ?_
      refine lv_bipush (v := nI 64) hx hb dX1_spreadBlock_4 (by decide) ?_
      refine fw_geN (tgt := 104) hx hb (by omega) (by omega) dX1_spreadBlock_6 (by decide) (fun c_6 => ?_) (fun c_6 => ?_)
      · exact fw_retv C hr hlk hP hS (⟨z, rfl, fun j hj => by rw [hz j (by omega), (by omega : i = 48)]⟩) (Nat.le_of_ble_eq_true rfl) (Nat.le_of_ble_eq_true rfl) dX1_spreadBlock_104
      · refine lv_aload_n hx hb dX1_spreadBlock_9 rfl (lv_at hl 1 rfl) ?_
        refine gf_X1_15 C hP ((fset_ne (by decide)).trans h7) rfl rfl dX1_spreadBlock_10 ?_
        refine lv_iload_n hx hb dX1_spreadBlock_13 rfl (lv_at hl 0 rfl) ?_
        refine lv_iconst (v := nI 2) hx hb dX1_spreadBlock_14 (by decide) ?_
        refine fw_subN hx hb (by omega) dX1_spreadBlock_15 ?_
        refine fw_iald C hP fset_at rfl ((16 + i) - 2) rfl (by omega) (by decide) dX1_spreadBlock_16 ?_
        refine lv_topi (fun x2_17 e_x2_17 => ?_)
        refine lv_istore_n (lv' := [(2, .int x2_17), (1, .int (nI (16 + i))), (0, .ref (w.1 7 0))]) hx hb dX1_spreadBlock_17 rfl hl (by decide) rfl (fun ls hl => ?_)
        refine lv_aload_n hx hb dX1_spreadBlock_18 rfl (lv_at hl 2 rfl) ?_
        refine gf_X1_15 C hP ((fset_ne (by decide)).trans h7) rfl rfl dX1_spreadBlock_19 ?_
        refine lv_iload_n hx hb dX1_spreadBlock_22 rfl (lv_at hl 1 rfl) ?_
        refine lv_bipush (v := nI 15) hx hb dX1_spreadBlock_23 (by decide) ?_
        refine fw_subN hx hb (by omega) dX1_spreadBlock_25 ?_
        refine fw_iald C hP fset_at rfl ((16 + i) - 15) rfl (by omega) (by decide) dX1_spreadBlock_26 ?_
        refine lv_topi (fun x3_27 e_x3_27 => ?_)
        refine lv_istore_n (lv' := [(3, .int x3_27), (2, .int x2_17), (1, .int (nI (16 + i))), (0, .ref (w.1 7 0))]) hx hb dX1_spreadBlock_27 rfl hl (by decide) rfl (fun ls hl => ?_)
        refine lv_iload_n hx hb dX1_spreadBlock_28 rfl (lv_at hl 1 rfl) ?_
        refine lv_bipush (v := 17) hx hb dX1_spreadBlock_29 (by decide) ?_
        refine fw_ci0 (w := (fset w 9 0 (aI 1 64 z))) hS (fw_rS (rest := []) (As := [.int x2_17, .int 17]) C hP hS wS_X1_39 (k_X1_turned l Γ (fset w 9 0 (aI 1 64 z)) x2_17 17) (fRm_mk rfl rfl (Nat.le_of_ble_eq_true rfl) (Nat.le_of_ble_eq_true rfl) (Nat.le_of_ble_eq_true rfl) (Nat.le_of_ble_eq_true rfl) (Nat.le_of_ble_eq_true rfl)) rfl hl.1 rfl dX1_spreadBlock_31) (fun H locs hP hS => ?_)
        refine lv_iload_n hx hb dX1_spreadBlock_34 rfl (lv_at hl 1 rfl) ?_
        refine lv_bipush (v := 19) hx hb dX1_spreadBlock_35 (by decide) ?_
        refine fw_ci0 (w := (fset w 9 0 (aI 1 64 z))) hS (fw_rS (rest := [.int (trn x2_17 17)]) (As := [.int x2_17, .int 19]) C hP hS wS_X1_39 (k_X1_turned l Γ (fset w 9 0 (aI 1 64 z)) x2_17 19) (fRm_mk rfl rfl (Nat.le_of_ble_eq_true rfl) (Nat.le_of_ble_eq_true rfl) (Nat.le_of_ble_eq_true rfl) (Nat.le_of_ble_eq_true rfl) (Nat.le_of_ble_eq_true rfl)) rfl hl.1 rfl dX1_spreadBlock_37) (fun H locs hP hS => ?_)
        refine lv_ixor hx hb dX1_spreadBlock_40 ?_
        refine lv_iload_n hx hb dX1_spreadBlock_41 rfl (lv_at hl 1 rfl) ?_
        refine lv_bipush (v := 10) hx hb dX1_spreadBlock_42 (by decide) ?_
        refine lv_iushr (v := ush x2_17 10) hx hb dX1_spreadBlock_44 rfl ?_
        refine lv_ixor hx hb dX1_spreadBlock_45 ?_
        refine lv_topi (fun x4_46 e_x4_46 => ?_)
        refine lv_istore (lv' := [(4, .int x4_46), (3, .int x3_27), (2, .int x2_17), (1, .int (nI (16 + i))), (0, .ref (w.1 7 0))]) hx hb dX1_spreadBlock_46 hl (by decide) rfl (fun ls hl => ?_)
        refine lv_iload_n hx hb dX1_spreadBlock_48 rfl (lv_at hl 1 rfl) ?_
        refine lv_bipush (v := 7) hx hb dX1_spreadBlock_49 (by decide) ?_
        refine fw_ci0 (w := (fset w 9 0 (aI 1 64 z))) hS (fw_rS (rest := []) (As := [.int x3_27, .int 7]) C hP hS wS_X1_39 (k_X1_turned l Γ (fset w 9 0 (aI 1 64 z)) x3_27 7) (fRm_mk rfl rfl (Nat.le_of_ble_eq_true rfl) (Nat.le_of_ble_eq_true rfl) (Nat.le_of_ble_eq_true rfl) (Nat.le_of_ble_eq_true rfl) (Nat.le_of_ble_eq_true rfl)) rfl hl.1 rfl dX1_spreadBlock_51) (fun H locs hP hS => ?_)
        refine lv_iload_n hx hb dX1_spreadBlock_54 rfl (lv_at hl 1 rfl) ?_
        refine lv_bipush (v := 18) hx hb dX1_spreadBlock_55 (by decide) ?_
        refine fw_ci0 (w := (fset w 9 0 (aI 1 64 z))) hS (fw_rS (rest := [.int (trn x3_27 7)]) (As := [.int x3_27, .int 18]) C hP hS wS_X1_39 (k_X1_turned l Γ (fset w 9 0 (aI 1 64 z)) x3_27 18) (fRm_mk rfl rfl (Nat.le_of_ble_eq_true rfl) (Nat.le_of_ble_eq_true rfl) (Nat.le_of_ble_eq_true rfl) (Nat.le_of_ble_eq_true rfl) (Nat.le_of_ble_eq_true rfl)) rfl hl.1 rfl dX1_spreadBlock_57) (fun H locs hP hS => ?_)
        refine lv_ixor hx hb dX1_spreadBlock_60 ?_
        refine lv_iload_n hx hb dX1_spreadBlock_61 rfl (lv_at hl 1 rfl) ?_
        refine lv_iconst (v := 3) hx hb dX1_spreadBlock_62 (by decide) ?_
        refine lv_iushr (v := ush x3_27 3) hx hb dX1_spreadBlock_63 rfl ?_
        refine lv_ixor hx hb dX1_spreadBlock_64 ?_
        refine lv_topi (fun x5_65 e_x5_65 => ?_)
        refine lv_istore (lv' := [(5, .int x5_65), (4, .int x4_46), (3, .int x3_27), (2, .int x2_17), (1, .int (nI (16 + i))), (0, .ref (w.1 7 0))]) hx hb dX1_spreadBlock_65 hl (by decide) rfl (fun ls hl => ?_)
        refine lv_aload_n hx hb dX1_spreadBlock_67 rfl (lv_at hl 5 rfl) ?_
        refine gf_X1_15 C hP ((fset_ne (by decide)).trans h7) rfl rfl dX1_spreadBlock_68 ?_
        refine lv_iload_n hx hb dX1_spreadBlock_71 rfl (lv_at hl 4 rfl) ?_
        refine lv_iload hx hb dX1_spreadBlock_72 (lv_at hl 1 rfl) ?_
        refine lv_aload_n hx hb dX1_spreadBlock_74 rfl (lv_at hl 5 rfl) ?_
        refine gf_X1_15 C hP ((fset_ne (by decide)).trans h7) rfl rfl dX1_spreadBlock_75 ?_
        refine lv_iload_n hx hb dX1_spreadBlock_78 rfl (lv_at hl 4 rfl) ?_
        refine lv_bipush (v := nI 7) hx hb dX1_spreadBlock_79 (by decide) ?_
        refine fw_subN hx hb (by omega) dX1_spreadBlock_81 ?_
        refine fw_iald C hP fset_at rfl ((16 + i) - 7) rfl (by omega) (by decide) dX1_spreadBlock_82 ?_
        refine lv_iadd hx hb dX1_spreadBlock_83 ?_
        refine lv_iload hx hb dX1_spreadBlock_84 (lv_at hl 0 rfl) ?_
        refine lv_iadd hx hb dX1_spreadBlock_86 ?_
        refine lv_aload_n hx hb dX1_spreadBlock_87 rfl (lv_at hl 5 rfl) ?_
        refine gf_X1_15 C hP ((fset_ne (by decide)).trans h7) rfl rfl dX1_spreadBlock_88 ?_
        refine lv_iload_n hx hb dX1_spreadBlock_91 rfl (lv_at hl 4 rfl) ?_
        refine lv_bipush (v := nI 16) hx hb dX1_spreadBlock_92 (by decide) ?_
        refine fw_subN hx hb (by omega) dX1_spreadBlock_94 ?_
        refine fw_iald C hP fset_at rfl ((16 + i) - 16) rfl (by omega) (by decide) dX1_spreadBlock_95 ?_
        refine lv_iadd hx hb dX1_spreadBlock_96 ?_
        refine fw_iast C hP hS fset_at rfl (16 + i) rfl (by omega) (by decide) dX1_spreadBlock_97 (fun H locs hP hS => ?_)
        have hP : fP Γ (fset (fset w 9 0 (aI 1 64 z)) 9 0 (aI 1 64 (upd z (16 + i) (((x4_46 + (z ((16 + i) - 7))) + x5_65) + (z ((16 + i) - 16)))))) H := hP
        rw [fset_s] at hP
        refine lv_iinc (v := nI (16 + i + 1)) (lv' := [(1, .int (nI (16 + i + 1))), (5, .int x5_65), (4, .int x4_46), (3, .int x3_27), (2, .int x2_17), (0, .ref (w.1 7 0))]) hx hb dX1_spreadBlock_98 hl (k := 4) rfl (by rw [show Int32.ofInt 1 = nI 1 from rfl, nI_add]) (by decide) rfl (fun ls hl => ?_)
        refine lv_goto (tgt := 3) hx hb dX1_spreadBlock_101 (by decide) ?_
        refine W.widen (k := 0) (n := 0) (Nat.le_of_ble_eq_true rfl) (Nat.le_of_ble_eq_true rfl) ?_
        exact ih (i + 1) (upd z (16 + i) (((x4_46 + (z ((16 + i) - 7))) + x5_65) + (z ((16 + i) - 16)))) H locs ls (by omega) (by omega) (sp_step hz (by rw [e_x4_46, e_x5_65, e_x2_17, e_x3_27]; rfl)) hP hS (lv_sub hl [0, 5] rfl)
  exact loop 49 0 f _ _ _ (by omega) (by omega) (fun j hj => rfl) hP hS (lv_sub hl [0, 1] rfl)
theorem mx_step {f g : Nat → Int32} {a b c d e f2v g2 h n1 n5 : Int32} {i : Nat} (hz : (a, b, c, d, e, f2v, g2, h) = rds (s8 f) g i) (h1 : n1 = rd1 e f2v g2 h (shK i) (g i) + bs0 a + mjx a b c) (h5 : n5 = d + rd1 e f2v g2 h (shK i) (g i)) : (n1, a, b, c, n5, e, f2v, g2) = rds (s8 f) g (i + 1) := by
  rw [rds_s, ← hz, h1, h5]
  rfl
set_option maxHeartbeats 4000000 in
set_option maxRecDepth 100000 in
theorem k_X1_mixBlock (l : Launch) (Γ : FG) (w : FW) (f g : Nat → Int32) (h7 : w.2 7 0 = some (oO 1 [.ref (w.1 8 0), .ref (w.1 9 0)])) (h8 : w.2 8 0 = some (aI 1 8 f)) (h9 : w.2 9 0 = some (aI 1 64 g)) : Met l yX1_mixBlock (ws_ yX1_mixBlock cX1_mixBlock 15 none) (rmD 1 0 0) (va_Pc [.ref (w.1 7 0)] (fI Γ w)) (va_Qv (fun w1 => ∃ z, w1 = fset w 8 0 (aI 1 8 z) ∧ ∀ j, j < 8 → z j = f j + at8 (rds (s8 f) g 64) j) (fI Γ) (fA Γ)) 0 0 (fA Γ) := by
  refine fw_met (by decide) (Nat.le_of_ble_eq_true rfl) ?_
  intro p e s m below meth c ls C hP hS hr hlk hin hl
  have C : fC p s m [.ref (w.1 7 0)].toArray c cX1_mixBlock 15 RX1 Γ := C
  have hx := C.1.1
  have hb := C.1.2.1
  have hl : lv_has ls 15 [(0, .ref (w.1 7 0))] := hl
  refine lv_aload_n hx hb dX1_mixBlock_0 rfl (lv_at hl 0 rfl) ?_
  refine gf_X1_9 C hP h7 rfl rfl dX1_mixBlock_1 ?_
  refine lv_iconst (v := nI 0) hx hb dX1_mixBlock_4 (by decide) ?_
  refine fw_iald C hP h8 rfl 0 rfl (by omega) (by decide) dX1_mixBlock_5 ?_
  refine lv_istore_n (lv' := [(1, .int (f 0)), (0, .ref (w.1 7 0))]) hx hb dX1_mixBlock_6 rfl hl (by decide) rfl (fun ls hl => ?_)
  refine lv_aload_n hx hb dX1_mixBlock_7 rfl (lv_at hl 1 rfl) ?_
  refine gf_X1_9 C hP h7 rfl rfl dX1_mixBlock_8 ?_
  refine lv_iconst (v := nI 1) hx hb dX1_mixBlock_11 (by decide) ?_
  refine fw_iald C hP h8 rfl 1 rfl (by omega) (by decide) dX1_mixBlock_12 ?_
  refine lv_istore_n (lv' := [(2, .int (f 1)), (1, .int (f 0)), (0, .ref (w.1 7 0))]) hx hb dX1_mixBlock_13 rfl hl (by decide) rfl (fun ls hl => ?_)
  refine lv_aload_n hx hb dX1_mixBlock_14 rfl (lv_at hl 2 rfl) ?_
  refine gf_X1_9 C hP h7 rfl rfl dX1_mixBlock_15 ?_
  refine lv_iconst (v := nI 2) hx hb dX1_mixBlock_18 (by decide) ?_
  refine fw_iald C hP h8 rfl 2 rfl (by omega) (by decide) dX1_mixBlock_19 ?_
  refine lv_istore_n (lv' := [(3, .int (f 2)), (2, .int (f 1)), (1, .int (f 0)), (0, .ref (w.1 7 0))]) hx hb dX1_mixBlock_20 rfl hl (by decide) rfl (fun ls hl => ?_)
  refine lv_aload_n hx hb dX1_mixBlock_21 rfl (lv_at hl 3 rfl) ?_
  refine gf_X1_9 C hP h7 rfl rfl dX1_mixBlock_22 ?_
  refine lv_iconst (v := nI 3) hx hb dX1_mixBlock_25 (by decide) ?_
  refine fw_iald C hP h8 rfl 3 rfl (by omega) (by decide) dX1_mixBlock_26 ?_
  refine lv_istore (lv' := [(4, .int (f 3)), (3, .int (f 2)), (2, .int (f 1)), (1, .int (f 0)), (0, .ref (w.1 7 0))]) hx hb dX1_mixBlock_27 hl (by decide) rfl (fun ls hl => ?_)
  refine lv_aload_n hx hb dX1_mixBlock_29 rfl (lv_at hl 4 rfl) ?_
  refine gf_X1_9 C hP h7 rfl rfl dX1_mixBlock_30 ?_
  refine lv_iconst (v := nI 4) hx hb dX1_mixBlock_33 (by decide) ?_
  refine fw_iald C hP h8 rfl 4 rfl (by omega) (by decide) dX1_mixBlock_34 ?_
  refine lv_istore (lv' := [(5, .int (f 4)), (4, .int (f 3)), (3, .int (f 2)), (2, .int (f 1)), (1, .int (f 0)), (0, .ref (w.1 7 0))]) hx hb dX1_mixBlock_35 hl (by decide) rfl (fun ls hl => ?_)
  refine lv_aload_n hx hb dX1_mixBlock_37 rfl (lv_at hl 5 rfl) ?_
  refine gf_X1_9 C hP h7 rfl rfl dX1_mixBlock_38 ?_
  refine lv_iconst (v := nI 5) hx hb dX1_mixBlock_41 (by decide) ?_
  refine fw_iald C hP h8 rfl 5 rfl (by omega) (by decide) dX1_mixBlock_42 ?_
  refine lv_istore (lv' := [(6, .int (f 5)), (5, .int (f 4)), (4, .int (f 3)), (3, .int (f 2)), (2, .int (f 1)), (1, .int (f 0)), (0, .ref (w.1 7 0))]) hx hb dX1_mixBlock_43 hl (by decide) rfl (fun ls hl => ?_)
  refine lv_aload_n hx hb dX1_mixBlock_45 rfl (lv_at hl 6 rfl) ?_
  refine gf_X1_9 C hP h7 rfl rfl dX1_mixBlock_46 ?_
  refine lv_bipush (v := nI 6) hx hb dX1_mixBlock_49 (by decide) ?_
  refine fw_iald C hP h8 rfl 6 rfl (by omega) (by decide) dX1_mixBlock_51 ?_
  refine lv_istore (lv' := [(7, .int (f 6)), (6, .int (f 5)), (5, .int (f 4)), (4, .int (f 3)), (3, .int (f 2)), (2, .int (f 1)), (1, .int (f 0)), (0, .ref (w.1 7 0))]) hx hb dX1_mixBlock_52 hl (by decide) rfl (fun ls hl => ?_)
  refine lv_aload_n hx hb dX1_mixBlock_54 rfl (lv_at hl 7 rfl) ?_
  refine gf_X1_9 C hP h7 rfl rfl dX1_mixBlock_55 ?_
  refine lv_bipush (v := nI 7) hx hb dX1_mixBlock_58 (by decide) ?_
  refine fw_iald C hP h8 rfl 7 rfl (by omega) (by decide) dX1_mixBlock_60 ?_
  refine lv_istore (lv' := [(8, .int (f 7)), (7, .int (f 6)), (6, .int (f 5)), (5, .int (f 4)), (4, .int (f 3)), (3, .int (f 2)), (2, .int (f 1)), (1, .int (f 0)), (0, .ref (w.1 7 0))]) hx hb dX1_mixBlock_61 hl (by decide) rfl (fun ls hl => ?_)
  refine lv_iconst (v := nI 0) hx hb dX1_mixBlock_63 (by decide) ?_
  refine lv_istore (lv' := [(9, .int (nI 0)), (8, .int (f 7)), (7, .int (f 6)), (6, .int (f 5)), (5, .int (f 4)), (4, .int (f 3)), (3, .int (f 2)), (2, .int (f 1)), (1, .int (f 0)), (0, .ref (w.1 7 0))]) hx hb dX1_mixBlock_64 hl (by decide) rfl (fun ls hl => ?_)
  refine W.widen (k := 0) (n := 0) (Nat.le_of_ble_eq_true rfl) (Nat.le_of_ble_eq_true rfl) ?_
  have loop : ∀ (fu : Nat) (i : Nat) (a b c2 d e2 f2v g2 h2 : Int32) (H : Heap) (locs : List Loc) (ls : Array Slot), 64 - i < fu → (i ≤ 64) → ((a, b, c2, d, e2, f2v, g2, h2) = rds (s8 f) g i) → fP Γ w H → va_S (fA Γ) s.heap H locs → lv_has ls 15 [(9, .int (nI i)), (1, .int a), (2, .int b), (3, .int c2), (4, .int d), (5, .int e2), (6, .int f2v), (7, .int g2), (8, .int h2), (0, .ref (w.1 7 0))] → W p l e (rmD 1 0 0) s m [.ref (w.1 7 0)].toArray below meth c H locs 0 0 (MQ below (va_Qv (fun w1 => ∃ z, w1 = fset w 8 0 (aI 1 8 z) ∧ ∀ j, j < 8 → z j = f j + at8 (rds (s8 f) g 64) j) (fI Γ) (fA Γ)) [.ref (w.1 7 0)].toArray s 0 0 (fA Γ)) (F0 m 66 ls []) := by
    intro fu
    induction fu with
    | zero =>
      intro i a b c2 d e2 f2v g2 h2 H locs ls hf
      exact absurd hf (Nat.not_lt_zero _)
    | succ fu ih =>
      intro i a b c2 d e2 f2v g2 h2 H locs ls hf hi hz hP hS hl
      refine lv_iload hx hb dX1_mixBlock_66 (lv_at hl 0 rfl) ?_
      refine lv_bipush (v := nI 64) hx hb dX1_mixBlock_68 (by decide) ?_
      refine fw_geN (tgt := 213) hx hb (by omega) (by omega) dX1_mixBlock_70 (by decide) (fun c_70 => ?_) (fun c_70 => ?_)
      · refine lv_aload_n hx hb dX1_mixBlock_213 rfl (lv_at hl 9 rfl) ?_
        refine gf_X1_9 C hP h7 rfl rfl dX1_mixBlock_214 ?_
        refine lv_iconst (v := nI 0) hx hb dX1_mixBlock_217 (by decide) ?_
        refine lv_dup2_11 hx hb dX1_mixBlock_218 rfl rfl ?_
        refine fw_iald C hP h8 rfl 0 rfl (by omega) (by decide) dX1_mixBlock_219 ?_
        refine fw_E (show f 0 = f 0 from rfl) ?_
        refine lv_iload_n hx hb dX1_mixBlock_220 rfl (lv_at hl 1 rfl) ?_
        refine lv_iadd hx hb dX1_mixBlock_221 ?_
        refine fw_iast C hP hS h8 rfl 0 rfl (by omega) (by decide) dX1_mixBlock_222 (fun H locs hP hS => ?_)
        have hP : fP Γ (fset w 8 0 (aI 1 8 (upd f 0 ((f 0) + a)))) H := hP
        refine lv_aload_n hx hb dX1_mixBlock_223 rfl (lv_at hl 9 rfl) ?_
        refine gf_X1_9 C hP ((fset_ne (by decide)).trans h7) rfl rfl dX1_mixBlock_224 ?_
        refine lv_iconst (v := nI 1) hx hb dX1_mixBlock_227 (by decide) ?_
        refine lv_dup2_11 hx hb dX1_mixBlock_228 rfl rfl ?_
        refine fw_iald C hP fset_at rfl 1 rfl (by omega) (by decide) dX1_mixBlock_229 ?_
        refine fw_E (show (upd f 0 ((f 0) + a)) 1 = f 1 from rfl) ?_
        refine lv_iload_n hx hb dX1_mixBlock_230 rfl (lv_at hl 2 rfl) ?_
        refine lv_iadd hx hb dX1_mixBlock_231 ?_
        refine fw_iast C hP hS fset_at rfl 1 rfl (by omega) (by decide) dX1_mixBlock_232 (fun H locs hP hS => ?_)
        have hP : fP Γ (fset (fset w 8 0 (aI 1 8 (upd f 0 ((f 0) + a)))) 8 0 (aI 1 8 (upd (upd f 0 ((f 0) + a)) 1 ((f 1) + b)))) H := hP
        rw [fset_s] at hP
        refine lv_aload_n hx hb dX1_mixBlock_233 rfl (lv_at hl 9 rfl) ?_
        refine gf_X1_9 C hP ((fset_ne (by decide)).trans h7) rfl rfl dX1_mixBlock_234 ?_
        refine lv_iconst (v := nI 2) hx hb dX1_mixBlock_237 (by decide) ?_
        refine lv_dup2_11 hx hb dX1_mixBlock_238 rfl rfl ?_
        refine fw_iald C hP fset_at rfl 2 rfl (by omega) (by decide) dX1_mixBlock_239 ?_
        refine fw_E (show (upd (upd f 0 ((f 0) + a)) 1 ((f 1) + b)) 2 = f 2 from rfl) ?_
        refine lv_iload_n hx hb dX1_mixBlock_240 rfl (lv_at hl 3 rfl) ?_
        refine lv_iadd hx hb dX1_mixBlock_241 ?_
        refine fw_iast C hP hS fset_at rfl 2 rfl (by omega) (by decide) dX1_mixBlock_242 (fun H locs hP hS => ?_)
        have hP : fP Γ (fset (fset w 8 0 (aI 1 8 (upd (upd f 0 ((f 0) + a)) 1 ((f 1) + b)))) 8 0 (aI 1 8 (upd (upd (upd f 0 ((f 0) + a)) 1 ((f 1) + b)) 2 ((f 2) + c2)))) H := hP
        rw [fset_s] at hP
        refine lv_aload_n hx hb dX1_mixBlock_243 rfl (lv_at hl 9 rfl) ?_
        refine gf_X1_9 C hP ((fset_ne (by decide)).trans h7) rfl rfl dX1_mixBlock_244 ?_
        refine lv_iconst (v := nI 3) hx hb dX1_mixBlock_247 (by decide) ?_
        refine lv_dup2_11 hx hb dX1_mixBlock_248 rfl rfl ?_
        refine fw_iald C hP fset_at rfl 3 rfl (by omega) (by decide) dX1_mixBlock_249 ?_
        refine fw_E (show (upd (upd (upd f 0 ((f 0) + a)) 1 ((f 1) + b)) 2 ((f 2) + c2)) 3 = f 3 from rfl) ?_
        refine lv_iload hx hb dX1_mixBlock_250 (lv_at hl 4 rfl) ?_
        refine lv_iadd hx hb dX1_mixBlock_252 ?_
        refine fw_iast C hP hS fset_at rfl 3 rfl (by omega) (by decide) dX1_mixBlock_253 (fun H locs hP hS => ?_)
        have hP : fP Γ (fset (fset w 8 0 (aI 1 8 (upd (upd (upd f 0 ((f 0) + a)) 1 ((f 1) + b)) 2 ((f 2) + c2)))) 8 0 (aI 1 8 (upd (upd (upd (upd f 0 ((f 0) + a)) 1 ((f 1) + b)) 2 ((f 2) + c2)) 3 ((f 3) + d)))) H := hP
        rw [fset_s] at hP
        refine lv_aload_n hx hb dX1_mixBlock_254 rfl (lv_at hl 9 rfl) ?_
        refine gf_X1_9 C hP ((fset_ne (by decide)).trans h7) rfl rfl dX1_mixBlock_255 ?_
        refine lv_iconst (v := nI 4) hx hb dX1_mixBlock_258 (by decide) ?_
        refine lv_dup2_11 hx hb dX1_mixBlock_259 rfl rfl ?_
        refine fw_iald C hP fset_at rfl 4 rfl (by omega) (by decide) dX1_mixBlock_260 ?_
        refine fw_E (show (upd (upd (upd (upd f 0 ((f 0) + a)) 1 ((f 1) + b)) 2 ((f 2) + c2)) 3 ((f 3) + d)) 4 = f 4 from rfl) ?_
        refine lv_iload hx hb dX1_mixBlock_261 (lv_at hl 5 rfl) ?_
        refine lv_iadd hx hb dX1_mixBlock_263 ?_
        refine fw_iast C hP hS fset_at rfl 4 rfl (by omega) (by decide) dX1_mixBlock_264 (fun H locs hP hS => ?_)
        have hP : fP Γ (fset (fset w 8 0 (aI 1 8 (upd (upd (upd (upd f 0 ((f 0) + a)) 1 ((f 1) + b)) 2 ((f 2) + c2)) 3 ((f 3) + d)))) 8 0 (aI 1 8 (upd (upd (upd (upd (upd f 0 ((f 0) + a)) 1 ((f 1) + b)) 2 ((f 2) + c2)) 3 ((f 3) + d)) 4 ((f 4) + e2)))) H := hP
        rw [fset_s] at hP
        refine lv_aload_n hx hb dX1_mixBlock_265 rfl (lv_at hl 9 rfl) ?_
        refine gf_X1_9 C hP ((fset_ne (by decide)).trans h7) rfl rfl dX1_mixBlock_266 ?_
        refine lv_iconst (v := nI 5) hx hb dX1_mixBlock_269 (by decide) ?_
        refine lv_dup2_11 hx hb dX1_mixBlock_270 rfl rfl ?_
        refine fw_iald C hP fset_at rfl 5 rfl (by omega) (by decide) dX1_mixBlock_271 ?_
        refine fw_E (show (upd (upd (upd (upd (upd f 0 ((f 0) + a)) 1 ((f 1) + b)) 2 ((f 2) + c2)) 3 ((f 3) + d)) 4 ((f 4) + e2)) 5 = f 5 from rfl) ?_
        refine lv_iload hx hb dX1_mixBlock_272 (lv_at hl 6 rfl) ?_
        refine lv_iadd hx hb dX1_mixBlock_274 ?_
        refine fw_iast C hP hS fset_at rfl 5 rfl (by omega) (by decide) dX1_mixBlock_275 (fun H locs hP hS => ?_)
        have hP : fP Γ (fset (fset w 8 0 (aI 1 8 (upd (upd (upd (upd (upd f 0 ((f 0) + a)) 1 ((f 1) + b)) 2 ((f 2) + c2)) 3 ((f 3) + d)) 4 ((f 4) + e2)))) 8 0 (aI 1 8 (upd (upd (upd (upd (upd (upd f 0 ((f 0) + a)) 1 ((f 1) + b)) 2 ((f 2) + c2)) 3 ((f 3) + d)) 4 ((f 4) + e2)) 5 ((f 5) + f2v)))) H := hP
        rw [fset_s] at hP
        refine lv_aload_n hx hb dX1_mixBlock_276 rfl (lv_at hl 9 rfl) ?_
        refine gf_X1_9 C hP ((fset_ne (by decide)).trans h7) rfl rfl dX1_mixBlock_277 ?_
        refine lv_bipush (v := nI 6) hx hb dX1_mixBlock_280 (by decide) ?_
        refine lv_dup2_11 hx hb dX1_mixBlock_282 rfl rfl ?_
        refine fw_iald C hP fset_at rfl 6 rfl (by omega) (by decide) dX1_mixBlock_283 ?_
        refine fw_E (show (upd (upd (upd (upd (upd (upd f 0 ((f 0) + a)) 1 ((f 1) + b)) 2 ((f 2) + c2)) 3 ((f 3) + d)) 4 ((f 4) + e2)) 5 ((f 5) + f2v)) 6 = f 6 from rfl) ?_
        refine lv_iload hx hb dX1_mixBlock_284 (lv_at hl 7 rfl) ?_
        refine lv_iadd hx hb dX1_mixBlock_286 ?_
        refine fw_iast C hP hS fset_at rfl 6 rfl (by omega) (by decide) dX1_mixBlock_287 (fun H locs hP hS => ?_)
        have hP : fP Γ (fset (fset w 8 0 (aI 1 8 (upd (upd (upd (upd (upd (upd f 0 ((f 0) + a)) 1 ((f 1) + b)) 2 ((f 2) + c2)) 3 ((f 3) + d)) 4 ((f 4) + e2)) 5 ((f 5) + f2v)))) 8 0 (aI 1 8 (upd (upd (upd (upd (upd (upd (upd f 0 ((f 0) + a)) 1 ((f 1) + b)) 2 ((f 2) + c2)) 3 ((f 3) + d)) 4 ((f 4) + e2)) 5 ((f 5) + f2v)) 6 ((f 6) + g2)))) H := hP
        rw [fset_s] at hP
        refine lv_aload_n hx hb dX1_mixBlock_288 rfl (lv_at hl 9 rfl) ?_
        refine gf_X1_9 C hP ((fset_ne (by decide)).trans h7) rfl rfl dX1_mixBlock_289 ?_
        refine lv_bipush (v := nI 7) hx hb dX1_mixBlock_292 (by decide) ?_
        refine lv_dup2_11 hx hb dX1_mixBlock_294 rfl rfl ?_
        refine fw_iald C hP fset_at rfl 7 rfl (by omega) (by decide) dX1_mixBlock_295 ?_
        refine fw_E (show (upd (upd (upd (upd (upd (upd (upd f 0 ((f 0) + a)) 1 ((f 1) + b)) 2 ((f 2) + c2)) 3 ((f 3) + d)) 4 ((f 4) + e2)) 5 ((f 5) + f2v)) 6 ((f 6) + g2)) 7 = f 7 from rfl) ?_
        refine lv_iload hx hb dX1_mixBlock_296 (lv_at hl 8 rfl) ?_
        refine lv_iadd hx hb dX1_mixBlock_298 ?_
        refine fw_iast C hP hS fset_at rfl 7 rfl (by omega) (by decide) dX1_mixBlock_299 (fun H locs hP hS => ?_)
        have hP : fP Γ (fset (fset w 8 0 (aI 1 8 (upd (upd (upd (upd (upd (upd (upd f 0 ((f 0) + a)) 1 ((f 1) + b)) 2 ((f 2) + c2)) 3 ((f 3) + d)) 4 ((f 4) + e2)) 5 ((f 5) + f2v)) 6 ((f 6) + g2)))) 8 0 (aI 1 8 (upd (upd (upd (upd (upd (upd (upd (upd f 0 ((f 0) + a)) 1 ((f 1) + b)) 2 ((f 2) + c2)) 3 ((f 3) + d)) 4 ((f 4) + e2)) 5 ((f 5) + f2v)) 6 ((f 6) + g2)) 7 ((f 7) + h2)))) H := hP
        rw [fset_s] at hP
        have e : i = 64 := by omega
        subst e
        refine fw_retv C hr hlk hP hS ⟨_, rfl, fun j hj => ?_⟩ (Nat.le_of_ble_eq_true rfl) (Nat.le_of_ble_eq_true rfl) dX1_mixBlock_300
        rw [← hz]
        match j, hj with
        | 0, _ => rfl
        | 1, _ => rfl
        | 2, _ => rfl
        | 3, _ => rfl
        | 4, _ => rfl
        | 5, _ => rfl
        | 6, _ => rfl
        | 7, _ => rfl
        | k + 8, hj => exact absurd hj (by omega)
      · refine lv_iload hx hb dX1_mixBlock_73 (lv_at hl 5 rfl) ?_
        refine lv_bipush (v := 6) hx hb dX1_mixBlock_75 (by decide) ?_
        refine fw_ci0 (w := w) hS (fw_rS (rest := []) (As := [.int e2, .int 6]) C hP hS wS_X1_39 (k_X1_turned l Γ w e2 6) (fRm_mk rfl rfl (Nat.le_of_ble_eq_true rfl) (Nat.le_of_ble_eq_true rfl) (Nat.le_of_ble_eq_true rfl) (Nat.le_of_ble_eq_true rfl) (Nat.le_of_ble_eq_true rfl)) rfl hl.1 rfl dX1_mixBlock_77) (fun H locs hP hS => ?_)
        refine lv_iload hx hb dX1_mixBlock_80 (lv_at hl 5 rfl) ?_
        refine lv_bipush (v := 11) hx hb dX1_mixBlock_82 (by decide) ?_
        refine fw_ci0 (w := w) hS (fw_rS (rest := [.int (trn e2 6)]) (As := [.int e2, .int 11]) C hP hS wS_X1_39 (k_X1_turned l Γ w e2 11) (fRm_mk rfl rfl (Nat.le_of_ble_eq_true rfl) (Nat.le_of_ble_eq_true rfl) (Nat.le_of_ble_eq_true rfl) (Nat.le_of_ble_eq_true rfl) (Nat.le_of_ble_eq_true rfl)) rfl hl.1 rfl dX1_mixBlock_84) (fun H locs hP hS => ?_)
        refine lv_ixor hx hb dX1_mixBlock_87 ?_
        refine lv_iload hx hb dX1_mixBlock_88 (lv_at hl 5 rfl) ?_
        refine lv_bipush (v := 25) hx hb dX1_mixBlock_90 (by decide) ?_
        refine fw_ci0 (w := w) hS (fw_rS (rest := [.int ((trn e2 6) ^^^ (trn e2 11))]) (As := [.int e2, .int 25]) C hP hS wS_X1_39 (k_X1_turned l Γ w e2 25) (fRm_mk rfl rfl (Nat.le_of_ble_eq_true rfl) (Nat.le_of_ble_eq_true rfl) (Nat.le_of_ble_eq_true rfl) (Nat.le_of_ble_eq_true rfl) (Nat.le_of_ble_eq_true rfl)) rfl hl.1 rfl dX1_mixBlock_92) (fun H locs hP hS => ?_)
        refine lv_ixor hx hb dX1_mixBlock_95 ?_
        refine lv_topi (fun x10_96 e_x10_96 => ?_)
        refine lv_istore (lv' := [(10, .int x10_96), (9, .int (nI i)), (1, .int a), (2, .int b), (3, .int c2), (4, .int d), (5, .int e2), (6, .int f2v), (7, .int g2), (8, .int h2), (0, .ref (w.1 7 0))]) hx hb dX1_mixBlock_96 hl (by decide) rfl (fun ls hl => ?_)
        refine lv_iload_n hx hb dX1_mixBlock_98 rfl (lv_at hl 2 rfl) ?_
        refine lv_iconst (v := 2) hx hb dX1_mixBlock_99 (by decide) ?_
        refine fw_ci0 (w := w) hS (fw_rS (rest := []) (As := [.int a, .int 2]) C hP hS wS_X1_39 (k_X1_turned l Γ w a 2) (fRm_mk rfl rfl (Nat.le_of_ble_eq_true rfl) (Nat.le_of_ble_eq_true rfl) (Nat.le_of_ble_eq_true rfl) (Nat.le_of_ble_eq_true rfl) (Nat.le_of_ble_eq_true rfl)) rfl hl.1 rfl dX1_mixBlock_100) (fun H locs hP hS => ?_)
        refine lv_iload_n hx hb dX1_mixBlock_103 rfl (lv_at hl 2 rfl) ?_
        refine lv_bipush (v := 13) hx hb dX1_mixBlock_104 (by decide) ?_
        refine fw_ci0 (w := w) hS (fw_rS (rest := [.int (trn a 2)]) (As := [.int a, .int 13]) C hP hS wS_X1_39 (k_X1_turned l Γ w a 13) (fRm_mk rfl rfl (Nat.le_of_ble_eq_true rfl) (Nat.le_of_ble_eq_true rfl) (Nat.le_of_ble_eq_true rfl) (Nat.le_of_ble_eq_true rfl) (Nat.le_of_ble_eq_true rfl)) rfl hl.1 rfl dX1_mixBlock_106) (fun H locs hP hS => ?_)
        refine lv_ixor hx hb dX1_mixBlock_109 ?_
        refine lv_iload_n hx hb dX1_mixBlock_110 rfl (lv_at hl 2 rfl) ?_
        refine lv_bipush (v := 22) hx hb dX1_mixBlock_111 (by decide) ?_
        refine fw_ci0 (w := w) hS (fw_rS (rest := [.int ((trn a 2) ^^^ (trn a 13))]) (As := [.int a, .int 22]) C hP hS wS_X1_39 (k_X1_turned l Γ w a 22) (fRm_mk rfl rfl (Nat.le_of_ble_eq_true rfl) (Nat.le_of_ble_eq_true rfl) (Nat.le_of_ble_eq_true rfl) (Nat.le_of_ble_eq_true rfl) (Nat.le_of_ble_eq_true rfl)) rfl hl.1 rfl dX1_mixBlock_113) (fun H locs hP hS => ?_)
        refine lv_ixor hx hb dX1_mixBlock_116 ?_
        refine lv_topi (fun x11_117 e_x11_117 => ?_)
        refine lv_istore (lv' := [(11, .int x11_117), (10, .int x10_96), (9, .int (nI i)), (1, .int a), (2, .int b), (3, .int c2), (4, .int d), (5, .int e2), (6, .int f2v), (7, .int g2), (8, .int h2), (0, .ref (w.1 7 0))]) hx hb dX1_mixBlock_117 hl (by decide) rfl (fun ls hl => ?_)
        refine lv_iload hx hb dX1_mixBlock_119 (lv_at hl 7 rfl) ?_
        refine lv_iload hx hb dX1_mixBlock_121 (lv_at hl 8 rfl) ?_
        refine lv_iand hx hb dX1_mixBlock_123 ?_
        refine lv_iload hx hb dX1_mixBlock_124 (lv_at hl 7 rfl) ?_
        refine lv_iconst (v := (-1)) hx hb dX1_mixBlock_126 (by decide) ?_
        refine lv_ixor hx hb dX1_mixBlock_127 ?_
        refine lv_iload hx hb dX1_mixBlock_128 (lv_at hl 9 rfl) ?_
        refine lv_iand hx hb dX1_mixBlock_130 ?_
        refine lv_ixor hx hb dX1_mixBlock_131 ?_
        refine lv_topi (fun x12_132 e_x12_132 => ?_)
        refine lv_istore (lv' := [(12, .int x12_132), (11, .int x11_117), (10, .int x10_96), (9, .int (nI i)), (1, .int a), (2, .int b), (3, .int c2), (4, .int d), (5, .int e2), (6, .int f2v), (7, .int g2), (8, .int h2), (0, .ref (w.1 7 0))]) hx hb dX1_mixBlock_132 hl (by decide) rfl (fun ls hl => ?_)
        refine lv_iload_n hx hb dX1_mixBlock_134 rfl (lv_at hl 4 rfl) ?_
        refine lv_iload_n hx hb dX1_mixBlock_135 rfl (lv_at hl 5 rfl) ?_
        refine lv_iand hx hb dX1_mixBlock_136 ?_
        refine lv_iload_n hx hb dX1_mixBlock_137 rfl (lv_at hl 4 rfl) ?_
        refine lv_iload_n hx hb dX1_mixBlock_138 rfl (lv_at hl 6 rfl) ?_
        refine lv_iand hx hb dX1_mixBlock_139 ?_
        refine lv_ixor hx hb dX1_mixBlock_140 ?_
        refine lv_iload_n hx hb dX1_mixBlock_141 rfl (lv_at hl 5 rfl) ?_
        refine lv_iload_n hx hb dX1_mixBlock_142 rfl (lv_at hl 6 rfl) ?_
        refine lv_iand hx hb dX1_mixBlock_143 ?_
        refine lv_ixor hx hb dX1_mixBlock_144 ?_
        refine lv_topi (fun x13_145 e_x13_145 => ?_)
        refine lv_istore (lv' := [(13, .int x13_145), (12, .int x12_132), (11, .int x11_117), (10, .int x10_96), (9, .int (nI i)), (1, .int a), (2, .int b), (3, .int c2), (4, .int d), (5, .int e2), (6, .int f2v), (7, .int g2), (8, .int h2), (0, .ref (w.1 7 0))]) hx hb dX1_mixBlock_145 hl (by decide) rfl (fun ls hl => ?_)
        refine lv_iload hx hb dX1_mixBlock_147 (lv_at hl 12 rfl) ?_
        refine lv_iload hx hb dX1_mixBlock_149 (lv_at hl 3 rfl) ?_
        refine lv_iadd hx hb dX1_mixBlock_151 ?_
        refine lv_iload hx hb dX1_mixBlock_152 (lv_at hl 1 rfl) ?_
        refine lv_iadd hx hb dX1_mixBlock_154 ?_
        refine fw_gets C hS C.2.2.1.2.1.1 qf_X1_43 dX1_mixBlock_155 ?_
        refine lv_iload hx hb dX1_mixBlock_158 (lv_at hl 4 rfl) ?_
        refine fw_tald C hS C.2.2.1.2.1.2 i rfl (by omega) (by decide) dX1_mixBlock_160 ?_
        refine lv_iadd hx hb dX1_mixBlock_161 ?_
        refine lv_aload_n hx hb dX1_mixBlock_162 rfl (lv_at hl 13 rfl) ?_
        refine gf_X1_15 C hP h7 rfl rfl dX1_mixBlock_163 ?_
        refine lv_iload hx hb dX1_mixBlock_166 (lv_at hl 4 rfl) ?_
        refine fw_iald C hP h9 rfl i rfl (by omega) (by decide) dX1_mixBlock_168 ?_
        refine lv_iadd hx hb dX1_mixBlock_169 ?_
        refine lv_topi (fun x14_170 e_x14_170 => ?_)
        refine lv_istore (lv' := [(14, .int x14_170), (13, .int x13_145), (12, .int x12_132), (11, .int x11_117), (10, .int x10_96), (9, .int (nI i)), (1, .int a), (2, .int b), (3, .int c2), (4, .int d), (5, .int e2), (6, .int f2v), (7, .int g2), (8, .int h2), (0, .ref (w.1 7 0))]) hx hb dX1_mixBlock_170 hl (by decide) rfl (fun ls hl => ?_)
        refine lv_iload hx hb dX1_mixBlock_172 (lv_at hl 12 rfl) ?_
        refine lv_istore (lv' := [(8, .int g2), (14, .int x14_170), (13, .int x13_145), (12, .int x12_132), (11, .int x11_117), (10, .int x10_96), (9, .int (nI i)), (1, .int a), (2, .int b), (3, .int c2), (4, .int d), (5, .int e2), (6, .int f2v), (7, .int g2), (0, .ref (w.1 7 0))]) hx hb dX1_mixBlock_174 hl (by decide) rfl (fun ls hl => ?_)
        refine lv_iload hx hb dX1_mixBlock_176 (lv_at hl 12 rfl) ?_
        refine lv_istore (lv' := [(7, .int f2v), (8, .int g2), (14, .int x14_170), (13, .int x13_145), (12, .int x12_132), (11, .int x11_117), (10, .int x10_96), (9, .int (nI i)), (1, .int a), (2, .int b), (3, .int c2), (4, .int d), (5, .int e2), (6, .int f2v), (0, .ref (w.1 7 0))]) hx hb dX1_mixBlock_178 hl (by decide) rfl (fun ls hl => ?_)
        refine lv_iload hx hb dX1_mixBlock_180 (lv_at hl 12 rfl) ?_
        refine lv_istore (lv' := [(6, .int e2), (7, .int f2v), (8, .int g2), (14, .int x14_170), (13, .int x13_145), (12, .int x12_132), (11, .int x11_117), (10, .int x10_96), (9, .int (nI i)), (1, .int a), (2, .int b), (3, .int c2), (4, .int d), (5, .int e2), (0, .ref (w.1 7 0))]) hx hb dX1_mixBlock_182 hl (by decide) rfl (fun ls hl => ?_)
        refine lv_iload hx hb dX1_mixBlock_184 (lv_at hl 12 rfl) ?_
        refine lv_iload hx hb dX1_mixBlock_186 (lv_at hl 3 rfl) ?_
        refine lv_iadd hx hb dX1_mixBlock_188 ?_
        refine lv_topi (fun x5_189 e_x5_189 => ?_)
        refine lv_istore (lv' := [(5, .int x5_189), (6, .int e2), (7, .int f2v), (8, .int g2), (14, .int x14_170), (13, .int x13_145), (12, .int x12_132), (11, .int x11_117), (10, .int x10_96), (9, .int (nI i)), (1, .int a), (2, .int b), (3, .int c2), (4, .int d), (0, .ref (w.1 7 0))]) hx hb dX1_mixBlock_189 hl (by decide) rfl (fun ls hl => ?_)
        refine lv_iload_n hx hb dX1_mixBlock_191 rfl (lv_at hl 12 rfl) ?_
        refine lv_istore (lv' := [(4, .int c2), (5, .int x5_189), (6, .int e2), (7, .int f2v), (8, .int g2), (14, .int x14_170), (13, .int x13_145), (12, .int x12_132), (11, .int x11_117), (10, .int x10_96), (9, .int (nI i)), (1, .int a), (2, .int b), (3, .int c2), (0, .ref (w.1 7 0))]) hx hb dX1_mixBlock_192 hl (by decide) rfl (fun ls hl => ?_)
        refine lv_iload_n hx hb dX1_mixBlock_194 rfl (lv_at hl 12 rfl) ?_
        refine lv_istore_n (lv' := [(3, .int b), (4, .int c2), (5, .int x5_189), (6, .int e2), (7, .int f2v), (8, .int g2), (14, .int x14_170), (13, .int x13_145), (12, .int x12_132), (11, .int x11_117), (10, .int x10_96), (9, .int (nI i)), (1, .int a), (2, .int b), (0, .ref (w.1 7 0))]) hx hb dX1_mixBlock_195 rfl hl (by decide) rfl (fun ls hl => ?_)
        refine lv_iload_n hx hb dX1_mixBlock_196 rfl (lv_at hl 12 rfl) ?_
        refine lv_istore_n (lv' := [(2, .int a), (3, .int b), (4, .int c2), (5, .int x5_189), (6, .int e2), (7, .int f2v), (8, .int g2), (14, .int x14_170), (13, .int x13_145), (12, .int x12_132), (11, .int x11_117), (10, .int x10_96), (9, .int (nI i)), (1, .int a), (0, .ref (w.1 7 0))]) hx hb dX1_mixBlock_197 rfl hl (by decide) rfl (fun ls hl => ?_)
        refine lv_iload hx hb dX1_mixBlock_198 (lv_at hl 7 rfl) ?_
        refine lv_iload hx hb dX1_mixBlock_200 (lv_at hl 10 rfl) ?_
        refine lv_iadd hx hb dX1_mixBlock_202 ?_
        refine lv_iload hx hb dX1_mixBlock_203 (lv_at hl 8 rfl) ?_
        refine lv_iadd hx hb dX1_mixBlock_205 ?_
        refine lv_topi (fun x1_206 e_x1_206 => ?_)
        refine lv_istore_n (lv' := [(1, .int x1_206), (2, .int a), (3, .int b), (4, .int c2), (5, .int x5_189), (6, .int e2), (7, .int f2v), (8, .int g2), (14, .int x14_170), (13, .int x13_145), (12, .int x12_132), (11, .int x11_117), (10, .int x10_96), (9, .int (nI i)), (0, .ref (w.1 7 0))]) hx hb dX1_mixBlock_206 rfl hl (by decide) rfl (fun ls hl => ?_)
        refine lv_iinc (v := nI (i + 1)) (lv' := [(9, .int (nI (i + 1))), (1, .int x1_206), (2, .int a), (3, .int b), (4, .int c2), (5, .int x5_189), (6, .int e2), (7, .int f2v), (8, .int g2), (14, .int x14_170), (13, .int x13_145), (12, .int x12_132), (11, .int x11_117), (10, .int x10_96), (0, .ref (w.1 7 0))]) hx hb dX1_mixBlock_207 hl (k := 13) rfl (by rw [show Int32.ofInt 1 = nI 1 from rfl, nI_add]) (by decide) rfl (fun ls hl => ?_)
        refine lv_goto (tgt := 66) hx hb dX1_mixBlock_210 (by decide) ?_
        refine W.widen (k := 0) (n := 0) (Nat.le_of_ble_eq_true rfl) (Nat.le_of_ble_eq_true rfl) ?_
        exact ih (i + 1) x1_206 a b c2 x5_189 e2 f2v g2 H locs ls (by omega) (by omega) (mx_step hz (by rw [e_x1_206, e_x14_170, e_x11_117, e_x13_145, e_x10_96, e_x12_132]; rfl) (by rw [e_x5_189, e_x14_170, e_x10_96, e_x12_132]; rfl)) hP hS (lv_sub hl [0, 1, 2, 3, 4, 5, 6, 7, 8, 14] rfl)
  exact loop 65 0 (f 0) (f 1) (f 2) (f 3) (f 4) (f 5) (f 6) (f 7) _ _ _ (by omega) (by omega) rfl hP hS (lv_sub hl [0, 8, 7, 6, 5, 4, 3, 2, 1, 9] rfl)
theorem hb_step {y : Nat → Nat} {n k : Nat} {z z3 z4 z5 : Nat → Int32} (hz : ∀ j, j < 8 → z j = shB y n k j) (h3 : ∀ j, j < 16 → z3 j = shW y n k j) (h5 : ∀ j, j < 64 → z5 j = shSf z3 48 j) (h4 : ∀ j, j < 8 → z4 j = z j + at8 (rds (s8 z) z5 64) j) : ∀ j, j < 8 → z4 j = shB y n (k + 1) j := by
  intro j hj
  have e1 : s8 z = s8 (shB y n k) := s8_congr hz
  have e2 : rds (s8 (shB y n k)) z5 64 = rds (s8 (shB y n k)) (shSf (shW y n k) 48) 64 := rds_at 64 (fun t ht => by rw [h5 t ht]; exact shSf_at 48 h3 t (by omega))
  rw [h4 j hj, hz j hj, e1, e2]
  rfl
set_option maxHeartbeats 4000000 in
set_option maxRecDepth 100000 in
theorem k_X1_hashBytes (l : Launch) (Γ : FG) (w : FW) (t n : Nat) (b : Nat → Int32) (y : Nat → Nat) (hn : n ≤ 1000) (hy : ∀ j, j < n → b j &&& 255 = nI (y j)) (h12 : w.2 12 t = some (aI 0 1000 b)) (h7 : w.2 7 0 = some (oO 1 [.ref (w.1 8 0), .ref (w.1 9 0)])) (g8 g9 : Nat → Int32) (h8 : w.2 8 0 = some (aI 1 8 g8)) (h9 : w.2 9 0 = some (aI 1 64 g9)) : Met l yX1_hashBytes (ws_ yX1_hashBytes cX1_hashBytes 5 none) (rmD 2 0 0) (va_Pc [.ref (w.1 7 0), .ref (w.1 12 t), .int (nI n)] (fI Γ w)) (va_Qv (fun w1 => ∃ z z2, w1 = fset (fset w 8 0 (aI 1 8 z)) 9 0 (aI 1 64 z2) ∧ ∀ j, j < 8 → z j = shD y n j) (fI Γ) (fA Γ)) 0 0 (fA Γ) := by
  refine fw_met (by decide) (Nat.le_of_ble_eq_true rfl) ?_
  intro p e s m below meth c ls C hP hS hr hlk hin hl
  have C : fC p s m [.ref (w.1 7 0), .ref (w.1 12 t), .int (nI n)].toArray c cX1_hashBytes 5 RX1 Γ := C
  have hx := C.1.1
  have hb := C.1.2.1
  have hl : lv_has ls 5 [(0, .ref (w.1 7 0)), (1, .ref (w.1 12 t)), (2, .int (nI n))] := hl
  refine fw_gets C hS C.2.2.1.1.1 qf_X1_18 dX1_hashBytes_0 ?_
  refine lv_aload_n hx hb dX1_hashBytes_3 rfl (lv_at hl 0 rfl) ?_
  refine gf_X1_9 C hP h7 rfl rfl dX1_hashBytes_4 ?_
  refine fw_cv hS (fw_rSN (n := 2) (rest := []) (As := [.ref Γ.2.2.2.1, .ref (w.1 8 0)]) C hP hS C.2.1.2.2.1 qs_X4_copyWords qn_X4 qc_X4_copyWords (by decide +kernel) (by decide +kernel) (k_X4_copyWordsT l Γ w 8 0 g8 h8) (fRm_mk rfl rfl (Nat.le_of_ble_eq_true rfl) (Nat.le_of_ble_eq_true rfl) (Nat.le_of_ble_eq_true rfl) (Nat.le_of_ble_eq_true rfl) (Nat.le_of_ble_eq_true rfl)) rfl hl.1 rfl dX1_hashBytes_7) (fun w1 H locs hp hP hS => ?_)
  obtain ⟨z0, rfl, hz0⟩ := hp
  refine lv_iload_n hx hb dX1_hashBytes_10 rfl (lv_at hl 2 rfl) ?_
  refine lv_bipush (v := nI 8) hx hb dX1_hashBytes_11 (by decide) ?_
  refine fw_addN hx hb dX1_hashBytes_13 ?_
  refine lv_bipush (v := nI 64) hx hb dX1_hashBytes_14 (by decide) ?_
  refine fw_divN hx hb (by omega) (by omega) (by omega) dX1_hashBytes_16 ?_
  refine lv_iconst (v := nI 1) hx hb dX1_hashBytes_17 (by decide) ?_
  refine fw_addN hx hb dX1_hashBytes_18 ?_
  refine lv_istore_n (lv' := [(3, .int (nI ((n + 8) / 64 + 1))), (0, .ref (w.1 7 0)), (1, .ref (w.1 12 t)), (2, .int (nI n))]) hx hb dX1_hashBytes_19 rfl hl (by decide) rfl (fun ls hl => ?_)
  refine lv_iconst (v := nI 0) hx hb dX1_hashBytes_20 (by decide) ?_
  refine lv_istore (lv' := [(4, .int (nI 0)), (3, .int (nI ((n + 8) / 64 + 1))), (0, .ref (w.1 7 0)), (1, .ref (w.1 12 t)), (2, .int (nI n))]) hx hb dX1_hashBytes_21 hl (by decide) rfl (fun ls hl => ?_)
  have hP : fP Γ (fset (fset w 8 0 (aI 1 8 z0)) 9 0 (aI 1 64 g9)) H := by rw [fset_id ((fset_ne (by decide)).trans h9)]; exact hP
  refine W.widen (k := 0) (n := 0) (Nat.le_of_ble_eq_true rfl) (Nat.le_of_ble_eq_true rfl) ?_
  have loop : ∀ (fu : Nat) (k : Nat) (z z2 : Nat → Int32) (H : Heap) (locs : List Loc) (ls : Array Slot), (n + 8) / 64 + 1 - k < fu → (k ≤ (n + 8) / 64 + 1) → (∀ j, j < 8 → z j = shB y n k j) → fP Γ (fset (fset w 8 0 (aI 1 8 z)) 9 0 (aI 1 64 z2)) H → va_S (fA Γ) s.heap H locs → lv_has ls 5 [(4, .int (nI k)), (3, .int (nI ((n + 8) / 64 + 1))), (0, .ref (w.1 7 0)), (1, .ref (w.1 12 t)), (2, .int (nI n))] → W p l e (rmD 2 0 0) s m [.ref (w.1 7 0), .ref (w.1 12 t), .int (nI n)].toArray below meth c H locs 0 0 (MQ below (va_Qv (fun w1 => ∃ z z2, w1 = fset (fset w 8 0 (aI 1 8 z)) 9 0 (aI 1 64 z2) ∧ ∀ j, j < 8 → z j = shD y n j) (fI Γ) (fA Γ)) [.ref (w.1 7 0), .ref (w.1 12 t), .int (nI n)].toArray s 0 0 (fA Γ)) (F0 m 23 ls []) := by
    intro fu
    induction fu with
    | zero =>
      intro k z z2 H locs ls hf
      exact absurd hf (Nat.not_lt_zero _)
    | succ fu ih =>
      intro k z z2 H locs ls hf hi hz hP hS hl
      refine lv_iload hx hb dX1_hashBytes_23 (lv_at hl 0 rfl) ?_
      refine lv_iload_n hx hb dX1_hashBytes_25 rfl (lv_at hl 1 rfl) ?_
      refine fw_geN (tgt := 52) hx hb (by omega) (by omega) dX1_hashBytes_26 (by decide) (fun c_26 => ?_) (fun c_26 => ?_)
      · exact fw_retv C hr hlk hP hS (⟨z, z2, rfl, fun j hj => by rw [hz j hj, shD, (by omega : k = (n + 8) / 64 + 1)]⟩) (Nat.le_of_ble_eq_true rfl) (Nat.le_of_ble_eq_true rfl) dX1_hashBytes_52
      · refine lv_aload_n hx hb dX1_hashBytes_29 rfl (lv_at hl 2 rfl) ?_
        refine lv_aload_n hx hb dX1_hashBytes_30 rfl (lv_at hl 3 rfl) ?_
        refine lv_iload_n hx hb dX1_hashBytes_31 rfl (lv_at hl 4 rfl) ?_
        refine lv_iload hx hb dX1_hashBytes_32 (lv_at hl 0 rfl) ?_
        refine lv_iload_n hx hb dX1_hashBytes_34 rfl (lv_at hl 1 rfl) ?_
        refine fw_cv hS (fw_rV (rest := []) (As := [.ref (w.1 12 t), .int (nI n), .int (nI k), .int (nI ((n + 8) / 64 + 1))]) C hP hS wV_X1_25 (k_X1_loadBlock l Γ (fset (fset w 8 0 (aI 1 8 z)) 9 0 (aI 1 64 z2)) t n b y hn hy ((fset_ne (by decide)).trans ((fset_ne (by decide)).trans h12)) ((fset_ne (by decide)).trans ((fset_ne (by decide)).trans h7)) k (by omega) z2 fset_at) ((fset_ne (by decide)).trans ((fset_ne (by decide)).trans h7)) rfl rfl (fRm_mk rfl rfl (Nat.le_of_ble_eq_true rfl) (Nat.le_of_ble_eq_true rfl) (Nat.le_of_ble_eq_true rfl) (Nat.le_of_ble_eq_true rfl) (Nat.le_of_ble_eq_true rfl)) rfl hl.1 rfl dX1_hashBytes_35) (fun w1 H locs hp hP hS => ?_)
        obtain ⟨z3, rfl, hz3⟩ := hp
        rw [fset_s] at hP
        refine lv_aload_n hx hb dX1_hashBytes_38 rfl (lv_at hl 2 rfl) ?_
        refine fw_cv hS (fw_rV (rest := []) (As := []) C hP hS wV_X1_29 (k_X1_spreadBlock l Γ (fset (fset w 8 0 (aI 1 8 z)) 9 0 (aI 1 64 z3)) z3 ((fset_ne (by decide)).trans ((fset_ne (by decide)).trans h7)) fset_at) ((fset_ne (by decide)).trans ((fset_ne (by decide)).trans h7)) rfl rfl (fRm_mk rfl rfl (Nat.le_of_ble_eq_true rfl) (Nat.le_of_ble_eq_true rfl) (Nat.le_of_ble_eq_true rfl) (Nat.le_of_ble_eq_true rfl) (Nat.le_of_ble_eq_true rfl)) rfl hl.1 rfl dX1_hashBytes_39) (fun w1 H locs hp hP hS => ?_)
        obtain ⟨z5, rfl, hz5⟩ := hp
        rw [fset_s] at hP
        refine lv_aload_n hx hb dX1_hashBytes_42 rfl (lv_at hl 2 rfl) ?_
        refine fw_cv hS (fw_rV (rest := []) (As := []) C hP hS wV_X1_32 (k_X1_mixBlock l Γ (fset (fset w 8 0 (aI 1 8 z)) 9 0 (aI 1 64 z5)) z z5 ((fset_ne (by decide)).trans ((fset_ne (by decide)).trans h7)) ((fset_ne (by decide)).trans fset_at) fset_at) ((fset_ne (by decide)).trans ((fset_ne (by decide)).trans h7)) rfl rfl (fRm_mk rfl rfl (Nat.le_of_ble_eq_true rfl) (Nat.le_of_ble_eq_true rfl) (Nat.le_of_ble_eq_true rfl) (Nat.le_of_ble_eq_true rfl) (Nat.le_of_ble_eq_true rfl)) rfl hl.1 rfl dX1_hashBytes_43) (fun w1 H locs hp hP hS => ?_)
        obtain ⟨z4, rfl, hz4⟩ := hp
        rw [fset_3 (by decide)] at hP
        refine lv_iinc (v := nI (k + 1)) (lv' := [(4, .int (nI (k + 1))), (3, .int (nI ((n + 8) / 64 + 1))), (0, .ref (w.1 7 0)), (1, .ref (w.1 12 t)), (2, .int (nI n))]) hx hb dX1_hashBytes_46 hl (k := 0) rfl (by rw [show Int32.ofInt 1 = nI 1 from rfl, nI_add]) (by decide) rfl (fun ls hl => ?_)
        refine lv_goto (tgt := 23) hx hb dX1_hashBytes_49 (by decide) ?_
        refine W.widen (k := 0) (n := 0) (Nat.le_of_ble_eq_true rfl) (Nat.le_of_ble_eq_true rfl) ?_
        exact ih (k + 1) z4 z5 H locs ls (by omega) (by omega) (hb_step hz hz3 hz5 hz4) hP hS (lv_sub hl [0, 1, 2, 3, 4] rfl)
  exact loop ((n + 8) / 64 + 2) 0 z0 g9 _ _ _ (by omega) (by omega) hz0 hP hS (lv_sub hl [0, 1, 2, 3, 4] rfl)
end
section
theorem fset_off {w : FW} {k i k1 i1 : Nat} {e : FE} (h : ¬ (k1 = k ∧ i1 = i)) : (fset w k i e).2 k1 i1 = w.2 k1 i1 := by
  show f2 w.2 k i (some e) k1 i1 = _
  unfold f2
  by_cases h1 : k1 = k
  · rw [if_pos h1, if_neg (fun q => h ⟨h1, q⟩)]
  · rw [if_neg h1]
theorem fset_lv {w : FW} {k i k1 i1 : Nat} {e : FE} (h : w.2 k1 i1 ≠ none) : (fset w k i e).2 k1 i1 ≠ none := by
  show f2 w.2 k i (some e) k1 i1 ≠ none
  unfold f2
  split
  · split
    · exact fun h => by cases h
    · exact h
  · exact h
/-- what a call leaves that may only reckon digests -/
def frd (w w1 : FW) : Prop := w1.1 = w.1 ∧ (∀ k i, ¬ (k = 8 ∨ k = 9 ∨ k = 11 ∨ k = 13) → w1.2 k i = w.2 k i) ∧ ∀ k i, w.2 k i ≠ none → w1.2 k i ≠ none
theorem frd_rf (w : FW) : frd w w := ⟨rfl, fun _ _ _ => rfl, fun _ _ h => h⟩
theorem frd_tr {a b c : FW} (h1 : frd a b) (h2 : frd b c) : frd a c := ⟨h2.1.trans h1.1, fun k i h => (h2.2.1 k i h).trans (h1.2.1 k i h), fun k i h => h2.2.2 k i (h1.2.2 k i h)⟩
theorem frd_fr {a b : FW} (h : frd a b) : fr a b := ⟨fun k i q => ⟨h.2.2 k i q, by rw [h.1]⟩, fun k i q => h.2.1 k i (by omega)⟩
theorem Th_congr {σ : St} {w w1 : FW} {t : Nat} (h : Th σ w t) (ha : w1.1 = w.1) (hk : ∀ k, 11 ≤ k → k ≤ 15 → w1.2 k t = w.2 k t) : Th σ w1 t := by
  obtain ⟨ad1, u1⟩ := w1
  have ha : ad1 = w.1 := ha
  subst ha
  obtain ⟨b, d, c, n, z, h1, h2, h3, h4, h5, h6⟩ := h
  exact ⟨b, d, c, n, z, (hk 11 (by omega) (by omega)).trans h1, (hk 12 (by omega) (by omega)).trans h2, (hk 13 (by omega) (by omega)).trans h3, (hk 14 (by omega) (by omega)).trans h4, (hk 15 (by omega) (by omega)).trans h5, h6⟩
theorem Rc_dig {σ : St} {w w1 : FW} {t : Nat} (hR : Rc σ w) (ha : w1.1 = w.1) (hk : ∀ k i, ¬ (k = 8 ∨ k = 9 ∨ ((k = 11 ∨ k = 13) ∧ i = t)) → w1.2 k i = w.2 k i) (hH : RcH w1) (ht : t < s_nt σ) (hT : Th σ w1 t) : Rc σ w1 := by
  obtain ⟨r0, ⟨fR, rR1, rR2, rR3⟩, ⟨⟨fT, rT1, rT2⟩, rT3, rT4⟩, ⟨⟨fS, rS1, rS2⟩, rS3, rS4⟩, ⟨fW, rW1, rW2⟩, ⟨tb, eb, rO1, rO2, rO3⟩, -⟩ := hR
  obtain ⟨ad1, u1⟩ := w1
  have ha : ad1 = w.1 := ha
  subst ha
  refine ⟨(hk 0 0 (by omega)).trans r0, ⟨fR, (hk 1 0 (by omega)).trans rR1, fun i hi => ⟨(rR2 i hi).1, (hk 10 i (by omega)).trans (rR2 i hi).2⟩, fun i hi => (hk 10 i (by omega)).trans (rR3 i hi)⟩, ⟨⟨fT, (hk 2 0 (by omega)).trans rT1, rT2⟩, fun t2 h2 => ?_, fun t2 h2 => ?_⟩, ⟨⟨fS, (hk 3 0 (by omega)).trans rS1, rS2⟩, fun i hi => ?_, fun i hi => ⟨(hk 16 i (by omega)).trans (rS4 i hi).1, (hk 17 i (by omega)).trans (rS4 i hi).2⟩⟩, ⟨fW, (hk 4 0 (by omega)).trans rW1, rW2⟩, ⟨tb, eb, (hk 5 0 (by omega)).trans rO1, (hk 6 0 (by omega)).trans rO2, rO3⟩, hH⟩
  · by_cases e : t2 = t
    · rw [e]; exact hT
    · exact Th_congr (rT3 t2 h2) rfl (fun k _ _ => hk k t2 (by omega))
  · obtain ⟨a1, a2, a3, a4, a5⟩ := rT4 t2 h2
    exact ⟨(hk 11 t2 (by omega)).trans a1, (hk 12 t2 (by omega)).trans a2, (hk 13 t2 (by omega)).trans a3, (hk 14 t2 (by omega)).trans a4, (hk 15 t2 (by omega)).trans a5⟩
  · obtain ⟨a1, d, a2, a3⟩ := rS3 i hi
    exact ⟨(hk 16 i (by omega)).trans a1, d, (hk 17 i (by omega)).trans a2, a3⟩
theorem s_rl_t {σ : St} {a b : Nat} {x : Int64} {i : Nat} (h : s_rl σ a b x i = true) : ∀ {n : Nat}, i ≤ n → s_rl σ a b x n = true
  | 0, hn => by have : i = 0 := by omega
                subst this; exact h
  | n + 1, hn => by
    rcases Nat.eq_or_lt_of_le hn with q | q
    · rw [← q]; exact h
    · rw [s_rl, s_rl_t h (by omega : i ≤ n)]; rfl
def s_h1 (σ : St) (t m : Nat) (q : Option Nat) (n : Nat) : Bool := decide (s_st σ n = t) && decide (s_sm σ n = m) && (match q with | none => true | some p => decide (s_sp σ n = p)) && s_sd σ n
theorem s_hs_s (σ : St) (t m : Nat) (q : Option Nat) (n : Nat) : s_hs σ t m q (n + 1) = (s_hs σ t m q n || s_h1 σ t m q n) := rfl
theorem s_hs_t {σ : St} {t b : Nat} {o : Option Nat} {i : Nat} (h : s_hs σ t b o i = true) : ∀ {n : Nat}, i ≤ n → s_hs σ t b o n = true
  | 0, hn => by have : i = 0 := by omega
                subst this; exact h
  | n + 1, hn => by
    rcases Nat.eq_or_lt_of_le hn with q | q
    · rw [← q]; exact h
    · rw [s_hs_s, s_hs_t h (by omega : i ≤ n)]; rfl
set_option maxHeartbeats 4000000 in
set_option maxRecDepth 100000 in
theorem k_X4_digestWordsOf (l : Launch) (Γ : FG) (w : FW) (σ : St) (t : Nat) (h0 : Rc0 σ w) (hH : RcH w) (hT : Th σ w t) (hln : s_ln σ t ≤ 1000) : Met l yX4_digestWordsOf (ws_ yX4_digestWordsOf cX4_digestWordsOf 2 (some (.array .int))) (rmD 3 0 0) (va_Pc [.ref (w.1 0 0), .ref (w.1 11 t)] (fI Γ w)) (va_Qq (fun r w1 => r = some (w.1 13 t) ∧ w1.1 = w.1 ∧ (∀ k i, ¬ (k = 8 ∨ k = 9 ∨ ((k = 11 ∨ k = 13) ∧ i = t)) → w1.2 k i = w.2 k i) ∧ (∀ k i, w.2 k i ≠ none → w1.2 k i ≠ none) ∧ RcH w1 ∧ Th σ w1 t ∧ ∃ d, w1.2 13 t = some (aI 1 8 d) ∧ ∀ j, j < 8 → d j = s_dg σ t j) (fI Γ) (fA Γ)) 0 0 (fA Γ) := by
  refine fw_met (by decide) (Nat.le_of_ble_eq_true rfl) ?_
  intro p e s m below meth c ls C hP hS hr hlk hin hl
  have C : fC p s m [.ref (w.1 0 0), .ref (w.1 11 t)].toArray c cX4_digestWordsOf 2 RX4 Γ := C
  have hx := C.1.1
  have hb := C.1.2.1
  have hl : lv_has ls 2 [(0, .ref (w.1 0 0)), (1, .ref (w.1 11 t))] := hl
  obtain ⟨h7, ⟨g8, h8⟩, ⟨g9, h9⟩⟩ := id hH
  obtain ⟨bf, df, cf, nf, zf, e11, e12, e13, e14, e15, hbf, hcf, hnf, hzf⟩ := id hT
  refine lv_aload_n hx hb dX4_digestWordsOf_0 rfl (lv_at hl 1 rfl) ?_
  refine gf_X4_83 C hP e11 rfl rfl dX4_digestWordsOf_1 ?_
  refine fw_ieqB (tgt := 41) hx hb dX4_digestWordsOf_4 (by decide) (fun c_4 => ?_) (fun c_4 => ?_)
  · refine lv_aload_n hx hb dX4_digestWordsOf_41 rfl (lv_at hl 1 rfl) ?_
    refine gf_X4_188 C hP e11 rfl rfl dX4_digestWordsOf_42 ?_
    exact fw_retq (r := some (w.1 13 t)) C hr (Or.inr ⟨_, rfl⟩) hlk rfl hP hS (⟨rfl, rfl, fun _ _ _ => rfl, fun _ _ q => q, hH, hT, df, e13, hzf c_4⟩) (Nat.le_of_ble_eq_true rfl) (Nat.le_of_ble_eq_true rfl) dX4_digestWordsOf_45
  · refine lv_aload_n hx hb dX4_digestWordsOf_7 rfl (lv_at hl 0 rfl) ?_
    refine gf_X4_40 C hP h0 rfl rfl dX4_digestWordsOf_8 ?_
    refine lv_aload_n hx hb dX4_digestWordsOf_11 rfl (lv_at hl 1 rfl) ?_
    refine gf_X4_79 C hP e11 rfl rfl dX4_digestWordsOf_12 ?_
    refine lv_aload_n hx hb dX4_digestWordsOf_15 rfl (lv_at hl 1 rfl) ?_
    refine gf_X4_76 C hP e11 rfl rfl dX4_digestWordsOf_16 ?_
    refine fw_cv hS (fw_rV (rest := []) (As := [.ref (w.1 12 t), .int (nI (s_ln σ t))]) C hP hS wV_X4_181 (k_X1_hashBytes l Γ w t (s_ln σ t) bf (s_by σ t) hln hbf e12 h7 g8 g9 h8 h9) h7 rfl rfl (fRm_mk rfl rfl (Nat.le_of_ble_eq_true rfl) (Nat.le_of_ble_eq_true rfl) (Nat.le_of_ble_eq_true rfl) (Nat.le_of_ble_eq_true rfl) (Nat.le_of_ble_eq_true rfl)) rfl hl.1 rfl dX4_digestWordsOf_19) (fun w1 H locs hp hP hS => ?_)
    obtain ⟨z1, z2, rfl, hz1⟩ := hp
    refine lv_aload_n hx hb dX4_digestWordsOf_22 rfl (lv_at hl 0 rfl) ?_
    refine gf_X4_40 C hP ((fset_ne (by decide)).trans ((fset_ne (by decide)).trans h0)) rfl rfl dX4_digestWordsOf_23 ?_
    refine gf_X4_185 C hP ((fset_ne (by decide)).trans ((fset_ne (by decide)).trans h7)) rfl rfl dX4_digestWordsOf_26 ?_
    refine lv_aload_n hx hb dX4_digestWordsOf_29 rfl (lv_at hl 1 rfl) ?_
    refine gf_X4_188 C hP ((fset_ne (by decide)).trans ((fset_ne (by decide)).trans e11)) rfl rfl dX4_digestWordsOf_30 ?_
    refine fw_cv hS (fw_rS (rest := []) (As := [.ref (w.1 8 0), .ref (w.1 13 t)]) C hP hS wS_X4_126 (k_X4_copyWords l Γ (fset (fset w 8 0 (aI 1 8 z1)) 9 0 (aI 1 64 z2)) 8 0 13 t z1 df (by decide) ((fset_ne (by decide)).trans fset_at) ((fset_ne (by decide)).trans ((fset_ne (by decide)).trans e13))) (fRm_mk rfl rfl (Nat.le_of_ble_eq_true rfl) (Nat.le_of_ble_eq_true rfl) (Nat.le_of_ble_eq_true rfl) (Nat.le_of_ble_eq_true rfl) (Nat.le_of_ble_eq_true rfl)) rfl hl.1 rfl dX4_digestWordsOf_33) (fun w1 H locs hp hP hS => ?_)
    obtain ⟨z3, rfl, hz3⟩ := hp
    refine lv_aload_n hx hb dX4_digestWordsOf_36 rfl (lv_at hl 1 rfl) ?_
    refine lv_iconst (v := nI 0) hx hb dX4_digestWordsOf_37 (by decide) ?_
    refine pf_X4_83 C hP hS rfl rfl ((fset_ne (by decide)).trans ((fset_ne (by decide)).trans ((fset_ne (by decide)).trans e11))) rfl (Nat.le_of_ble_eq_true rfl) dX4_digestWordsOf_38 (fun H locs hP hS => ?_)
    have hP : fP Γ (fset (fset (fset (fset w 8 0 (aI 1 8 z1)) 9 0 (aI 1 64 z2)) 13 t (aI 1 8 z3)) 11 t (oO 3 [.int (nI (s_mk σ t)), .ref (w.1 12 t), .int (nI (s_ln σ t)), .ref (w.1 13 t), .int (b2i false), .ref (w.1 14 t), .int (nI (s_cn σ t)), .ref (w.1 15 t), .int (nI (s_dn σ t))])) H := hP
    refine lv_aload_n hx hb dX4_digestWordsOf_41 rfl (lv_at hl 1 rfl) ?_
    refine gf_X4_188 C hP fset_at rfl rfl dX4_digestWordsOf_42 ?_
    exact fw_retq (r := some (w.1 13 t)) C hr (Or.inr ⟨_, rfl⟩) hlk rfl hP hS (⟨rfl, rfl, fun k i hk => by rw [fset_off (by omega), fset_off (by omega), fset_off (by omega), fset_off (by omega)], fun k i q => fset_lv (fset_lv (fset_lv (fset_lv q))), ⟨((fset_ne (by decide)).trans ((fset_ne (by decide)).trans ((fset_ne (by decide)).trans ((fset_ne (by decide)).trans h7)))), ⟨_, ((fset_ne (by decide)).trans ((fset_ne (by decide)).trans ((fset_ne (by decide)).trans fset_at)))⟩, ⟨_, ((fset_ne (by decide)).trans ((fset_ne (by decide)).trans fset_at))⟩⟩, ⟨bf, z3, cf, nf, false, fset_at, ((fset_ne (by decide)).trans ((fset_ne (by decide)).trans ((fset_ne (by decide)).trans ((fset_ne (by decide)).trans e12)))), ((fset_ne (by decide)).trans fset_at), ((fset_ne (by decide)).trans ((fset_ne (by decide)).trans ((fset_ne (by decide)).trans ((fset_ne (by decide)).trans e14)))), ((fset_ne (by decide)).trans ((fset_ne (by decide)).trans ((fset_ne (by decide)).trans ((fset_ne (by decide)).trans e15)))), hbf, hcf, hnf, fun _ j hj => by rw [hz3 j hj, hz1 j hj]; rfl⟩, z3, ((fset_ne (by decide)).trans fset_at), fun j hj => by rw [hz3 j hj, hz1 j hj]; rfl⟩) (Nat.le_of_ble_eq_true rfl) (Nat.le_of_ble_eq_true rfl) dX4_digestWordsOf_45
set_option maxHeartbeats 4000000 in
set_option maxRecDepth 100000 in
theorem k_X4_hasRole (l : Launch) (Γ : FG) (w : FW) (σ : St) (a b : Nat) (x : Int64) (ha : a < 2 ^ 31) (hb0 : b < 2 ^ 31) (hI1 : s_nr σ ≤ 100) (hI2 : ∀ i, i < s_nr σ → s_rp σ i < 24 ∧ s_rk σ i < 10) (h0 : Rc0 σ w) (hR : RcR σ w) : Met l yX4_hasRole (ws_ yX4_hasRole cX4_hasRole 7 (some .boolean)) (rmD 1 0 0) (va_Pc [.ref (w.1 0 0), .int (nI a), .int (nI b), .long x] (fI Γ w)) (va_Qi (fun r w1 => r = b2i (s_rl σ a b x (s_nr σ)) ∧ w1 = w) (fI Γ) (fA Γ)) 0 0 (fA Γ) := by
  refine fw_met (by decide) (Nat.le_of_ble_eq_true rfl) ?_
  intro p e s m below meth c ls C hP hS hr hlk hin hl
  have C : fC p s m [.ref (w.1 0 0), .int (nI a), .int (nI b), .long x].toArray c cX4_hasRole 7 RX4 Γ := C
  have hx := C.1.1
  have hb := C.1.2.1
  have hl : lv_has ls 7 [(0, .ref (w.1 0 0)), (1, .int (nI a)), (2, .int (nI b)), (3, .long x)] := hl
  obtain ⟨fR, hR1, hR2, -⟩ := hR
  refine lv_iconst (v := nI 0) hx hb dX4_hasRole_0 (by decide) ?_
  refine lv_istore (lv' := [(5, .int (nI 0)), (0, .ref (w.1 0 0)), (1, .int (nI a)), (2, .int (nI b)), (3, .long x)]) hx hb dX4_hasRole_1 hl (by decide) rfl (fun ls hl => ?_)
  refine W.widen (k := 0) (n := 0) (Nat.le_of_ble_eq_true rfl) (Nat.le_of_ble_eq_true rfl) ?_
  have loop : ∀ (fu : Nat) (i : Nat) (H : Heap) (locs : List Loc) (ls : Array Slot), 101 - i < fu → (i ≤ s_nr σ) → (s_rl σ a b x i = false) → fP Γ w H → va_S (fA Γ) s.heap H locs → lv_has ls 7 [(5, .int (nI i)), (0, .ref (w.1 0 0)), (1, .int (nI a)), (2, .int (nI b)), (3, .long x)] → W p l e (rmD 1 0 0) s m [.ref (w.1 0 0), .int (nI a), .int (nI b), .long x].toArray below meth c H locs 0 0 (MQ below (va_Qi (fun r w1 => r = b2i (s_rl σ a b x (s_nr σ)) ∧ w1 = w) (fI Γ) (fA Γ)) [.ref (w.1 0 0), .int (nI a), .int (nI b), .long x].toArray s 0 0 (fA Γ)) (F0 m 3 ls []) := by
    intro fu
    induction fu with
    | zero =>
      intro i H locs ls hf
      exact absurd hf (Nat.not_lt_zero _)
    | succ fu ih =>
      intro i H locs ls hf hi hz hP hS hl
      refine lv_iload hx hb dX4_hasRole_3 (lv_at hl 0 rfl) ?_
      refine lv_bipush (v := nI 100) hx hb dX4_hasRole_5 (by decide) ?_
      refine fw_geN (tgt := 52) hx hb (by omega) (by omega) dX4_hasRole_7 (by decide) (fun c_7 => ?_) (fun c_7 => ?_)
      · refine lv_iconst (v := nI 0) hx hb dX4_hasRole_52 (by decide) ?_
        exact fw_reti C hr hlk rfl hP hS (⟨b2i_f (by rw [← hz, (by omega : i = s_nr σ)]), rfl⟩) (Nat.le_of_ble_eq_true rfl) (Nat.le_of_ble_eq_true rfl) dX4_hasRole_53
      · refine lv_iload hx hb dX4_hasRole_10 (lv_at hl 0 rfl) ?_
        refine lv_aload_n hx hb dX4_hasRole_12 rfl (lv_at hl 1 rfl) ?_
        refine gf_X4_57 C hP h0 rfl rfl dX4_hasRole_13 ?_
        refine fw_geN (tgt := 52) hx hb (by omega) (by omega) dX4_hasRole_16 (by decide) (fun c_16 => ?_) (fun c_16 => ?_)
        · refine lv_iconst (v := nI 0) hx hb dX4_hasRole_52 (by decide) ?_
          exact fw_reti C hr hlk rfl hP hS (⟨b2i_f (by rw [← hz, (by omega : i = s_nr σ)]), rfl⟩) (Nat.le_of_ble_eq_true rfl) (Nat.le_of_ble_eq_true rfl) dX4_hasRole_53
        · refine lv_aload_n hx hb dX4_hasRole_19 rfl (lv_at hl 1 rfl) ?_
          refine gf_X4_11 C hP h0 rfl rfl dX4_hasRole_20 ?_
          refine lv_iload hx hb dX4_hasRole_23 (lv_at hl 0 rfl) ?_
          refine fw_aald (Cn := RX0) C hP (by decide) rfl hR1 rfl i rfl (by omega) (by decide) (show va_rf (fR i) = .ref (w.1 10 i) from (by rw [(hR2 i (by omega)).1]; rfl)) dX4_hasRole_25 ?_
          refine lv_astore (lv' := [(6, .ref (w.1 10 i)), (5, .int (nI i)), (0, .ref (w.1 0 0)), (1, .int (nI a)), (2, .int (nI b)), (3, .long x)]) hx hb dX4_hasRole_26 hl (by decide) rfl (fun ls hl => ?_)
          refine lv_aload hx hb dX4_hasRole_28 (lv_at hl 0 rfl) ?_
          refine lv_ifnull hx hb dX4_hasRole_30 ?_
          refine lv_aload hx hb dX4_hasRole_33 (lv_at hl 0 rfl) ?_
          refine lv_iload_n hx hb dX4_hasRole_35 rfl (lv_at hl 3 rfl) ?_
          refine lv_iload_n hx hb dX4_hasRole_36 rfl (lv_at hl 4 rfl) ?_
          refine lv_lload_n hx hb dX4_hasRole_37 rfl (lv_at hl 5 rfl) ?_
          refine fw_ci0 (w := w) hS (fw_rV (rest := []) (As := [.int (nI a), .int (nI b), .long x]) C hP hS wV_X4_164 (k_X0_isHeldBy l Γ w σ i a b x ha hb0 (hI2 i (by omega)) (hR2 i (by omega)).2) (hR2 i (by omega)).2 rfl rfl (fRm_mk rfl rfl (Nat.le_of_ble_eq_true rfl) (Nat.le_of_ble_eq_true rfl) (Nat.le_of_ble_eq_true rfl) (Nat.le_of_ble_eq_true rfl) (Nat.le_of_ble_eq_true rfl)) rfl hl.1 rfl dX4_hasRole_38) (fun H locs hP hS => ?_)
          refine fw_ieqB (tgt := 46) hx hb dX4_hasRole_41 (by decide) (fun c_41 => ?_) (fun c_41 => ?_)
          · refine lv_iinc (v := nI (i + 1)) (lv' := [(5, .int (nI (i + 1))), (6, .ref (w.1 10 i)), (0, .ref (w.1 0 0)), (1, .int (nI a)), (2, .int (nI b)), (3, .long x)]) hx hb dX4_hasRole_46 hl (k := 1) rfl (by rw [show Int32.ofInt 1 = nI 1 from rfl, nI_add]) (by decide) rfl (fun ls hl => ?_)
            refine lv_goto (tgt := 3) hx hb dX4_hasRole_49 (by decide) ?_
            refine W.widen (k := 0) (n := 0) (Nat.le_of_ble_eq_true rfl) (Nat.le_of_ble_eq_true rfl) ?_
            exact ih (i + 1) H locs ls (by omega) (by omega) (by rw [s_rl, hz, c_41]; rfl) hP hS (lv_sub hl [0, 2, 3, 4, 5] rfl)
          · refine lv_iconst (v := nI 1) hx hb dX4_hasRole_44 (by decide) ?_
            exact fw_reti C hr hlk rfl hP hS (⟨b2i_t (s_rl_t (i := i + 1) (by rw [s_rl, c_41, Bool.or_true]) (by omega)), rfl⟩) (Nat.le_of_ble_eq_true rfl) (Nat.le_of_ble_eq_true rfl) dX4_hasRole_45
  exact loop 102 0 _ _ _ (by omega) (by omega) rfl hP hS (lv_sub hl [0, 1, 2, 3, 4] rfl)
set_option maxHeartbeats 4000000 in
set_option maxRecDepth 100000 in
theorem k_X4_isStanding (l : Launch) (Γ : FG) (w : FW) (σ : St) (i : Nat) (hI : Inv σ) (hR : Rc σ w) (hi : i < s_ns σ) : Met l yX4_isStanding (ws_ yX4_isStanding cX4_isStanding 2 (some .boolean)) (rmD 4 0 0) (va_Pc [.ref (w.1 0 0), .ref (w.1 16 i)] (fI Γ w)) (va_Qi (fun r w1 => r = b2i (s_sd σ i) ∧ Rc σ w1 ∧ frd w w1) (fI Γ) (fA Γ)) 0 0 (fA Γ) := by
  refine fw_met (by decide) (Nat.le_of_ble_eq_true rfl) ?_
  intro p e s m below meth c ls C hP hS hr hlk hin hl
  have C : fC p s m [.ref (w.1 0 0), .ref (w.1 16 i)].toArray c cX4_isStanding 2 RX4 Γ := C
  have hx := C.1.1
  have hb := C.1.2.1
  have hl : lv_has ls 2 [(0, .ref (w.1 0 0)), (1, .ref (w.1 16 i))] := hl
  obtain ⟨hS1, d17, h17, hd17⟩ := hR.2.2.2.1.2.1 i hi
  have hst := (hI.2.2.2.2.2.1 i hi).1
  refine lv_aload_n hx hb dX4_isStanding_0 rfl (lv_at hl 1 rfl) ?_
  refine gf_X4_142 C hP hS1 rfl rfl dX4_isStanding_1 ?_
  refine fw_ineB (tgt := 29) hx hb dX4_isStanding_4 (by decide) (fun c_4 => ?_) (fun c_4 => ?_)
  · refine lv_iconst (v := nI 0) hx hb dX4_isStanding_29 (by decide) ?_
    exact fw_reti C hr hlk rfl hP hS (⟨b2i_f (by rw [s_sd, c_4]; rfl), hR, frd_rf w⟩) (Nat.le_of_ble_eq_true rfl) (Nat.le_of_ble_eq_true rfl) dX4_isStanding_30
  · refine lv_aload_n hx hb dX4_isStanding_7 rfl (lv_at hl 1 rfl) ?_
    refine gf_X4_123 C hP hS1 rfl rfl dX4_isStanding_8 ?_
    refine lv_aload_n hx hb dX4_isStanding_11 rfl (lv_at hl 0 rfl) ?_
    refine lv_aload_n hx hb dX4_isStanding_12 rfl (lv_at hl 1 rfl) ?_
    refine gf_X4_167 C hP hS1 rfl rfl dX4_isStanding_13 ?_
    refine fw_cq hS (fw_rV (rest := [.ref (w.1 17 i)]) (As := [.ref (w.1 11 (s_st σ i))]) C hP hS wV_X4_119 (k_X4_digestWordsOf l Γ w σ (s_st σ i) hR.1 hR.2.2.2.2.2.2 (hR.2.2.1.2.1 _ hst) (hI.2.2.1 (s_st σ i)).1) hR.1 rfl rfl (fRm_mk rfl rfl (Nat.le_of_ble_eq_true rfl) (Nat.le_of_ble_eq_true rfl) (Nat.le_of_ble_eq_true rfl) (Nat.le_of_ble_eq_true rfl) (Nat.le_of_ble_eq_true rfl)) rfl hl.1 rfl dX4_isStanding_16) (fun r1 w1 H locs hp hP hS => ?_)
    obtain ⟨ad1, u1⟩ := w1
    obtain ⟨rfl, ha1, hk1, hlv1, hH1, hT1, d1, hd1, hdd1⟩ := hp
    have ha1 : ad1 = w.1 := ha1
    subst ha1
    have hR1 : Rc σ (w.1, u1) := Rc_dig (t := s_st σ i) hR rfl hk1 hH1 hst hT1
    have hf1 : frd w (w.1, u1) := ⟨rfl, fun k i2 q => hk1 k i2 (by omega), hlv1⟩
    refine fw_Eq (y := .ref (w.1 13 (s_st σ i))) rfl ?_
    refine fw_ci0 (w := (w.1, u1)) hS (fw_rS (rest := []) (As := [.ref (w.1 17 i), .ref (w.1 13 (s_st σ i))]) C hP hS wS_X4_177 (k_X4_areSameWords l Γ (w.1, u1) 17 i 13 (s_st σ i) d17 d1 ((hk1 17 i (by omega)).trans h17) hd1) (fRm_mk rfl rfl (Nat.le_of_ble_eq_true rfl) (Nat.le_of_ble_eq_true rfl) (Nat.le_of_ble_eq_true rfl) (Nat.le_of_ble_eq_true rfl) (Nat.le_of_ble_eq_true rfl)) rfl hl.1 rfl dX4_isStanding_19) (fun H locs hP hS => ?_)
    refine fw_ieqB (tgt := 29) hx hb dX4_isStanding_22 (by decide) (fun c_22 => ?_) (fun c_22 => ?_)
    · refine lv_iconst (v := nI 0) hx hb dX4_isStanding_29 (by decide) ?_
      exact fw_reti C hr hlk rfl hP hS (⟨b2i_f (by rw [s_sd, c_4, ← eqw_congr (f := d17) (g := d1) hd17 hdd1, c_22]; rfl), hR1, hf1⟩) (Nat.le_of_ble_eq_true rfl) (Nat.le_of_ble_eq_true rfl) dX4_isStanding_30
    · refine lv_iconst (v := nI 1) hx hb dX4_isStanding_25 (by decide) ?_
      refine lv_goto (tgt := 30) hx hb dX4_isStanding_26 (by decide) ?_
      exact fw_reti C hr hlk rfl hP hS (⟨b2i_t (by rw [s_sd, c_4, ← eqw_congr (f := d17) (g := d1) hd17 hdd1, c_22]; rfl), hR1, hf1⟩) (Nat.le_of_ble_eq_true rfl) (Nat.le_of_ble_eq_true rfl) dX4_isStanding_30
end
section
theorem h1_and (σ : St) (t a b i : Nat) : s_h1 σ t b (some a) i = ((decide (s_st σ i = t) && decide (s_sp σ i = a) && decide (s_sm σ i = b)) && s_sd σ i) := by
  show (decide (s_st σ i = t) && decide (s_sm σ i = b) && decide (s_sp σ i = a) && s_sd σ i) = _
  cases decide (s_st σ i = t) <;> cases decide (s_sp σ i = a) <;> cases decide (s_sm σ i = b) <;> cases s_sd σ i <;> rfl
theorem mh_no {σ : St} {t i : Nat} {v : Int32} (hv : v = msk (fun m => s_hs σ t m none i) 10) (h : s_st σ i ≠ t ∨ s_sd σ i = false) : v = msk (fun m => s_hs σ t m none (i + 1)) 10 := by
  rw [hv]
  refine msk_congr fun m _ => ?_
  rw [s_hs_s, s_h1]
  rcases h with h | h
  · rw [decide_eq_false h]; simp
  · rw [h]; simp
theorem mh_yes {σ : St} {t i : Nat} {v v1 : Int32} (hv : v = msk (fun m => s_hs σ t m none i) 10) (h1 : s_st σ i = t) (h2 : s_sd σ i = true) (hm : s_sm σ i < 10) (hv1 : v1 = v ||| ((1 : Int32) <<< (nI (s_sm σ i) &&& 31))) : v1 = msk (fun m => s_hs σ t m none (i + 1)) 10 := by
  rw [hv1, hv, msk_or hm]
  refine msk_congr fun m _ => ?_
  rw [s_hs_s, s_h1, decide_eq_true h1, h2]
  unfold va_up
  by_cases e : m = s_sm σ i
  · rw [if_pos e, decide_eq_true e.symm]; simp
  · rw [if_neg e, decide_eq_false (fun q => e q.symm)]; simp
theorem Th_live {σ : St} {w : FW} {t : Nat} (h : Th σ w t) : w.2 11 t ≠ none := by
  obtain ⟨_, _, _, _, _, e, -⟩ := h
  rw [e]
  exact fun q => by cases q
theorem inj11 {Γ : FG} {σ : St} {w : FW} {H : Heap} (hP : fP Γ w H) (hR : Rc σ w) {a b : Nat} (ha : a < s_nt σ) (hb : b < s_nt σ) (h : w.1 11 a = w.1 11 b) : a = b :=
  (fP_inj hP (Th_live (hR.2.2.1.2.1 a ha)) (Th_live (hR.2.2.1.2.1 b hb)) h).2
set_option maxHeartbeats 4000000 in
set_option maxRecDepth 100000 in
theorem k_X4_isSignedBy (l : Launch) (Γ : FG) (w : FW) (σ : St) (t a b : Nat) (ha : a < 2 ^ 31) (hb0 : b < 2 ^ 31) (hI : Inv σ) (hR : Rc σ w) (ht : t < s_nt σ) : Met l yX4_isSignedBy (ws_ yX4_isSignedBy cX4_isSignedBy 6 (some .boolean)) (rmD 5 0 0) (va_Pc [.ref (w.1 0 0), .ref (w.1 11 t), .int (nI a), .int (nI b)] (fI Γ w)) (va_Qi (fun r w1 => r = b2i (s_hs σ t b (some a) (s_ns σ)) ∧ Rc σ w1 ∧ frd w w1) (fI Γ) (fA Γ)) 0 0 (fA Γ) := by
  refine fw_met (by decide) (Nat.le_of_ble_eq_true rfl) ?_
  intro p e s m below meth c ls C hP hS hr hlk hin hl
  have C : fC p s m [.ref (w.1 0 0), .ref (w.1 11 t), .int (nI a), .int (nI b)].toArray c cX4_isSignedBy 6 RX4 Γ := C
  have hx := C.1.1
  have hb := C.1.2.1
  have hl : lv_has ls 6 [(0, .ref (w.1 0 0)), (1, .ref (w.1 11 t)), (2, .int (nI a)), (3, .int (nI b))] := hl
  have hns := hI.1.2.2.2.1
  refine lv_iconst (v := nI 0) hx hb dX4_isSignedBy_0 (by decide) ?_
  refine lv_istore (lv' := [(4, .int (nI 0)), (0, .ref (w.1 0 0)), (1, .ref (w.1 11 t)), (2, .int (nI a)), (3, .int (nI b))]) hx hb dX4_isSignedBy_1 hl (by decide) rfl (fun ls hl => ?_)
  refine W.widen (k := 0) (n := 0) (Nat.le_of_ble_eq_true rfl) (Nat.le_of_ble_eq_true rfl) ?_
  have loop : ∀ (fu : Nat) (i : Nat) (u : Nat → Nat → Option FE) (H : Heap) (locs : List Loc) (ls : Array Slot), s_ns σ - i < fu → (i ≤ s_ns σ) → (Rc σ (w.1, u)) → (frd w (w.1, u)) → (s_hs σ t b (some a) i = false) → fP Γ (w.1, u) H → va_S (fA Γ) s.heap H locs → lv_has ls 6 [(4, .int (nI i)), (0, .ref (w.1 0 0)), (1, .ref (w.1 11 t)), (2, .int (nI a)), (3, .int (nI b))] → W p l e (rmD 5 0 0) s m [.ref (w.1 0 0), .ref (w.1 11 t), .int (nI a), .int (nI b)].toArray below meth c H locs 0 0 (MQ below (va_Qi (fun r w1 => r = b2i (s_hs σ t b (some a) (s_ns σ)) ∧ Rc σ w1 ∧ frd w w1) (fI Γ) (fA Γ)) [.ref (w.1 0 0), .ref (w.1 11 t), .int (nI a), .int (nI b)].toArray s 0 0 (fA Γ)) (F0 m 3 ls []) := by
    intro fu
    induction fu with
    | zero =>
      intro i u H locs ls hf
      exact absurd hf (Nat.not_lt_zero _)
    | succ fu ih =>
      intro i u H locs ls hf hi hRu hfu hz hP hS hl
      refine lv_iload hx hb dX4_isSignedBy_3 (lv_at hl 0 rfl) ?_
      refine lv_aload_n hx hb dX4_isSignedBy_5 rfl (lv_at hl 1 rfl) ?_
      refine gf_X4_113 C hP hRu.1 rfl rfl dX4_isSignedBy_6 ?_
      refine fw_geN (tgt := 53) hx hb (by omega) (by omega) dX4_isSignedBy_9 (by decide) (fun c_9 => ?_) (fun c_9 => ?_)
      · refine lv_iconst (v := nI 0) hx hb dX4_isSignedBy_53 (by decide) ?_
        exact fw_reti C hr hlk rfl hP hS (⟨b2i_f (by rw [← hz, (by omega : i = s_ns σ)]), hRu, hfu⟩) (Nat.le_of_ble_eq_true rfl) (Nat.le_of_ble_eq_true rfl) dX4_isSignedBy_54
      · refine lv_aload_n hx hb dX4_isSignedBy_12 rfl (lv_at hl 1 rfl) ?_
        refine lv_iload hx hb dX4_isSignedBy_13 (lv_at hl 0 rfl) ?_
        refine fw_cq0 (w := (w.1, u)) hS (fw_rV (rest := []) (As := [.int (nI i)]) C hP hS wV_X4_134 (k_X4_signatureAt l Γ (w.1, u) σ (nI i) hI.1.2.2.2.1 hRu.1 hRu.2.2.2.1.1) hRu.1 rfl rfl (fRm_mk rfl rfl (Nat.le_of_ble_eq_true rfl) (Nat.le_of_ble_eq_true rfl) (Nat.le_of_ble_eq_true rfl) (Nat.le_of_ble_eq_true rfl) (Nat.le_of_ble_eq_true rfl)) rfl hl.1 rfl dX4_isSignedBy_15) (fun H locs hP hS => ?_)
        refine fw_Eq (y := .ref (w.1 16 i)) (by rw [fIn_N (by omega), decide_eq_true (by omega), n_of_nI (by omega)]; rfl) ?_
        have hS1 := (hRu.2.2.2.1.2.1 i (by omega)).1
        have hIi := hI.2.2.2.2.2.1 i (by omega)
        refine lv_astore (lv' := [(5, .ref (w.1 16 i)), (4, .int (nI i)), (0, .ref (w.1 0 0)), (1, .ref (w.1 11 t)), (2, .int (nI a)), (3, .int (nI b))]) hx hb dX4_isSignedBy_18 hl (by decide) rfl (fun ls hl => ?_)
        refine lv_aload hx hb dX4_isSignedBy_20 (lv_at hl 0 rfl) ?_
        refine lv_ifnull hx hb dX4_isSignedBy_22 ?_
        refine lv_aload hx hb dX4_isSignedBy_25 (lv_at hl 0 rfl) ?_
        refine lv_aload_n hx hb dX4_isSignedBy_27 rfl (lv_at hl 3 rfl) ?_
        refine lv_iload_n hx hb dX4_isSignedBy_28 rfl (lv_at hl 4 rfl) ?_
        refine lv_iload_n hx hb dX4_isSignedBy_29 rfl (lv_at hl 5 rfl) ?_
        refine fw_ci0 (w := (w.1, u)) hS (fw_rV (rest := []) (As := [.ref (w.1 11 t), .int (nI a), .int (nI b)]) C hP hS wV_X4_174 (k_X2_isOf l Γ (w.1, u) σ i t a b ha hb0 hIi.2 (inj11 hP hRu hIi.1 ht) hS1) hS1 rfl rfl (fRm_mk rfl rfl (Nat.le_of_ble_eq_true rfl) (Nat.le_of_ble_eq_true rfl) (Nat.le_of_ble_eq_true rfl) (Nat.le_of_ble_eq_true rfl) (Nat.le_of_ble_eq_true rfl)) rfl hl.1 rfl dX4_isSignedBy_30) (fun H locs hP hS => ?_)
        refine fw_ieqB (tgt := 47) hx hb dX4_isSignedBy_33 (by decide) (fun c_33 => ?_) (fun c_33 => ?_)
        · refine lv_iinc (v := nI (i + 1)) (lv' := [(4, .int (nI (i + 1))), (5, .ref (w.1 16 i)), (0, .ref (w.1 0 0)), (1, .ref (w.1 11 t)), (2, .int (nI a)), (3, .int (nI b))]) hx hb dX4_isSignedBy_47 hl (k := 1) rfl (by rw [show Int32.ofInt 1 = nI 1 from rfl, nI_add]) (by decide) rfl (fun ls hl => ?_)
          refine lv_goto (tgt := 3) hx hb dX4_isSignedBy_50 (by decide) ?_
          refine W.widen (k := 0) (n := 0) (Nat.le_of_ble_eq_true rfl) (Nat.le_of_ble_eq_true rfl) ?_
          exact ih (i + 1) u H locs ls (by omega) (by omega) hRu hfu (by rw [s_hs_s, hz, h1_and, c_33]; rfl) hP hS (lv_sub hl [0, 2, 3, 4, 5] rfl)
        · refine lv_aload_n hx hb dX4_isSignedBy_36 rfl (lv_at hl 2 rfl) ?_
          refine lv_aload hx hb dX4_isSignedBy_37 (lv_at hl 0 rfl) ?_
          refine fw_ci hS (fw_rV (rest := []) (As := [.ref (w.1 16 i)]) C hP hS wV_X4_138 (k_X4_isStanding l Γ (w.1, u) σ i hI hRu (by omega)) hRu.1 rfl rfl (fRm_mk rfl rfl (Nat.le_of_ble_eq_true rfl) (Nat.le_of_ble_eq_true rfl) (Nat.le_of_ble_eq_true rfl) (Nat.le_of_ble_eq_true rfl) (Nat.le_of_ble_eq_true rfl)) rfl hl.1 rfl dX4_isSignedBy_39) (fun r1 w1 H locs hp hP hS => ?_)
          obtain ⟨ad1, u1⟩ := w1
          obtain ⟨rfl, hR1, hf1⟩ := hp
          have ha1 : ad1 = w.1 := hf1.1
          subst ha1
          have hf2 := frd_tr hfu hf1
          refine fw_ieqB (tgt := 47) hx hb dX4_isSignedBy_42 (by decide) (fun c_42 => ?_) (fun c_42 => ?_)
          · refine lv_iinc (v := nI (i + 1)) (lv' := [(4, .int (nI (i + 1))), (5, .ref (w.1 16 i)), (0, .ref (w.1 0 0)), (1, .ref (w.1 11 t)), (2, .int (nI a)), (3, .int (nI b))]) hx hb dX4_isSignedBy_47 hl (k := 1) rfl (by rw [show Int32.ofInt 1 = nI 1 from rfl, nI_add]) (by decide) rfl (fun ls hl => ?_)
            refine lv_goto (tgt := 3) hx hb dX4_isSignedBy_50 (by decide) ?_
            refine W.widen (k := 0) (n := 0) (Nat.le_of_ble_eq_true rfl) (Nat.le_of_ble_eq_true rfl) ?_
            exact ih (i + 1) u1 H locs ls (by omega) (by omega) hR1 hf2 (by rw [s_hs_s, hz, h1_and, c_33, c_42]; rfl) hP hS (lv_sub hl [0, 2, 3, 4, 5] rfl)
          · refine lv_iconst (v := nI 1) hx hb dX4_isSignedBy_45 (by decide) ?_
            exact fw_reti C hr hlk rfl hP hS (⟨b2i_t (s_hs_t (i := i + 1) (by rw [s_hs_s, h1_and, c_33, c_42]; simp) (by omega)), hR1, hf2⟩) (Nat.le_of_ble_eq_true rfl) (Nat.le_of_ble_eq_true rfl) dX4_isSignedBy_46
  exact loop (s_ns σ + 1) 0 w.2 _ _ _ (by omega) (by omega) hR (frd_rf w) rfl hP hS (lv_sub hl [0, 1, 2, 3, 4] rfl)
set_option maxHeartbeats 4000000 in
set_option maxRecDepth 100000 in
theorem k_X4_meaningsThatHold (l : Launch) (Γ : FG) (w : FW) (σ : St) (t : Nat) (hI : Inv σ) (hR : Rc σ w) (ht : t < s_nt σ) : Met l yX4_meaningsThatHold (ws_ yX4_meaningsThatHold cX4_meaningsThatHold 5 (some .int)) (rmD 5 0 0) (va_Pc [.ref (w.1 0 0), .ref (w.1 11 t)] (fI Γ w)) (va_Qi (fun r w1 => r = msk (fun m => s_hs σ t m none (s_ns σ)) 10 ∧ Rc σ w1 ∧ frd w w1) (fI Γ) (fA Γ)) 0 0 (fA Γ) := by
  refine fw_met (by decide) (Nat.le_of_ble_eq_true rfl) ?_
  intro p e s m below meth c ls C hP hS hr hlk hin hl
  have C : fC p s m [.ref (w.1 0 0), .ref (w.1 11 t)].toArray c cX4_meaningsThatHold 5 RX4 Γ := C
  have hx := C.1.1
  have hb := C.1.2.1
  have hl : lv_has ls 5 [(0, .ref (w.1 0 0)), (1, .ref (w.1 11 t))] := hl
  have hns := hI.1.2.2.2.1
  refine lv_iconst (v := nI 0) hx hb dX4_meaningsThatHold_0 (by decide) ?_
  refine lv_istore_n (lv' := [(2, .int (nI 0)), (0, .ref (w.1 0 0)), (1, .ref (w.1 11 t))]) hx hb dX4_meaningsThatHold_1 rfl hl (by decide) rfl (fun ls hl => ?_)
  refine lv_iconst (v := nI 0) hx hb dX4_meaningsThatHold_2 (by decide) ?_
  refine lv_istore_n (lv' := [(3, .int (nI 0)), (2, .int (nI 0)), (0, .ref (w.1 0 0)), (1, .ref (w.1 11 t))]) hx hb dX4_meaningsThatHold_3 rfl hl (by decide) rfl (fun ls hl => ?_)
  have hz0 : nI 0 = msk (fun m => s_hs σ t m none 0) 10 := (msk_0).symm
  refine W.widen (k := 0) (n := 0) (Nat.le_of_ble_eq_true rfl) (Nat.le_of_ble_eq_true rfl) ?_
  have loop : ∀ (fu : Nat) (i : Nat) (u : Nat → Nat → Option FE) (v : Int32) (H : Heap) (locs : List Loc) (ls : Array Slot), s_ns σ - i < fu → (i ≤ s_ns σ) → (Rc σ (w.1, u)) → (frd w (w.1, u)) → (v = msk (fun m => s_hs σ t m none i) 10) → fP Γ (w.1, u) H → va_S (fA Γ) s.heap H locs → lv_has ls 5 [(3, .int (nI i)), (2, .int v), (0, .ref (w.1 0 0)), (1, .ref (w.1 11 t))] → W p l e (rmD 5 0 0) s m [.ref (w.1 0 0), .ref (w.1 11 t)].toArray below meth c H locs 0 0 (MQ below (va_Qi (fun r w1 => r = msk (fun m => s_hs σ t m none (s_ns σ)) 10 ∧ Rc σ w1 ∧ frd w w1) (fI Γ) (fA Γ)) [.ref (w.1 0 0), .ref (w.1 11 t)].toArray s 0 0 (fA Γ)) (F0 m 4 ls []) := by
    intro fu
    induction fu with
    | zero =>
      intro i u v H locs ls hf
      exact absurd hf (Nat.not_lt_zero _)
    | succ fu ih =>
      intro i u v H locs ls hf hi hRu hfu hz hP hS hl
      have hPo := hP
      refine lv_iload_n hx hb dX4_meaningsThatHold_4 rfl (lv_at hl 0 rfl) ?_
      refine lv_aload_n hx hb dX4_meaningsThatHold_5 rfl (lv_at hl 2 rfl) ?_
      refine gf_X4_113 C hP hRu.1 rfl rfl dX4_meaningsThatHold_6 ?_
      refine fw_geN (tgt := 58) hx hb (by omega) (by omega) dX4_meaningsThatHold_9 (by decide) (fun c_9 => ?_) (fun c_9 => ?_)
      · refine lv_iload_n hx hb dX4_meaningsThatHold_58 rfl (lv_at hl 1 rfl) ?_
        exact fw_reti C hr hlk rfl hP hS (⟨by rw [hz, (by omega : i = s_ns σ)], hRu, hfu⟩) (Nat.le_of_ble_eq_true rfl) (Nat.le_of_ble_eq_true rfl) dX4_meaningsThatHold_59
      · refine lv_aload_n hx hb dX4_meaningsThatHold_12 rfl (lv_at hl 2 rfl) ?_
        refine lv_iload_n hx hb dX4_meaningsThatHold_13 rfl (lv_at hl 0 rfl) ?_
        refine fw_cq0 (w := (w.1, u)) hS (fw_rV (rest := []) (As := [.int (nI i)]) C hP hS wV_X4_134 (k_X4_signatureAt l Γ (w.1, u) σ (nI i) hI.1.2.2.2.1 hRu.1 hRu.2.2.2.1.1) hRu.1 rfl rfl (fRm_mk rfl rfl (Nat.le_of_ble_eq_true rfl) (Nat.le_of_ble_eq_true rfl) (Nat.le_of_ble_eq_true rfl) (Nat.le_of_ble_eq_true rfl) (Nat.le_of_ble_eq_true rfl)) rfl hl.1 rfl dX4_meaningsThatHold_14) (fun H locs hP hS => ?_)
        refine fw_Eq (y := .ref (w.1 16 i)) (by rw [fIn_N (by omega), decide_eq_true (by omega), n_of_nI (by omega)]; rfl) ?_
        have hS1 := (hRu.2.2.2.1.2.1 i (by omega)).1
        have hIi := hI.2.2.2.2.2.1 i (by omega)
        refine lv_astore (lv' := [(4, .ref (w.1 16 i)), (3, .int (nI i)), (2, .int v), (0, .ref (w.1 0 0)), (1, .ref (w.1 11 t))]) hx hb dX4_meaningsThatHold_17 hl (by decide) rfl (fun ls hl => ?_)
        refine lv_aload hx hb dX4_meaningsThatHold_19 (lv_at hl 0 rfl) ?_
        refine lv_ifnull hx hb dX4_meaningsThatHold_21 ?_
        refine lv_aload hx hb dX4_meaningsThatHold_24 (lv_at hl 0 rfl) ?_
        refine gf_X4_167 C hP hS1 rfl rfl dX4_meaningsThatHold_26 ?_
        refine lv_aload_n hx hb dX4_meaningsThatHold_29 rfl (lv_at hl 4 rfl) ?_
        refine lv_acmp_ne (rx := some (w.1 11 (s_st σ i))) (ry := some (w.1 11 t)) (tgt := 52) hx hb dX4_meaningsThatHold_30 (by decide) (fun c_30 => ?_) (fun c_30 => ?_)
        · refine lv_iinc (v := nI (i + 1)) (lv' := [(3, .int (nI (i + 1))), (4, .ref (w.1 16 i)), (2, .int v), (0, .ref (w.1 0 0)), (1, .ref (w.1 11 t))]) hx hb dX4_meaningsThatHold_52 hl (k := 1) rfl (by rw [show Int32.ofInt 1 = nI 1 from rfl, nI_add]) (by decide) rfl (fun ls hl => ?_)
          refine lv_goto (tgt := 4) hx hb dX4_meaningsThatHold_55 (by decide) ?_
          refine W.widen (k := 0) (n := 0) (Nat.le_of_ble_eq_true rfl) (Nat.le_of_ble_eq_true rfl) ?_
          exact ih (i + 1) u v H locs ls (by omega) (by omega) hRu hfu (mh_no hz (Or.inl (fun q => c_30 (by rw [q])))) hP hS (lv_sub hl [0, 2, 3, 4] rfl)
        · refine lv_aload_n hx hb dX4_meaningsThatHold_33 rfl (lv_at hl 3 rfl) ?_
          refine lv_aload hx hb dX4_meaningsThatHold_34 (lv_at hl 0 rfl) ?_
          refine fw_ci hS (fw_rV (rest := []) (As := [.ref (w.1 16 i)]) C hP hS wV_X4_138 (k_X4_isStanding l Γ (w.1, u) σ i hI hRu (by omega)) hRu.1 rfl rfl (fRm_mk rfl rfl (Nat.le_of_ble_eq_true rfl) (Nat.le_of_ble_eq_true rfl) (Nat.le_of_ble_eq_true rfl) (Nat.le_of_ble_eq_true rfl) (Nat.le_of_ble_eq_true rfl)) rfl hl.1 rfl dX4_meaningsThatHold_36) (fun r1 w1 H locs hp hP hS => ?_)
          obtain ⟨ad1, u1⟩ := w1
          obtain ⟨rfl, hR1, hf1⟩ := hp
          have ha1 : ad1 = w.1 := hf1.1
          subst ha1
          have hf2 := frd_tr hfu hf1
          refine fw_ieqB (tgt := 52) hx hb dX4_meaningsThatHold_39 (by decide) (fun c_39 => ?_) (fun c_39 => ?_)
          · refine lv_iinc (v := nI (i + 1)) (lv' := [(3, .int (nI (i + 1))), (4, .ref (w.1 16 i)), (2, .int v), (0, .ref (w.1 0 0)), (1, .ref (w.1 11 t))]) hx hb dX4_meaningsThatHold_52 hl (k := 1) rfl (by rw [show Int32.ofInt 1 = nI 1 from rfl, nI_add]) (by decide) rfl (fun ls hl => ?_)
            refine lv_goto (tgt := 4) hx hb dX4_meaningsThatHold_55 (by decide) ?_
            refine W.widen (k := 0) (n := 0) (Nat.le_of_ble_eq_true rfl) (Nat.le_of_ble_eq_true rfl) ?_
            exact ih (i + 1) u1 v H locs ls (by omega) (by omega) hR1 hf2 (mh_no hz (Or.inr c_39)) hP hS (lv_sub hl [0, 2, 3, 4] rfl)
          · refine lv_iload_n hx hb dX4_meaningsThatHold_42 rfl (lv_at hl 2 rfl) ?_
            refine lv_iconst (v := 1) hx hb dX4_meaningsThatHold_43 (by decide) ?_
            refine lv_aload hx hb dX4_meaningsThatHold_44 (lv_at hl 0 rfl) ?_
            refine gf_X4_171 C hP ((hR1.2.2.2.1.2.1 i (by omega)).1) rfl rfl dX4_meaningsThatHold_46 ?_
            refine lv_ishl hx hb dX4_meaningsThatHold_49 ?_
            refine lv_ior hx hb dX4_meaningsThatHold_50 ?_
            refine lv_topi (fun x2_51 e_x2_51 => ?_)
            refine lv_istore_n (lv' := [(2, .int x2_51), (4, .ref (w.1 16 i)), (3, .int (nI i)), (0, .ref (w.1 0 0)), (1, .ref (w.1 11 t))]) hx hb dX4_meaningsThatHold_51 rfl hl (by decide) rfl (fun ls hl => ?_)
            refine lv_iinc (v := nI (i + 1)) (lv' := [(3, .int (nI (i + 1))), (2, .int x2_51), (4, .ref (w.1 16 i)), (0, .ref (w.1 0 0)), (1, .ref (w.1 11 t))]) hx hb dX4_meaningsThatHold_52 hl (k := 2) rfl (by rw [show Int32.ofInt 1 = nI 1 from rfl, nI_add]) (by decide) rfl (fun ls hl => ?_)
            refine lv_goto (tgt := 4) hx hb dX4_meaningsThatHold_55 (by decide) ?_
            refine W.widen (k := 0) (n := 0) (Nat.le_of_ble_eq_true rfl) (Nat.le_of_ble_eq_true rfl) ?_
            exact ih (i + 1) u1 x2_51 H locs ls (by omega) (by omega) hR1 hf2 (mh_yes hz (inj11 hPo hRu hIi.1 ht (Option.some.inj c_30)) c_39 hIi.2.2 e_x2_51) hP hS (lv_sub hl [0, 1, 3, 4] rfl)
  exact loop (s_ns σ + 1) 0 w.2 (nI 0) _ _ _ (by omega) (by omega) hR (frd_rf w) hz0 hP hS (lv_sub hl [0, 1, 2, 3] rfl)
end
section
/-! what the class's cells keep of a state when a few of them change -/
def sk (k : Nat) (w w1 : FW) : Prop := ∀ i, w1.2 k i = w.2 k i ∧ w1.1 k i = w.1 k i
theorem sk_rf {k : Nat} {w : FW} : sk k w w := fun _ => ⟨rfl, rfl⟩
theorem sk_set {k k0 i : Nat} {e : FE} {w w1 : FW} (h : sk k w w1) (hk : k ≠ k0) : sk k w (fset w1 k0 i e) := fun j => ⟨(fset_ne hk).trans (h j).1, (h j).2⟩
theorem sk_new {k k0 i q : Nat} {e : FE} {w w1 : FW} (h : sk k w w1) (hk : k ≠ k0) : sk k w (fnew w1 k0 i e q) := fun j => ⟨(fnew_ne hk).trans (h j).1, (fnew_ane hk).trans (h j).2⟩
theorem sk_tr {k : Nat} {a b c : FW} (h1 : sk k a b) (h2 : sk k b c) : sk k a c := fun j => ⟨(h2 j).1.trans (h1 j).1, (h2 j).2.trans (h1 j).2⟩
theorem RcR_c {σ : St} {w w1 : FW} (h : RcR σ w) (h1 : sk 1 w w1) (h10 : sk 10 w w1) : RcR σ w1 := by
  obtain ⟨f, a1, a2, a3⟩ := h
  exact ⟨f, (h1 0).1.trans a1, fun i hi => ⟨by rw [(h10 i).2]; exact (a2 i hi).1, (h10 i).1.trans (a2 i hi).2⟩, fun i hi => (h10 i).1.trans (a3 i hi)⟩
theorem Th_c {σ : St} {w w1 : FW} {t : Nat} (h : Th σ w t) (hk : ∀ k, 11 ≤ k → k ≤ 15 → w1.2 k t = w.2 k t ∧ w1.1 k t = w.1 k t) : Th σ w1 t := by
  obtain ⟨b, d, c, n, z, h1, h2, h3, h4, h5, h6⟩ := h
  refine ⟨b, d, c, n, z, ?_, (hk 12 (by omega) (by omega)).1.trans h2, (hk 13 (by omega) (by omega)).1.trans h3, (hk 14 (by omega) (by omega)).1.trans h4, (hk 15 (by omega) (by omega)).1.trans h5, h6⟩
  rw [(hk 11 (by omega) (by omega)).1, h1]
  show some (oO 3 [_, .ref (w.1 12 t), _, .ref (w.1 13 t), _, .ref (w.1 14 t), _, .ref (w.1 15 t), _]) = some (oO 3 [_, .ref (w1.1 12 t), _, .ref (w1.1 13 t), _, .ref (w1.1 14 t), _, .ref (w1.1 15 t), _])
  rw [(hk 12 (by omega) (by omega)).2, (hk 13 (by omega) (by omega)).2, (hk 14 (by omega) (by omega)).2, (hk 15 (by omega) (by omega)).2]
theorem Th_eq {σ σ1 : St} {w : FW} {t : Nat} (h : Th σ w t) (e1 : s_mk σ1 t = s_mk σ t) (e2 : s_ln σ1 t = s_ln σ t) (e3 : s_by σ1 t = s_by σ t) (e4 : s_cn σ1 t = s_cn σ t) (e5 : s_cm σ1 t = s_cm σ t) (e6 : s_dn σ1 t = s_dn σ t) (e7 : s_nd σ1 t = s_nd σ t) : Th σ1 w t := by
  obtain ⟨b, d, c, n, z, h1, h2, h3, h4, h5, h6, h7, h8, h9⟩ := h
  refine ⟨b, d, c, n, z, ?_, h2, h3, h4, h5, ?_, ?_, ?_, ?_⟩
  · rw [h1]
    show some (oO 3 [.int (nI (s_mk σ t)), _, .int (nI (s_ln σ t)), _, _, _, .int (nI (s_cn σ t)), _, .int (nI (s_dn σ t))]) = some (oO 3 [.int (nI (s_mk σ1 t)), _, .int (nI (s_ln σ1 t)), _, _, _, .int (nI (s_cn σ1 t)), _, .int (nI (s_dn σ1 t))])
    rw [e1, e2, e4, e6]
  · rw [e2, e3]; exact h6
  · rw [e4, e5]; exact h7
  · rw [e6, e7]; exact h8
  · unfold s_dg
    rw [e2, e3]; exact h9
theorem RcT_c {σ : St} {w w1 : FW} (h : RcT σ w) (h2 : sk 2 w w1) (h11 : sk 11 w w1) (h12 : sk 12 w w1) (h13 : sk 13 w w1) (h14 : sk 14 w w1) (h15 : sk 15 w w1) : RcT σ w1 := by
  obtain ⟨⟨f, a1, a2⟩, a3, a4⟩ := h
  refine ⟨⟨f, (h2 0).1.trans a1, fun t ht => by rw [(h11 t).2]; exact a2 t ht⟩, fun t ht => Th_c (a3 t ht) ?_, fun t ht => ?_⟩
  · intro k b1 b2
    rcases (show k = 11 ∨ k = 12 ∨ k = 13 ∨ k = 14 ∨ k = 15 by omega) with rfl | rfl | rfl | rfl | rfl
    · exact h11 t
    · exact h12 t
    · exact h13 t
    · exact h14 t
    · exact h15 t
  · obtain ⟨b1, b2, b3, b4, b5⟩ := a4 t ht
    exact ⟨(h11 t).1.trans b1, (h12 t).1.trans b2, (h13 t).1.trans b3, (h14 t).1.trans b4, (h15 t).1.trans b5⟩
theorem RcS_c {σ : St} {w w1 : FW} (h : RcS σ w) (h3 : sk 3 w w1) (h16 : sk 16 w w1) (h17 : sk 17 w w1) (h11 : ∀ i, i < s_ns σ → w1.1 11 (s_st σ i) = w.1 11 (s_st σ i)) : RcS σ w1 := by
  obtain ⟨⟨f, a1, a2⟩, a3, a4⟩ := h
  refine ⟨⟨f, (h3 0).1.trans a1, fun i hi => by rw [(h16 i).2]; exact a2 i hi⟩, fun i hi => ?_, fun i hi => ⟨(h16 i).1.trans (a4 i hi).1, (h17 i).1.trans (a4 i hi).2⟩⟩
  obtain ⟨b1, d, b2, b3⟩ := a3 i hi
  refine ⟨?_, d, (h17 i).1.trans b2, b3⟩
  rw [(h16 i).1, b1]
  show some (oO 2 [.ref (w.1 11 (s_st σ i)), _, _, .ref (w.1 17 i), _]) = some (oO 2 [.ref (w1.1 11 (s_st σ i)), _, _, .ref (w1.1 17 i), _])
  rw [h11 i hi, (h17 i).2]
theorem RcW_c {σ : St} {w w1 : FW} (h : RcW σ w) (h4 : sk 4 w w1) : RcW σ w1 := by
  obtain ⟨f, a1, a2⟩ := h
  exact ⟨f, (h4 0).1.trans a1, a2⟩
theorem RcO_c {σ : St} {w w1 : FW} (h : RcO σ w) (h5 : sk 5 w w1) (h6 : sk 6 w w1) : RcO σ w1 := by
  obtain ⟨f, g, a1, a2, a3⟩ := h
  exact ⟨f, g, (h5 0).1.trans a1, (h6 0).1.trans a2, a3⟩
theorem RcH_c {w w1 : FW} (h : RcH w) (h7 : sk 7 w w1) (h8 : sk 8 w w1) (h9 : sk 9 w w1) : RcH w1 := by
  obtain ⟨a1, ⟨a, a2⟩, ⟨b, a3⟩⟩ := h
  exact ⟨by rw [(h7 0).1, a1, (h8 0).2, (h9 0).2], ⟨a, (h8 0).1.trans a2⟩, ⟨b, (h9 0).1.trans a3⟩⟩
/-- person, the clock: only the object itself changes -/
theorem Rc_sr {σ : St} {w : FW} (hR : Rc σ w) (np : Nat) (ck : Int64) : Rc ((np, s_nr σ, s_nt σ, s_ns σ, s_nw σ, ck), σ.2) (fset w 0 0 (oSR ((np, s_nr σ, s_nt σ, s_ns σ, s_nw σ, ck), σ.2) w)) := by
  obtain ⟨-, r1, r2, r3, r4, r5, r6⟩ := hR
  have s : ∀ k, k ≠ 0 → sk k w (fset w 0 0 (oSR ((np, s_nr σ, s_nt σ, s_ns σ, s_nw σ, ck), σ.2) w)) := fun k h => sk_set sk_rf h
  exact ⟨fset_at, RcR_c (σ := σ) r1 (s 1 (by decide)) (s 10 (by decide)), RcT_c (σ := σ) r2 (s 2 (by decide)) (s 11 (by decide)) (s 12 (by decide)) (s 13 (by decide)) (s 14 (by decide)) (s 15 (by decide)), RcS_c (σ := σ) r3 (s 3 (by decide)) (s 16 (by decide)) (s 17 (by decide)) (fun _ _ => rfl), RcW_c (σ := σ) r4 (s 4 (by decide)), RcO_c (σ := σ) r5 (s 5 (by decide)) (s 6 (by decide)), RcH_c r6 (s 7 (by decide)) (s 8 (by decide)) (s 9 (by decide))⟩
/-- a role more -/
theorem Rc_role {σ : St} {w : FW} {a b q : Nat} {x y : Int64} {f : Nat → Option Nat} (hR : Rc σ w) (hf : w.2 1 0 = some (aR 4 100 f)) {σ1 : St} (e : σ1 = ((s_np σ, s_nr σ + 1, s_nt σ, s_ns σ, s_nw σ, s_ck σ), (va_up (s_rp σ) (s_nr σ) a, va_up (s_rk σ) (s_nr σ) b, va_up (s_rf σ) (s_nr σ) x, va_up (s_rt σ) (s_nr σ) y), σ.2.2)) : Rc σ1 (fset (fset (fnew w 10 (s_nr σ) (oO 0 [.int (nI a), .int (nI b), .long x, .long y]) q) 1 0 (aR 4 100 (va_up f (s_nr σ) (some q)))) 0 0 (oSR σ1 w)) := by
  obtain ⟨-, ⟨f2v, r1, r1a, r1b⟩, r2, r3, r4, r5, r6⟩ := hR
  have ef : f2v = f := by
    have := r1.symm.trans hf
    simpa [aR] using this
  subst ef
  have s : ∀ k, k ≠ 0 → k ≠ 1 → k ≠ 10 → sk k w (fset (fset (fnew w 10 (s_nr σ) (oO 0 [.int (nI a), .int (nI b), .long x, .long y]) q) 1 0 (aR 4 100 (va_up f2v (s_nr σ) (some q)))) 0 0 (oSR σ1 w)) := fun k h0 h1 h2 => sk_set (sk_set (sk_new sk_rf h2) h1) h0
  refine ⟨?_, ⟨va_up f2v (s_nr σ) (some q), (fset_ne (by decide)).trans fset_at, fun i hi => ?_, fun i hi => ?_⟩, ?_, ?_, ?_, ?_, RcH_c r6 (s 7 (by decide) (by decide) (by decide)) (s 8 (by decide) (by decide) (by decide)) (s 9 (by decide) (by decide) (by decide))⟩
  · subst e; exact fset_at
  · subst e
    by_cases hi2 : i = s_nr σ
    · subst hi2
      refine ⟨?_, ?_⟩
      · rw [va_up_self]
        exact congrArg some (fset_ad.trans (fset_ad.trans fnew_aat)).symm
      · refine (fset_ne (by decide)).trans ((fset_ne (by decide)).trans (fnew_at.trans ?_))
        show _ = some (oO 0 [.int (nI (va_up (s_rp σ) (s_nr σ) a (s_nr σ))), .int (nI (va_up (s_rk σ) (s_nr σ) b (s_nr σ))), .long (va_up (s_rf σ) (s_nr σ) x (s_nr σ)), .long (va_up (s_rt σ) (s_nr σ) y (s_nr σ))])
        rw [va_up_self, va_up_self, va_up_self, va_up_self]
    · have hi3 : i < s_nr σ := by
        have : i < s_nr σ + 1 := hi
        omega
      obtain ⟨b1, b2⟩ := r1a i hi3
      refine ⟨?_, ?_⟩
      · rw [va_up_ne _ _ hi2, b1]
        exact congrArg some (fset_ad.trans (fset_ad.trans (fnew_ani hi2))).symm
      · refine (fset_ne (by decide)).trans ((fset_ne (by decide)).trans ((fnew_ni hi2).trans (b2.trans ?_)))
        show _ = some (oO 0 [.int (nI (va_up (s_rp σ) (s_nr σ) a i)), .int (nI (va_up (s_rk σ) (s_nr σ) b i)), .long (va_up (s_rf σ) (s_nr σ) x i), .long (va_up (s_rt σ) (s_nr σ) y i)])
        rw [va_up_ne _ _ hi2, va_up_ne _ _ hi2, va_up_ne _ _ hi2, va_up_ne _ _ hi2]
  · subst e
    have h9 : s_nr σ + 1 ≤ i := hi
    exact (fset_ne (by decide)).trans ((fset_ne (by decide)).trans ((fnew_ni (by omega)).trans (r1b i (by omega))))
  · subst e; exact RcT_c (σ := σ) r2 (s 2 (by decide) (by decide) (by decide)) (s 11 (by decide) (by decide) (by decide)) (s 12 (by decide) (by decide) (by decide)) (s 13 (by decide) (by decide) (by decide)) (s 14 (by decide) (by decide) (by decide)) (s 15 (by decide) (by decide) (by decide))
  · subst e; exact RcS_c (σ := σ) r3 (s 3 (by decide) (by decide) (by decide)) (s 16 (by decide) (by decide) (by decide)) (s 17 (by decide) (by decide) (by decide)) (fun i _ => (s 11 (by decide) (by decide) (by decide) _).2)
  · subst e; exact RcW_c (σ := σ) r4 (s 4 (by decide) (by decide) (by decide))
  · subst e; exact RcO_c (σ := σ) r5 (s 5 (by decide) (by decide) (by decide)) (s 6 (by decide) (by decide) (by decide))
theorem va_up_lt {f : Nat → Nat} {n v i : Nat} (h : i < n) : va_up f n v i = f i := va_up_ne _ _ (by omega)
/-- a thing's own cells change -/
theorem Rc_thg {σ σ1 : St} {w w1 : FW} {t : Nat} (hR : Rc σ w) (ht : t < s_nt σ) (e1 : σ1.1 = σ.1) (e2 : σ1.2.1 = σ.2.1) (e3 : σ1.2.2.2 = σ.2.2.2) (ha : w1.1 = w.1) (hk : ∀ k i, ¬ ((k = 11 ∨ k = 12 ∨ k = 13 ∨ k = 14 ∨ k = 15) ∧ i = t) → w1.2 k i = w.2 k i) (hT : Th σ1 w1 t)
    (ho : ∀ i, i ≠ t → s_mk σ1 i = s_mk σ i ∧ s_ln σ1 i = s_ln σ i ∧ s_by σ1 i = s_by σ i ∧ s_cn σ1 i = s_cn σ i ∧ s_cm σ1 i = s_cm σ i ∧ s_dn σ1 i = s_dn σ i ∧ s_nd σ1 i = s_nd σ i) : Rc σ1 w1 := by
  obtain ⟨r0, r1, ⟨⟨fT, rT1, rT2⟩, rT3, rT4⟩, r3, r4, r5, r6⟩ := hR
  have s : ∀ k, k ≠ 11 → k ≠ 12 → k ≠ 13 → k ≠ 14 → k ≠ 15 → sk k w w1 := fun k b1 b2 b3 b4 b5 i => ⟨hk k i (by omega), by rw [ha]⟩
  obtain ⟨s1, sA, sB, sC⟩ := σ1
  obtain ⟨t1, tA, tB, tC⟩ := σ
  have e1 : s1 = t1 := e1
  have e2 : sA = tA := e2
  have e3 : sC = tC := e3
  subst e1; subst e2; subst e3
  refine ⟨?_, RcR_c (σ := (s1, sA, tB, sC)) r1 (s 1 (by decide) (by decide) (by decide) (by decide) (by decide)) (s 10 (by decide) (by decide) (by decide) (by decide) (by decide)), ⟨⟨fT, (hk 2 0 (by omega)).trans rT1, fun i hi => by rw [ha]; exact rT2 i hi⟩, fun i hi => ?_, fun i hi => ?_⟩, RcS_c (σ := (s1, sA, tB, sC)) r3 (s 3 (by decide) (by decide) (by decide) (by decide) (by decide)) (s 16 (by decide) (by decide) (by decide) (by decide) (by decide)) (s 17 (by decide) (by decide) (by decide) (by decide) (by decide)) (fun i _ => by rw [ha]), RcW_c (σ := (s1, sA, tB, sC)) r4 (s 4 (by decide) (by decide) (by decide) (by decide) (by decide)), RcO_c (σ := (s1, sA, tB, sC)) r5 (s 5 (by decide) (by decide) (by decide) (by decide) (by decide)) (s 6 (by decide) (by decide) (by decide) (by decide) (by decide)), RcH_c r6 (s 7 (by decide) (by decide) (by decide) (by decide) (by decide)) (s 8 (by decide) (by decide) (by decide) (by decide) (by decide)) (s 9 (by decide) (by decide) (by decide) (by decide) (by decide))⟩
  · show w1.2 0 0 = some (oO 4 [_, .ref (w1.1 1 0), _, .ref (w1.1 2 0), _, .ref (w1.1 3 0), _, .ref (w1.1 4 0), _, .ref (w1.1 5 0), .ref (w1.1 6 0), _, .ref (w1.1 7 0)])
    rw [hk 0 0 (by omega), ha]
    exact r0
  · by_cases hi2 : i = t
    · rw [hi2]; exact hT
    · obtain ⟨o1, o2, o3, o4, o5, o6, o7⟩ := ho i hi2
      exact Th_eq (Th_c (rT3 i hi) (fun k b1 b2 => ⟨hk k i (by omega), by rw [ha]⟩)) o1 o2 o3 o4 o5 o6 o7
  · have h9 : t ≠ i := by
      have : s1.2.2.1 ≤ i := hi
      have : t < s1.2.2.1 := ht
      omega
    obtain ⟨b1, b2, b3, b4, b5⟩ := rT4 i hi
    exact ⟨(hk 11 i (by omega)).trans b1, (hk 12 i (by omega)).trans b2, (hk 13 i (by omega)).trans b3, (hk 14 i (by omega)).trans b4, (hk 15 i (by omega)).trans b5⟩
end
section
/-! orders: what comes behind what, over any number of others -/
theorem anyj_iff {f : Nat → Bool} : ∀ {n : Nat}, anyj f n = true ↔ ∃ j, j < n ∧ f j = true
  | 0 => by
    constructor
    · intro h; cases h
    · rintro ⟨j, hj, -⟩; exact absurd hj (Nat.not_lt_zero _)
  | n + 1 => by
    rw [anyj, Bool.or_eq_true, anyj_iff]
    constructor
    · rintro (⟨j, hj, h⟩ | h)
      · exact ⟨j, by omega, h⟩
      · exact ⟨n, by omega, h⟩
    · rintro ⟨j, hj, h⟩
      rcases Nat.lt_or_ge j n with q | q
      · exact Or.inl ⟨j, q, h⟩
      · have : j = n := by omega
        subst this
        exact Or.inr h
theorem cmx_s {bh : Nat → Nat → Bool} {k m b : Nat} : cmx bh (k + 1) m b = true ↔ bh m b = true ∨ ∃ j, j < 10 ∧ bh m j = true ∧ cmx bh k j b = true := by
  rw [cmx, Bool.or_eq_true, anyj_iff]
  constructor
  · rintro (h | ⟨j, hj, h⟩)
    · exact Or.inl h
    · rw [Bool.and_eq_true] at h
      exact Or.inr ⟨j, hj, h.1, h.2⟩
  · rintro (h | ⟨j, hj, h1, h2⟩)
    · exact Or.inl h
    · exact Or.inr ⟨j, hj, by rw [h1, h2]; rfl⟩
theorem cmx_edge {bh : Nat → Nat → Bool} {m b : Nat} (h : bh m b = true) : ∀ k, cmx bh k m b = true
  | 0 => h
  | _ + 1 => cmx_s.mpr (Or.inl h)
theorem cmx_mono {bh : Nat → Nat → Bool} : ∀ {k m b : Nat}, cmx bh k m b = true → cmx bh (k + 1) m b = true
  | 0, m, b, h => cmx_s.mpr (Or.inl h)
  | k + 1, m, b, h => by
    rcases cmx_s.mp h with h | ⟨j, hj, h1, h2⟩
    · exact cmx_s.mpr (Or.inl h)
    · exact cmx_s.mpr (Or.inr ⟨j, hj, h1, cmx_mono h2⟩)
theorem cmx_le {bh : Nat → Nat → Bool} {k m b : Nat} (h : cmx bh k m b = true) : ∀ d, cmx bh (k + d) m b = true
  | 0 => h
  | d + 1 => cmx_mono (cmx_le h d)
theorem cmx_up {bh : Nat → Nat → Bool} {k l m b : Nat} (h : cmx bh k m b = true) (hl : k ≤ l) : cmx bh l m b = true := by
  have := cmx_le h (l - k)
  rwa [Nat.add_sub_cancel' hl] at this
theorem cmx_tr {bh : Nat → Nat → Bool} {b c l : Nat} (hb : b < 10) (h2 : cmx bh l b c = true) : ∀ {k m : Nat}, cmx bh k m b = true → cmx bh (k + l + 1) m c = true
  | 0, m, h => cmx_s.mpr (Or.inr ⟨b, hb, h, by rw [Nat.zero_add]; exact h2⟩)
  | k + 1, m, h => by
    rcases cmx_s.mp h with h | ⟨j, hj, h1, h3⟩
    · exact cmx_s.mpr (Or.inr ⟨b, hb, h, cmx_up h2 (by omega)⟩)
    · have := cmx_tr hb h2 h3
      rw [show k + 1 + l + 1 = (k + l + 1) + 1 by omega]
      exact cmx_s.mpr (Or.inr ⟨j, hj, h1, this⟩)
/-- b comes behind m -/
def cmR (bh : Nat → Nat → Bool) (m b : Nat) : Prop := ∃ k, cmx bh k m b = true
theorem cmR_tr {bh : Nat → Nat → Bool} {a b c : Nat} (hb : b < 10) (h1 : cmR bh a b) (h2 : cmR bh b c) : cmR bh a c := by
  obtain ⟨k, h1⟩ := h1
  obtain ⟨l, h2⟩ := h2
  exact ⟨_, cmx_tr hb h2 h1⟩
theorem ct_lt {p q : Nat → Bool} {n i : Nat} (hi : i < n) (h : ∀ k, k < n → p k = true → q k = true) (hp : p i = false) (hq : q i = true) : fb_ct p n < fb_ct q n := by
  have h1 : fb_ct (fun k => if k = i then true else p k) n + 0 = fb_ct p n + 1 := by
    have h := fb_ct_upd p true hi
    rw [hp] at h
    exact h
  have h2 : fb_ct (fun k => if k = i then true else p k) n ≤ fb_ct q n := fb_ct_sub (fun k hk hk2 => by
    by_cases e : k = i
    · rw [e]; exact hq
    · simp only [if_neg e] at hk2
      exact h k hk hk2)
  omega
noncomputable def cmB (bh : Nat → Nat → Bool) (m b : Nat) : Bool := @decide (cmR bh m b) (Classical.propDecidable _)
theorem cmB_iff {bh : Nat → Nat → Bool} {m b : Nat} : cmB bh m b = true ↔ cmR bh m b := @decide_eq_true_iff _ (Classical.propDecidable _)
theorem cmB_no {bh : Nat → Nat → Bool} {m b : Nat} (h : ¬ cmR bh m b) : cmB bh m b = false := @decide_eq_false _ (Classical.propDecidable _) h
theorem cmR_10 {bh : Nat → Nat → Bool} (ha : ∀ m, m < 10 → ¬ cmR bh m m) : ∀ {k m b : Nat}, m < 10 → cmx bh k m b = true → cmx bh (fb_ct (cmB bh m) 10) m b = true
  | 0, m, b, _, h => cmx_edge h _
  | k + 1, m, b, hm, h => by
    rcases cmx_s.mp h with h | ⟨j, hj, h1, h3⟩
    · exact cmx_edge h _
    · have ih := cmR_10 ha hj h3
      have hlt : fb_ct (cmB bh j) 10 < fb_ct (cmB bh m) 10 :=
        ct_lt hj (fun c _ hc => cmB_iff.mpr (cmR_tr hj ⟨0, h1⟩ (cmB_iff.mp hc))) (cmB_no (ha j hj)) (cmB_iff.mpr ⟨0, h1⟩)
      obtain ⟨d, hd⟩ : ∃ d, fb_ct (cmB bh m) 10 = d + 1 := ⟨fb_ct (cmB bh m) 10 - 1, by omega⟩
      rw [hd] at hlt ⊢
      exact cmx_s.mpr (Or.inr ⟨j, hj, h1, cmx_up ih (by omega)⟩)
theorem cmR_iff {bh : Nat → Nat → Bool} (ha : ∀ m, m < 10 → ¬ cmR bh m m) {m b : Nat} (hm : m < 10) : cmx bh 10 m b = true ↔ cmR bh m b := by
  constructor
  · intro h; exact ⟨10, h⟩
  · rintro ⟨k, h⟩
    exact cmx_up (cmR_10 ha hm h) (fb_ct_le _ _)
theorem cmR_of {bh : Nat → Nat → Bool} (h : ∀ m, m < 10 → ∀ k, cmx bh k m m = false) : ∀ m, m < 10 → ¬ cmR bh m m := by
  rintro m hm ⟨k, hk⟩
  rw [h m hm k] at hk
  cases hk
theorem cmx_sub {bh bh1 : Nat → Nat → Bool} (hs : ∀ m b, bh m b = true → bh1 m b = true) : ∀ {k m b : Nat}, cmx bh k m b = true → cmx bh1 k m b = true
  | 0, m, b, h => hs m b h
  | k + 1, m, b, h => by
    rcases cmx_s.mp h with h | ⟨j, hj, h1, h3⟩
    · exact cmx_s.mpr (Or.inl (hs m b h))
    · exact cmx_s.mpr (Or.inr ⟨j, hj, hs m j h1, cmx_sub hs h3⟩)
section ORDN
variable {bh : Nat → Nat → Bool} {u v : Nat}
theorem or_edge {x y : Nat} : f2 bh u v true x y = true ↔ bh x y = true ∨ (x = u ∧ y = v) := by
  unfold f2
  by_cases h1 : x = u
  · by_cases h2 : y = v
    · simp [h1, h2]
    · simp [h1, h2]
  · simp [h1]
theorem or_to (hu : u < 10) (hv : v < 10) : ∀ {k x b : Nat}, x < 10 → cmx (f2 bh u v true) k x b = true → cmR bh x b ∨ ((x = u ∨ cmR bh x u) ∧ (b = v ∨ cmR bh v b))
  | 0, x, b, hx, h => by
    rcases or_edge.mp h with h | ⟨h1, h2⟩
    · exact Or.inl ⟨0, h⟩
    · exact Or.inr ⟨Or.inl h1, Or.inl h2⟩
  | k + 1, x, b, hx, h => by
    rcases cmx_s.mp h with h | ⟨j, hj, h1, h3⟩
    · rcases or_edge.mp h with h | ⟨h1, h2⟩
      · exact Or.inl ⟨0, h⟩
      · exact Or.inr ⟨Or.inl h1, Or.inl h2⟩
    · have ih := or_to hu hv hj h3
      rcases or_edge.mp h1 with h1 | ⟨h1, h2⟩
      · rcases ih with ih | ⟨i1, i2⟩
        · exact Or.inl (cmR_tr hj ⟨0, h1⟩ ih)
        · refine Or.inr ⟨Or.inr ?_, i2⟩
          rcases i1 with i1 | i1
          · rw [← i1]; exact ⟨0, h1⟩
          · exact cmR_tr hj ⟨0, h1⟩ i1
      · subst h1; subst h2
        rcases ih with ih | ⟨i1, i2⟩
        · exact Or.inr ⟨Or.inl rfl, Or.inr ih⟩
        · exact Or.inr ⟨Or.inl rfl, i2⟩
theorem or_from (hu : u < 10) (hv : v < 10) {x b : Nat} (h : cmR bh x b ∨ ((x = u ∨ cmR bh x u) ∧ (b = v ∨ cmR bh v b))) : cmR (f2 bh u v true) x b := by
  have up : ∀ {a c : Nat}, cmR bh a c → cmR (f2 bh u v true) a c := fun ⟨k, q⟩ => ⟨k, cmx_sub (fun m b q => or_edge.mpr (Or.inl q)) q⟩
  have e : cmR (f2 bh u v true) u v := ⟨0, or_edge.mpr (Or.inr ⟨rfl, rfl⟩)⟩
  rcases h with h | ⟨h1, h2⟩
  · exact up h
  · have g1 : cmR (f2 bh u v true) x v := by
      rcases h1 with h1 | h1
      · rw [h1]; exact e
      · exact cmR_tr hu (up h1) e
    rcases h2 with h2 | h2
    · rw [h2]; exact g1
    · exact cmR_tr hv g1 (up h2)
theorem or_acy (hu : u < 10) (hv : v < 10) (hne : u ≠ v) (ha : ∀ m, m < 10 → ∀ k, cmx bh k m m = false) (hn : cmx bh 10 v u = false) : ∀ m, m < 10 → ∀ k, cmx (f2 bh u v true) k m m = false := by
  have ha2 := cmR_of ha
  have hn2 : ¬ cmR bh v u := fun q => by
    rw [(cmR_iff ha2 hv).mpr q] at hn
    cases hn
  intro m hm k
  cases hc : cmx (f2 bh u v true) k m m
  · rfl
  · exfalso
    rcases or_to hu hv hm hc with h | ⟨h1, h2⟩
    · exact ha2 m hm h
    · rcases h1 with h1 | h1 <;> rcases h2 with h2 | h2
      · exact hne (h1.symm.trans h2)
      · exact hn2 (h1 ▸ h2)
      · exact hn2 (h2 ▸ h1)
      · exact hn2 (cmR_tr hm h2 h1)
/-- what comes behind what, when one more order was told -/
theorem or_new (hu : u < 10) (hv : v < 10) (hne : u ≠ v) (ha : ∀ m, m < 10 → ∀ k, cmx bh k m m = false) (hn : cmx bh 10 v u = false) {x b : Nat} (hx : x < 10) : cmx (f2 bh u v true) 10 x b = (cmx bh 10 x b || ((decide (x = u) || cmx bh 10 x u) && (cmx bh 10 v b || decide (b = v)))) := by
  have ha1 := cmR_of ha
  have ha2 := cmR_of (or_acy hu hv hne ha hn)
  rw [Bool.eq_iff_iff, cmR_iff ha2 hx]
  simp only [Bool.or_eq_true, Bool.and_eq_true, decide_eq_true_eq]
  rw [cmR_iff ha1 hx, cmR_iff ha1 hx, cmR_iff ha1 hv]
  constructor
  · rintro ⟨k, h⟩
    rcases or_to hu hv hx h with h | ⟨h1, h2⟩
    · exact Or.inl h
    · exact Or.inr ⟨h1, h2.symm⟩
  · rintro (h | ⟨h1, h2⟩)
    · exact or_from hu hv (Or.inl h)
    · exact or_from hu hv (Or.inr ⟨h1, h2.symm⟩)
end ORDN
end
section
theorem isS_t {x : Int64} (h1 : 0 ≤ x) (h2 : x ≤ cLAST) : isSec x = true := by rw [isSec, decide_eq_true h1, decide_eq_true h2]; rfl
theorem isS_lt {x : Int64} (h : x < 0) : isSec x = false := by rw [isSec, decide_eq_false (Int64.not_le.mpr h)]; rfl
theorem isS_gt {x : Int64} (h : cLAST < x) : isSec x = false := by rw [isSec, decide_eq_false (Int64.not_le.mpr h), Bool.and_false]
theorem late_iff {σ : St} (h0 : 0 ≤ s_ck σ) (x : Int64) : (decide (x < s_ck σ) || decide (cLAST < x)) = !(isSec x && decide (s_ck σ ≤ x)) := by
  unfold isSec
  by_cases h1 : x < s_ck σ
  · rw [decide_eq_true h1, decide_eq_false (Int64.not_le.mpr h1), Bool.and_false]; rfl
  · have h2 := Int64.not_lt.mp h1
    rw [decide_eq_false h1, decide_eq_true h2, decide_eq_true (Int64.le_trans h0 h2)]
    by_cases h3 : cLAST < x
    · rw [decide_eq_true h3, decide_eq_false (Int64.not_le.mpr h3)]; rfl
    · rw [decide_eq_false h3, decide_eq_true (Int64.not_lt.mp h3)]; rfl
theorem nIle {a b : Nat} (h : a ≤ b) (hb : b < 2 ^ 31) : nI a ≤ nI b := nI_le h hb
theorem pe_full {σ : St} (h : s_np σ = 24) : a_person σ = -2 ∧ n_person σ = σ := by
  unfold a_person n_person
  rw [if_pos h, if_pos h]
  exact ⟨rfl, rfl⟩
theorem pe_ok {σ : St} (h : s_np σ ≠ 24) : a_person σ = nI (s_np σ) ∧ n_person σ = ((s_np σ + 1, s_nr σ, s_nt σ, s_ns σ, s_nw σ, s_ck σ), σ.2) := by
  unfold a_person n_person
  rw [if_neg h, if_neg h]
  exact ⟨rfl, rfl⟩
set_option maxHeartbeats 4000000 in
set_option maxRecDepth 100000 in
theorem k_X4_person (l : Launch) (Γ : FG) (w : FW) (σ : St) (hI : Inv σ) (hR : Rc σ w) : Met l yX4_person (ws_ yX4_person cX4_person 1 (some .int)) (rmD 9 5 1230) (va_Pc [.ref (w.1 0 0)] (fI Γ w)) (va_Qi (fun r w1 => r = a_person σ ∧ Rc (n_person σ) w1 ∧ fr w w1) (fI Γ) (fA Γ)) 5 1230 (fA Γ) := by
  refine fw_met (by decide) (Nat.le_of_ble_eq_true rfl) ?_
  intro p e s m below meth c ls C hP hS hr hlk hin hl
  have C : fC p s m [.ref (w.1 0 0)].toArray c cX4_person 1 RX4 Γ := C
  have hx := C.1.1
  have hb := C.1.2.1
  have hl : lv_has ls 1 [(0, .ref (w.1 0 0))] := hl
  obtain ⟨⟨hnp, hnr, hnt, hns, hnw, hck0, hck1⟩, hIr, hIt, hIb, hIn, hIs, hIg, hIw, hIa⟩ := id hI
  refine lv_aload_n hx hb dX4_person_0 rfl (lv_at hl 0 rfl) ?_
  refine gf_X4_44 C hP hR.1 rfl rfl dX4_person_1 ?_
  refine lv_bipush (v := nI 24) hx hb dX4_person_4 (by decide) ?_
  refine fw_ltN (tgt := 12) hx hb (by omega) (by omega) dX4_person_6 (by decide) (fun c_6 => ?_) (fun c_6 => ?_)
  · refine lv_aload_n hx hb dX4_person_12 rfl (lv_at hl 0 rfl) ?_
    refine lv_dup hx hb dX4_person_13 rfl ?_
    refine gf_X4_44 C hP hR.1 rfl rfl dX4_person_14 ?_
    refine lv_dup_x1 hx hb dX4_person_17 rfl rfl ?_
    refine lv_iconst (v := nI 1) hx hb dX4_person_18 (by decide) ?_
    refine fw_addN hx hb dX4_person_19 ?_
    refine pf_X4_44 C hP hS rfl rfl hR.1 rfl (Nat.le_of_ble_eq_true rfl) dX4_person_20 (fun H locs hP hS => ?_)
    have hP : fP Γ (fset w 0 0 (oO 4 [.int (nI (s_np σ + 1)), .ref (w.1 1 0), .int (nI (s_nr σ)), .ref (w.1 2 0), .int (nI (s_nt σ)), .ref (w.1 3 0), .int (nI (s_ns σ)), .ref (w.1 4 0), .int (nI (s_nw σ)), .ref (w.1 5 0), .ref (w.1 6 0), .long (s_ck σ), .ref (w.1 7 0)])) H := hP
    exact fw_reti C hr hlk rfl hP hS (⟨(pe_ok (by omega)).1.symm, by rw [(pe_ok (by omega)).2]; exact Rc_sr hR (s_np σ + 1) (s_ck σ), fr_set (by decide)⟩) (Nat.le_of_ble_eq_true rfl) (Nat.le_of_ble_eq_true rfl) dX4_person_23
  · refine lv_bipush (v := (-2)) hx hb dX4_person_9 (by decide) ?_
    exact fw_reti C hr hlk rfl hP hS (⟨(pe_full (by omega)).1.symm, by rw [(pe_full (by omega)).2]; exact hR, fr_rf w⟩) (Nat.le_of_ble_eq_true rfl) (Nat.le_of_ble_eq_true rfl) dX4_person_11
theorem ro_f {σ : St} {p r : Int32} {f t : Int64} (h : fIn p (s_np σ) = false ∨ fIn r 10 = false ∨ f < 0 ∨ cLAST < t ∨ t < f ∨ s_nr σ = 100) : a_role σ p r f t = false := by
  unfold a_role
  rcases h with h | h | h | h | h | h
  · rw [h]; rfl
  · rw [h, Bool.and_false]; rfl
  · rw [isS_lt h, Bool.and_false]; rfl
  · rw [isS_gt h, Bool.and_false]; rfl
  · rw [decide_eq_false (Int64.not_le.mpr h), Bool.and_false]; rfl
  · rw [show decide (s_nr σ ≠ 100) = false from decide_eq_false (fun q => q h), Bool.and_false]
theorem ro_t {σ : St} {p r : Int32} {f t : Int64} (h1 : fIn p (s_np σ) = true) (h2 : fIn r 10 = true) (h3 : ¬ f < 0) (h4 : ¬ cLAST < t) (h5 : ¬ t < f) (h6 : s_nr σ ≠ 100) : a_role σ p r f t = true := by
  have a := Int64.not_lt.mp h3
  have b := Int64.not_lt.mp h4
  have c := Int64.not_lt.mp h5
  unfold a_role
  rw [h1, h2, isS_t a (Int64.le_trans c b), isS_t (Int64.le_trans a c) b, decide_eq_true c, decide_eq_true h6]
  rfl
theorem ro_n {σ : St} {p r : Int32} {f t : Int64} (h : a_role σ p r f t = false) : n_role σ p r f t = σ := by
  unfold n_role
  rw [h]
  rfl
theorem ro_m {σ : St} {p r : Nat} {f t : Int64} (h : a_role σ (nI p) (nI r) f t = true) (hp : p < 2 ^ 31) (hr : r < 2 ^ 31) : n_role σ (nI p) (nI r) f t = ((s_np σ, s_nr σ + 1, s_nt σ, s_ns σ, s_nw σ, s_ck σ), (va_up (s_rp σ) (s_nr σ) p, va_up (s_rk σ) (s_nr σ) r, va_up (s_rf σ) (s_nr σ) f, va_up (s_rt σ) (s_nr σ) t), σ.2.2) := by
  unfold n_role
  rw [h, n_of_nI hp, n_of_nI hr]
  rfl
set_option maxHeartbeats 4000000 in
set_option maxRecDepth 100000 in
theorem k_X4_role (l : Launch) (Γ : FG) (w : FW) (σ : St) (px rx : Int32) (fx yx : Int64) (hI : Inv σ) (hR : Rc σ w) : Met l yX4_role (ws_ yX4_role cX4_role 7 (some .boolean)) (rmD 9 5 1230) (va_Pc [.ref (w.1 0 0), .int px, .int rx, .long fx, .long yx] (fI Γ w)) (va_Qi (fun r w1 => r = b2i (a_role σ px rx fx yx) ∧ Rc (n_role σ px rx fx yx) w1 ∧ fr w w1) (fI Γ) (fA Γ)) 5 1230 (fA Γ) := by
  refine fw_met (by decide) (Nat.le_of_ble_eq_true rfl) ?_
  intro p e s m below meth c ls C hP hS hr hlk hin hl
  have C : fC p s m [.ref (w.1 0 0), .int px, .int rx, .long fx, .long yx].toArray c cX4_role 7 RX4 Γ := C
  have hx := C.1.1
  have hb := C.1.2.1
  have hl : lv_has ls 7 [(0, .ref (w.1 0 0)), (1, .int px), (2, .int rx), (3, .long fx), (5, .long yx)] := hl
  obtain ⟨⟨hnp, hnr, hnt, hns, hnw, hck0, hck1⟩, hIr, hIt, hIb, hIn, hIs, hIg, hIw, hIa⟩ := id hI
  obtain ⟨fR, hR1, hR2, hR3⟩ := id hR.2.1
  refine lv_aload_n hx hb dX4_role_0 rfl (lv_at hl 0 rfl) ?_
  refine lv_iload_n hx hb dX4_role_1 rfl (lv_at hl 1 rfl) ?_
  refine fw_ci0 (w := w) hS (fw_rV (rest := []) (As := [.int px]) C hP hS wV_X4_48 (k_X4_isPerson l Γ w σ px hnp hR.1) hR.1 rfl rfl (fRm_mk rfl rfl (Nat.le_of_ble_eq_true rfl) (Nat.le_of_ble_eq_true rfl) (Nat.le_of_ble_eq_true rfl) (Nat.le_of_ble_eq_true rfl) (Nat.le_of_ble_eq_true rfl)) rfl hl.1 rfl dX4_role_2) (fun H locs hP hS => ?_)
  refine fw_ieqB (tgt := 15) hx hb dX4_role_5 (by decide) (fun c_5 => ?_) (fun c_5 => ?_)
  · refine lv_iconst (v := nI 0) hx hb dX4_role_15 (by decide) ?_
    exact fw_reti C hr hlk rfl hP hS (⟨b2i_f (ro_f (Or.inl c_5)), by rw [ro_n (ro_f (Or.inl c_5))]; exact hR, fr_rf w⟩) (Nat.le_of_ble_eq_true rfl) (Nat.le_of_ble_eq_true rfl) dX4_role_16
  · obtain ⟨pp, hpp, rfl⟩ := fIn_t c_5 (by omega)
    refine lv_iload_n hx hb dX4_role_8 rfl (lv_at hl 2 rfl) ?_
    refine fw_ci0 (w := w) hS (fw_rS (rest := []) (As := [.int rx]) C hP hS wS_X4_52 (k_X4_isMeaning l Γ w rx) (fRm_mk rfl rfl (Nat.le_of_ble_eq_true rfl) (Nat.le_of_ble_eq_true rfl) (Nat.le_of_ble_eq_true rfl) (Nat.le_of_ble_eq_true rfl) (Nat.le_of_ble_eq_true rfl)) rfl hl.1 rfl dX4_role_9) (fun H locs hP hS => ?_)
    refine fw_ineB (tgt := 17) hx hb dX4_role_12 (by decide) (fun c_12 => ?_) (fun c_12 => ?_)
    · obtain ⟨rr, hrr, rfl⟩ := fIn_t c_12 (by omega)
      refine lv_lload_n hx hb dX4_role_17 rfl (lv_at hl 3 rfl) ?_
      refine lv_lconst (v := 0) hx hb dX4_role_18 (by decide) ?_
      refine W.lcmp hx hb dX4_role_19 ?_
      refine fw_llt (tgt := 48) hx hb dX4_role_20 (by decide) (fun c_20 => ?_) (fun c_20 => ?_)
      · refine lv_iconst (v := nI 0) hx hb dX4_role_48 (by decide) ?_
        exact fw_reti C hr hlk rfl hP hS (⟨b2i_f (ro_f (Or.inr (Or.inr (Or.inl c_20)))), by rw [ro_n (ro_f (Or.inr (Or.inr (Or.inl c_20))))]; exact hR, fr_rf w⟩) (Nat.le_of_ble_eq_true rfl) (Nat.le_of_ble_eq_true rfl) dX4_role_49
      · refine lv_lload hx hb dX4_role_23 (lv_at hl 4 rfl) ?_
        refine lv_ldc2 hx hb C.1.2.2.2.1 (C.1.2.2.2.2 _ qk_X4_55) dX4_role_25 ?_
        refine W.lcmp hx hb dX4_role_28 ?_
        refine fw_lgt (tgt := 48) hx hb dX4_role_29 (by decide) (fun c_29 => ?_) (fun c_29 => ?_)
        · refine lv_iconst (v := nI 0) hx hb dX4_role_48 (by decide) ?_
          exact fw_reti C hr hlk rfl hP hS (⟨b2i_f (ro_f (Or.inr (Or.inr (Or.inr (Or.inl c_29))))), by rw [ro_n (ro_f (Or.inr (Or.inr (Or.inr (Or.inl c_29)))))]; exact hR, fr_rf w⟩) (Nat.le_of_ble_eq_true rfl) (Nat.le_of_ble_eq_true rfl) dX4_role_49
        · refine lv_lload_n hx hb dX4_role_32 rfl (lv_at hl 3 rfl) ?_
          refine lv_lload hx hb dX4_role_33 (lv_at hl 4 rfl) ?_
          refine W.lcmp hx hb dX4_role_35 ?_
          refine fw_lgt (tgt := 48) hx hb dX4_role_36 (by decide) (fun c_36 => ?_) (fun c_36 => ?_)
          · refine lv_iconst (v := nI 0) hx hb dX4_role_48 (by decide) ?_
            exact fw_reti C hr hlk rfl hP hS (⟨b2i_f (ro_f (Or.inr (Or.inr (Or.inr (Or.inr (Or.inl c_36)))))), by rw [ro_n (ro_f (Or.inr (Or.inr (Or.inr (Or.inr (Or.inl c_36))))))]; exact hR, fr_rf w⟩) (Nat.le_of_ble_eq_true rfl) (Nat.le_of_ble_eq_true rfl) dX4_role_49
          · refine lv_aload_n hx hb dX4_role_39 rfl (lv_at hl 0 rfl) ?_
            refine gf_X4_57 C hP hR.1 rfl rfl dX4_role_40 ?_
            refine lv_bipush (v := nI 100) hx hb dX4_role_43 (by decide) ?_
            refine fw_ltN (tgt := 50) hx hb (by omega) (by omega) dX4_role_45 (by decide) (fun c_45 => ?_) (fun c_45 => ?_)
            · refine lv_aload_n hx hb dX4_role_50 rfl (lv_at hl 0 rfl) ?_
              refine gf_X4_11 C hP hR.1 rfl rfl dX4_role_51 ?_
              refine lv_aload_n hx hb dX4_role_54 rfl (lv_at hl 0 rfl) ?_
              refine gf_X4_57 C hP hR.1 rfl rfl dX4_role_55 ?_
              refine fw_new (ci := 0) (fs := [.int 0, .int 0, .long 0, .long 0]) C hP hS 10 (s_nr σ) qy_X0 tyX0 tyX0_ok rfl ⟨ql_X4_9, qx_X0, qn_X0⟩ (by intro j hj; match j, hj with | 0, _ => rfl | 1, _ => rfl | 2, _ => rfl | 3, _ => rfl | k + 4, hj => exact absurd hj (by omega)) (hR3 _ (Nat.le_refl _)) (Nat.le_of_ble_eq_true rfl) (Nat.le_of_ble_eq_true rfl) dX4_role_58 (fun q58 H hP hS => ?_)
              have hP : fP Γ (fnew w 10 (s_nr σ) (oO 0 [.int 0, .int 0, .long 0, .long 0]) q58) H := hP
              refine lv_dup hx hb dX4_role_61 rfl ?_
              refine lv_iload_n hx hb dX4_role_62 rfl (lv_at hl 1 rfl) ?_
              refine lv_iload_n hx hb dX4_role_63 rfl (lv_at hl 2 rfl) ?_
              refine lv_lload_n hx hb dX4_role_64 rfl (lv_at hl 3 rfl) ?_
              refine lv_lload hx hb dX4_role_65 (lv_at hl 4 rfl) ?_
              have hm := k_X0_init l Γ (fnew w 10 (s_nr σ) (oO 0 [.int 0, .int 0, .long 0, .long 0]) q58) (s_nr σ) pp rr fx yx fnew_at
              rw [show (fnew w 10 (s_nr σ) (oO 0 [.int 0, .int 0, .long 0, .long 0]) q58).1 10 (s_nr σ) = q58 from fnew_aat] at hm
              refine fw_cv hS (fw_rI (rest := [.ref q58, .int (nI (s_nr σ)), .ref (w.1 1 0)]) (As := [.int (nI pp), .int (nI rr), .long fx, .long yx]) C hP hS wI_X4_60 (hm) (fRm_mk rfl rfl (Nat.le_of_ble_eq_true rfl) (Nat.le_of_ble_eq_true rfl) (Nat.le_of_ble_eq_true rfl) (Nat.le_of_ble_eq_true rfl) (Nat.le_of_ble_eq_true rfl)) rfl hl.1 rfl dX4_role_67) (fun w1 H locs hp hP hS => ?_)
              have hp : w1 = _ := hp
              subst hp
              rw [fset_n] at hP
              refine fw_aast (ci := 0) C hP hS (by decide) rfl rfl ((fnew_ne (by decide)).trans hR1) ((fnew_ane (by decide)).trans rfl) fnew_at fnew_aat (s_nr σ) rfl (by omega) (by decide) dX4_role_70 (fun H locs hP hS => ?_)
              have hP : fP Γ (fset (fnew w 10 (s_nr σ) (oO 0 [.int (nI pp), .int (nI rr), .long fx, .long yx]) q58) 1 0 (aR 4 100 (va_up fR (s_nr σ) (some q58)))) H := hP
              refine lv_aload_n hx hb dX4_role_71 rfl (lv_at hl 0 rfl) ?_
              refine lv_dup hx hb dX4_role_72 rfl ?_
              refine gf_X4_57 C hP ((fset_ne (by decide)).trans ((fnew_ne (by decide)).trans hR.1)) (fset_ad.trans ((fnew_ane (by decide)).trans rfl)) rfl dX4_role_73 ?_
              refine lv_iconst (v := nI 1) hx hb dX4_role_76 (by decide) ?_
              refine fw_addN hx hb dX4_role_77 ?_
              refine pf_X4_57 C hP hS rfl rfl ((fset_ne (by decide)).trans ((fnew_ne (by decide)).trans hR.1)) (fset_ad.trans ((fnew_ane (by decide)).trans rfl)) (Nat.le_of_ble_eq_true rfl) dX4_role_78 (fun H locs hP hS => ?_)
              have hP : fP Γ (fset (fset (fnew w 10 (s_nr σ) (oO 0 [.int (nI pp), .int (nI rr), .long fx, .long yx]) q58) 1 0 (aR 4 100 (va_up fR (s_nr σ) (some q58)))) 0 0 (oO 4 [.int (nI (s_np σ)), .ref (w.1 1 0), .int (nI (s_nr σ + 1)), .ref (w.1 2 0), .int (nI (s_nt σ)), .ref (w.1 3 0), .int (nI (s_ns σ)), .ref (w.1 4 0), .int (nI (s_nw σ)), .ref (w.1 5 0), .ref (w.1 6 0), .long (s_ck σ), .ref (w.1 7 0)])) H := hP
              refine lv_iconst (v := nI 1) hx hb dX4_role_81 (by decide) ?_
              have ht : a_role σ (nI pp) (nI rr) fx yx = true := ro_t c_5 c_12 c_20 c_29 c_36 (by omega)
              exact fw_reti C hr hlk rfl hP hS (⟨b2i_t ht, by rw [ro_m ht (by omega) (by omega)]; exact Rc_role hR hR1 rfl, fr_tr (fr_new (by decide) (hR3 _ (Nat.le_refl _))) (fr_tr (fr_set (by decide)) (fr_set (by decide)))⟩) (Nat.le_of_ble_eq_true rfl) (Nat.le_of_ble_eq_true rfl) dX4_role_82
            · refine lv_iconst (v := nI 0) hx hb dX4_role_48 (by decide) ?_
              exact fw_reti C hr hlk rfl hP hS (⟨b2i_f (ro_f (Or.inr (Or.inr (Or.inr (Or.inr (Or.inr (by omega))))))), by rw [ro_n (ro_f (Or.inr (Or.inr (Or.inr (Or.inr (Or.inr (by omega)))))))]; exact hR, fr_rf w⟩) (Nat.le_of_ble_eq_true rfl) (Nat.le_of_ble_eq_true rfl) dX4_role_49
    · refine lv_iconst (v := nI 0) hx hb dX4_role_15 (by decide) ?_
      exact fw_reti C hr hlk rfl hP hS (⟨b2i_f (ro_f (Or.inr (Or.inl c_12))), by rw [ro_n (ro_f (Or.inr (Or.inl c_12)))]; exact hR, fr_rf w⟩) (Nat.le_of_ble_eq_true rfl) (Nat.le_of_ble_eq_true rfl) dX4_role_16
theorem ho_f {σ : St} {x : Int32} (h : fIn x (s_ns σ) = false) : a_holds σ x = false := by rw [a_holds, h]; rfl
theorem ho_m {σ : St} {i : Nat} (h : fIn (nI i) (s_ns σ) = true) (hi : i < 2 ^ 31) : a_holds σ (nI i) = s_sd σ i := by rw [a_holds, h, n_of_nI hi]; rfl
set_option maxHeartbeats 4000000 in
set_option maxRecDepth 100000 in
theorem k_X4_holds (l : Launch) (Γ : FG) (w : FW) (σ : St) (ix : Int32) (hI : Inv σ) (hR : Rc σ w) : Met l yX4_holds (ws_ yX4_holds cX4_holds 3 (some .boolean)) (rmD 9 5 1230) (va_Pc [.ref (w.1 0 0), .int ix] (fI Γ w)) (va_Qi (fun r w1 => r = b2i (a_holds σ ix) ∧ Rc σ w1 ∧ fr w w1) (fI Γ) (fA Γ)) 5 1230 (fA Γ) := by
  refine fw_met (by decide) (Nat.le_of_ble_eq_true rfl) ?_
  intro p e s m below meth c ls C hP hS hr hlk hin hl
  have C : fC p s m [.ref (w.1 0 0), .int ix].toArray c cX4_holds 3 RX4 Γ := C
  have hx := C.1.1
  have hb := C.1.2.1
  have hl : lv_has ls 3 [(0, .ref (w.1 0 0)), (1, .int ix)] := hl
  obtain ⟨⟨hnp, hnr, hnt, hns, hnw, hck0, hck1⟩, hIr, hIt, hIb, hIn, hIs, hIg, hIw, hIa⟩ := id hI
  refine lv_aload_n hx hb dX4_holds_0 rfl (lv_at hl 0 rfl) ?_
  refine lv_iload_n hx hb dX4_holds_1 rfl (lv_at hl 1 rfl) ?_
  refine fw_cq0 (w := w) hS (fw_rV (rest := []) (As := [.int ix]) C hP hS wV_X4_134 (k_X4_signatureAt l Γ w σ ix hns hR.1 hR.2.2.2.1.1) hR.1 rfl rfl (fRm_mk rfl rfl (Nat.le_of_ble_eq_true rfl) (Nat.le_of_ble_eq_true rfl) (Nat.le_of_ble_eq_true rfl) (Nat.le_of_ble_eq_true rfl) (Nat.le_of_ble_eq_true rfl)) rfl hl.1 rfl dX4_holds_2) (fun H locs hP hS => ?_)
  cases c_2 : fIn ix (s_ns σ) with
  | false =>
    refine fw_Eq (y := .null) rfl ?_
    refine lv_astore_nN (lv' := [(2, .null), (0, .ref (w.1 0 0)), (1, .int ix)]) hx hb dX4_holds_5 rfl hl (by decide) rfl (fun ls hl => ?_)
    refine lv_aload_nN hx hb dX4_holds_6 rfl (lv_at hl 0 rfl) ?_
    refine lv_ifnullN (tgt := 22) hx hb dX4_holds_7 (by decide) ?_
    refine lv_iconst (v := nI 0) hx hb dX4_holds_22 (by decide) ?_
    exact fw_reti C hr hlk rfl hP hS (⟨b2i_f (ho_f c_2), hR, fr_rf w⟩) (Nat.le_of_ble_eq_true rfl) (Nat.le_of_ble_eq_true rfl) dX4_holds_23
  | true =>
    obtain ⟨ii, hii, rfl⟩ := fIn_t c_2 (by omega)
    refine fw_Eq (y := .ref (w.1 16 ii)) (by rw [n_of_nI (by omega)]; rfl) ?_
    have hS1 := (hR.2.2.2.1.2.1 ii hii).1
    refine lv_astore_n (lv' := [(2, .ref (w.1 16 ii)), (0, .ref (w.1 0 0)), (1, .int (nI ii))]) hx hb dX4_holds_5 rfl hl (by decide) rfl (fun ls hl => ?_)
    refine lv_aload_n hx hb dX4_holds_6 rfl (lv_at hl 0 rfl) ?_
    refine lv_ifnull hx hb dX4_holds_7 ?_
    refine lv_aload_n hx hb dX4_holds_10 rfl (lv_at hl 1 rfl) ?_
    refine lv_aload_n hx hb dX4_holds_11 rfl (lv_at hl 0 rfl) ?_
    refine fw_ci hS (fw_rV (rest := []) (As := [.ref (w.1 16 ii)]) C hP hS wV_X4_138 (k_X4_isStanding l Γ w σ ii hI hR hii) hR.1 rfl rfl (fRm_mk rfl rfl (Nat.le_of_ble_eq_true rfl) (Nat.le_of_ble_eq_true rfl) (Nat.le_of_ble_eq_true rfl) (Nat.le_of_ble_eq_true rfl) (Nat.le_of_ble_eq_true rfl)) rfl hl.1 rfl dX4_holds_12) (fun r1 w1 H locs hp hP hS => ?_)
    obtain ⟨ad1, u1⟩ := w1
    obtain ⟨rfl, hR1, hf1⟩ := hp
    have ha1 : ad1 = w.1 := hf1.1
    subst ha1
    refine fw_ieqB (tgt := 22) hx hb dX4_holds_15 (by decide) (fun c_15 => ?_) (fun c_15 => ?_)
    · refine lv_iconst (v := nI 0) hx hb dX4_holds_22 (by decide) ?_
      exact fw_reti C hr hlk rfl hP hS (⟨b2i_f (by rw [ho_m c_2 (by omega)]; exact c_15), hR1, frd_fr hf1⟩) (Nat.le_of_ble_eq_true rfl) (Nat.le_of_ble_eq_true rfl) dX4_holds_23
    · refine lv_iconst (v := nI 1) hx hb dX4_holds_18 (by decide) ?_
      refine lv_goto (tgt := 23) hx hb dX4_holds_19 (by decide) ?_
      exact fw_reti C hr hlk rfl hP hS (⟨b2i_t (by rw [ho_m c_2 (by omega)]; exact c_15), hR1, frd_fr hf1⟩) (Nat.le_of_ble_eq_true rfl) (Nat.le_of_ble_eq_true rfl) dX4_holds_23
end
section
theorem th_no {σ : St} {p : Int32} (h : fIn p (s_np σ) = false) : a_thing σ p = -1 ∧ n_thing σ p = σ := by
  unfold a_thing n_thing
  rw [h]
  exact ⟨rfl, rfl⟩
theorem th_full {σ : St} {p : Int32} (h : fIn p (s_np σ) = true) (h2 : s_nt σ = 16) : a_thing σ p = -2 ∧ n_thing σ p = σ := by
  unfold a_thing n_thing
  rw [h, if_pos h2, if_pos h2]
  exact ⟨rfl, rfl⟩
theorem th_ok {σ : St} {p : Nat} (h : fIn (nI p) (s_np σ) = true) (h2 : s_nt σ ≠ 16) (hp : p < 2 ^ 31) : a_thing σ (nI p) = nI (s_nt σ) ∧ n_thing σ (nI p) = ((s_np σ, s_nr σ, s_nt σ + 1, s_ns σ, s_nw σ, s_ck σ), σ.2.1, (va_up (s_mk σ) (s_nt σ) p, σ.2.2.1.2), σ.2.2.2) := by
  unfold a_thing n_thing
  rw [h, if_neg h2, if_neg h2, n_of_nI hp]
  exact ⟨rfl, rfl⟩
theorem Rc_thing {σ : St} {w w1 : FW} {a q q1 q2 q3 q4 : Nat} {f : Nat → Option Nat} (hR : Rc σ w) (hI : Inv σ) (hf : w.2 2 0 = some (aR 6 16 f)) (hfr : ∀ k i, ¬ (i = s_nt σ ∧ 11 ≤ k ∧ k ≤ 15) → w1.2 k i = w.2 k i ∧ w1.1 k i = w.1 k i) (a11 : w1.1 11 (s_nt σ) = q) (a12 : w1.1 12 (s_nt σ) = q1) (a13 : w1.1 13 (s_nt σ) = q2) (a14 : w1.1 14 (s_nt σ) = q3) (a15 : w1.1 15 (s_nt σ) = q4)
    (e12 : w1.2 12 (s_nt σ) = some (aI 0 1000 (fun _ => 0))) (e13 : w1.2 13 (s_nt σ) = some (aI 1 8 (fun _ => 0))) (e14 : w1.2 14 (s_nt σ) = some (aI 0 200 (fun _ => 0))) (e15 : w1.2 15 (s_nt σ) = some (aI 1 10 (fun _ => 0))) (e11 : w1.2 11 (s_nt σ) = some (oO 3 [.int (nI a), .ref q1, .int 0, .ref q2, .int (b2i true), .ref q3, .int 0, .ref q4, .int 0]))
    {σ1 : St} (e : σ1 = ((s_np σ, s_nr σ, s_nt σ + 1, s_ns σ, s_nw σ, s_ck σ), σ.2.1, (va_up (s_mk σ) (s_nt σ) a, σ.2.2.1.2), σ.2.2.2)) : Rc σ1 (fset (fset w1 2 0 (aR 6 16 (va_up f (s_nt σ) (some q)))) 0 0 (oSR σ1 w)) ∧ fr w (fset (fset w1 2 0 (aR 6 16 (va_up f (s_nt σ) (some q)))) 0 0 (oSR σ1 w)) := by
  have hIt := hI.2.2.1 (s_nt σ)
  have hz := hIt.2.2.2.2 (Nat.le_refl _)
  have hIs := hI.2.2.2.2.2.1
  obtain ⟨r0, r1, ⟨⟨f2v, rT1, rT2⟩, rT3, rT4⟩, r3, r4, r5, r6⟩ := hR
  have ef : f2v = f := by
    have := rT1.symm.trans hf
    simpa [aR] using this
  subst ef
  generalize hW : fset (fset w1 2 0 (aR 6 16 (va_up f2v (s_nt σ) (some q)))) 0 0 (oSR σ1 w) = W
  have hWa : W.1 = w1.1 := by rw [← hW]; rfl
  have hWp : ∀ k i, k ≠ 0 → k ≠ 2 → W.2 k i = w1.2 k i := fun k i h0 h2 => by rw [← hW]; exact (fset_ne h0).trans (fset_ne h2)
  have s : ∀ k, k ≠ 0 → k ≠ 2 → (k < 11 ∨ 15 < k) → sk k w W := fun k h0 h2 h3 i => ⟨(hWp k i h0 h2).trans (hfr k i (by omega)).1, by rw [hWa]; exact (hfr k i (by omega)).2⟩
  have hA : ∀ k, k < 11 → W.1 k 0 = w.1 k 0 := fun k hk => by rw [hWa]; exact (hfr k 0 (by omega)).2
  refine ⟨⟨?_, ?_, ⟨⟨va_up f2v (s_nt σ) (some q), ?_, fun t ht => ?_⟩, fun t ht => ?_, fun t ht => ?_⟩, ?_, ?_, ?_, RcH_c r6 (s 7 (by decide) (by decide) (by decide)) (s 8 (by decide) (by decide) (by decide)) (s 9 (by decide) (by decide) (by decide))⟩, ⟨fun k i h => ?_, fun k i h => ?_⟩⟩
  · show W.2 0 0 = some (oO 4 [_, .ref (W.1 1 0), _, .ref (W.1 2 0), _, .ref (W.1 3 0), _, .ref (W.1 4 0), _, .ref (W.1 5 0), .ref (W.1 6 0), _, .ref (W.1 7 0)])
    rw [hA 1 (by omega), hA 2 (by omega), hA 3 (by omega), hA 4 (by omega), hA 5 (by omega), hA 6 (by omega), hA 7 (by omega), ← hW]
    exact fset_at
  · subst e; exact RcR_c (σ := σ) r1 (s 1 (by decide) (by decide) (by decide)) (s 10 (by decide) (by decide) (by decide))
  · rw [← hW]; exact (fset_ne (by decide)).trans fset_at
  · have ht : t < s_nt σ + 1 := by rw [e] at ht; exact ht
    by_cases h9 : t = s_nt σ
    · subst h9
      rw [va_up_self, hWa, a11]
    · rw [va_up_ne _ _ h9, rT2 t (by omega), hWa, (hfr 11 t (fun z => h9 z.1)).2]
  · have ht : t < s_nt σ + 1 := by rw [e] at ht; exact ht
    by_cases h9 : t = s_nt σ
    · subst h9
      refine ⟨fun _ => 0, fun _ => 0, fun _ => 0, fun _ => 0, true, ?_, (hWp 12 _ (by decide) (by decide)).trans e12, (hWp 13 _ (by decide) (by decide)).trans e13, (hWp 14 _ (by decide) (by decide)).trans e14, (hWp 15 _ (by decide) (by decide)).trans e15, fun j hj => ?_, fun j hj => ?_, fun j hj => ?_, fun z => by cases z⟩
      · rw [hWp 11 _ (by decide) (by decide), e11]
        subst e
        show _ = some (oO 3 [.int (nI (va_up (s_mk σ) (s_nt σ) a (s_nt σ))), .ref (W.1 12 (s_nt σ)), .int (nI (s_ln σ (s_nt σ))), .ref (W.1 13 (s_nt σ)), _, .ref (W.1 14 (s_nt σ)), .int (nI (s_cn σ (s_nt σ))), .ref (W.1 15 (s_nt σ)), .int (nI (s_dn σ (s_nt σ)))])
        rw [va_up_self, hz.1, hz.2.1, hz.2.2, hWa, a12, a13, a14, a15]
        rfl
      · subst e
        have hj : j < s_ln σ (s_nt σ) := hj
        rw [hz.1] at hj
        exact absurd hj (Nat.not_lt_zero _)
      · subst e
        have hj : j < s_cn σ (s_nt σ) := hj
        rw [hz.2.1] at hj
        exact absurd hj (Nat.not_lt_zero _)
      · subst e
        have hj : j < s_dn σ (s_nt σ) := hj
        rw [hz.2.2] at hj
        exact absurd hj (Nat.not_lt_zero _)
    · have hT := Th_c (w1 := W) (rT3 t (by omega)) (fun k b1 b2 => ⟨(hWp k t (by omega) (by omega)).trans (hfr k t (fun z => h9 z.1)).1, by rw [hWa]; exact (hfr k t (fun z => h9 z.1)).2⟩)
      subst e
      exact Th_eq hT (va_up_ne _ _ h9) rfl rfl rfl rfl rfl rfl
  · have ht : s_nt σ + 1 ≤ t := by rw [e] at ht; exact ht
    obtain ⟨b1, b2, b3, b4, b5⟩ := rT4 t (by omega)
    exact ⟨(hWp 11 t (by decide) (by decide)).trans ((hfr 11 t (by omega)).1.trans b1), (hWp 12 t (by decide) (by decide)).trans ((hfr 12 t (by omega)).1.trans b2), (hWp 13 t (by decide) (by decide)).trans ((hfr 13 t (by omega)).1.trans b3), (hWp 14 t (by decide) (by decide)).trans ((hfr 14 t (by omega)).1.trans b4), (hWp 15 t (by decide) (by decide)).trans ((hfr 15 t (by omega)).1.trans b5)⟩
  · subst e; exact RcS_c (σ := σ) r3 (s 3 (by decide) (by decide) (by decide)) (s 16 (by decide) (by decide) (by decide)) (s 17 (by decide) (by decide) (by decide)) (fun i hi => by rw [hWa]; exact (hfr 11 _ (by have := (hIs i hi).1; omega)).2)
  · subst e; exact RcW_c (σ := σ) r4 (s 4 (by decide) (by decide) (by decide))
  · subst e; exact RcO_c (σ := σ) r5 (s 5 (by decide) (by decide) (by decide)) (s 6 (by decide) (by decide) (by decide))
  · obtain ⟨b1, b2, b3, b4, b5⟩ := rT4 (s_nt σ) (Nat.le_refl _)
    have hne : ¬ (i = s_nt σ ∧ 11 ≤ k ∧ k ≤ 15) := by
      rintro ⟨rfl, g1, g2⟩
      rcases (show k = 11 ∨ k = 12 ∨ k = 13 ∨ k = 14 ∨ k = 15 by omega) with rfl | rfl | rfl | rfl | rfl
      · exact h b1
      · exact h b2
      · exact h b3
      · exact h b4
      · exact h b5
    refine ⟨?_, by rw [hWa]; exact (hfr k i hne).2⟩
    rw [← hW]
    exact fset_lv (fset_lv (by rw [(hfr k i hne).1]; exact h))
  · exact (hWp k i (by omega) (by omega)).trans (hfr k i (by omega)).1
set_option maxHeartbeats 4000000 in
set_option maxRecDepth 100000 in
theorem k_X4_thing (l : Launch) (Γ : FG) (w : FW) (σ : St) (px : Int32) (hI : Inv σ) (hR : Rc σ w) : Met l yX4_thing (ws_ yX4_thing cX4_thing 2 (some .int)) (rmD 9 5 1230) (va_Pc [.ref (w.1 0 0), .int px] (fI Γ w)) (va_Qi (fun r w1 => r = a_thing σ px ∧ Rc (n_thing σ px) w1 ∧ fr w w1) (fI Γ) (fA Γ)) 5 1230 (fA Γ) := by
  refine fw_met (by decide) (Nat.le_of_ble_eq_true rfl) ?_
  intro p e s m below meth c ls C hP hS hr hlk hin hl
  have C : fC p s m [.ref (w.1 0 0), .int px].toArray c cX4_thing 2 RX4 Γ := C
  have hx := C.1.1
  have hb := C.1.2.1
  have hl : lv_has ls 2 [(0, .ref (w.1 0 0)), (1, .int px)] := hl
  obtain ⟨⟨hnp, hnr, hnt, hns, hnw, hck0, hck1⟩, hIr, hIt, hIb, hIn, hIs, hIg, hIw, hIa⟩ := id hI
  obtain ⟨fT, hT1, hT2⟩ := id hR.2.2.1.1
  obtain ⟨hT11, hT12, hT13, hT14, hT15⟩ := id (hR.2.2.1.2.2 (s_nt σ) (Nat.le_refl _))
  refine lv_aload_n hx hb dX4_thing_0 rfl (lv_at hl 0 rfl) ?_
  refine lv_iload_n hx hb dX4_thing_1 rfl (lv_at hl 1 rfl) ?_
  refine fw_ci0 (w := w) hS (fw_rV (rest := []) (As := [.int px]) C hP hS wV_X4_48 (k_X4_isPerson l Γ w σ px hnp hR.1) hR.1 rfl rfl (fRm_mk rfl rfl (Nat.le_of_ble_eq_true rfl) (Nat.le_of_ble_eq_true rfl) (Nat.le_of_ble_eq_true rfl) (Nat.le_of_ble_eq_true rfl) (Nat.le_of_ble_eq_true rfl)) rfl hl.1 rfl dX4_thing_2) (fun H locs hP hS => ?_)
  refine fw_ineB (tgt := 10) hx hb dX4_thing_5 (by decide) (fun c_5 => ?_) (fun c_5 => ?_)
  · obtain ⟨pp, hpp, rfl⟩ := fIn_t c_5 (by omega)
    refine lv_aload_n hx hb dX4_thing_10 rfl (lv_at hl 0 rfl) ?_
    refine gf_X4_63 C hP hR.1 rfl rfl dX4_thing_11 ?_
    refine lv_bipush (v := nI 16) hx hb dX4_thing_14 (by decide) ?_
    refine fw_ltN (tgt := 22) hx hb (by omega) (by omega) dX4_thing_16 (by decide) (fun c_16 => ?_) (fun c_16 => ?_)
    · refine lv_aload_n hx hb dX4_thing_22 rfl (lv_at hl 0 rfl) ?_
      refine gf_X4_17 C hP hR.1 rfl rfl dX4_thing_23 ?_
      refine lv_aload_n hx hb dX4_thing_26 rfl (lv_at hl 0 rfl) ?_
      refine gf_X4_63 C hP hR.1 rfl rfl dX4_thing_27 ?_
      refine fw_new (ci := 3) (fs := [.int 0, .null, .int 0, .null, .int (b2i false), .null, .int 0, .null, .int 0]) C hP hS 11 (s_nt σ) qy_X3 tyX3 tyX3_ok rfl ⟨ql_X4_15, qx_X3, qn_X3⟩ (by intro j hj; match j, hj with | 0, _ => rfl | 1, _ => rfl | 2, _ => rfl | 3, _ => rfl | 4, _ => rfl | 5, _ => rfl | 6, _ => rfl | 7, _ => rfl | 8, _ => rfl | k + 9, hj => exact absurd hj (by omega)) hT11 (Nat.le_of_ble_eq_true rfl) (Nat.le_of_ble_eq_true rfl) dX4_thing_30 (fun q30 H hP hS => ?_)
      have hP : fP Γ (fnew w 11 (s_nt σ) (oO 3 [.int 0, .null, .int 0, .null, .int (b2i false), .null, .int 0, .null, .int 0]) q30) H := hP
      refine lv_dup hx hb dX4_thing_33 rfl ?_
      refine lv_iload_n hx hb dX4_thing_34 rfl (lv_at hl 1 rfl) ?_
      have hm := k_X3_init l Γ (fnew w 11 (s_nt σ) (oO 3 [.int 0, .null, .int 0, .null, .int (b2i false), .null, .int 0, .null, .int 0]) q30) (s_nt σ) pp fnew_at ((fnew_ne (by decide)).trans hT12) ((fnew_ne (by decide)).trans hT13) ((fnew_ne (by decide)).trans hT14) ((fnew_ne (by decide)).trans hT15)
      rw [show (fnew w 11 (s_nt σ) (oO 3 [.int 0, .null, .int 0, .null, .int (b2i false), .null, .int 0, .null, .int 0]) q30).1 11 (s_nt σ) = q30 from fnew_aat] at hm
      refine fw_cv hS (fw_rI (rest := [.ref q30, .int (nI (s_nt σ)), .ref (w.1 2 0)]) (As := [.int (nI pp)]) C hP hS wI_X4_66 (hm) (fRm_mk rfl rfl (Nat.le_of_ble_eq_true rfl) (Nat.le_of_ble_eq_true rfl) (Nat.le_of_ble_eq_true rfl) (Nat.le_of_ble_eq_true rfl) (Nat.le_of_ble_eq_true rfl)) rfl hl.1 rfl dX4_thing_35) (fun w1 H locs hp hP hS => ?_)
      obtain ⟨q1, q2, q3, q4, hfr0, b11, b12, b13, b14, b15, d12, d13, d14, d15, d11⟩ := hp
      have hfr : ∀ k i, ¬ (i = s_nt σ ∧ 11 ≤ k ∧ k ≤ 15) → w1.2 k i = w.2 k i ∧ w1.1 k i = w.1 k i := by
        intro k i h
        obtain ⟨g1, g2⟩ := hfr0 k i h
        have hne : ¬ (k = 11 ∧ i = s_nt σ) := fun z => h ⟨z.2, by omega, by omega⟩
        rw [g1, g2]
        show f2 w.2 11 (s_nt σ) _ k i = _ ∧ f2 w.1 11 (s_nt σ) _ k i = _
        unfold f2
        by_cases h1 : k = 11
        · have h2 : i ≠ s_nt σ := fun z => hne ⟨h1, z⟩
          simp [h1, h2]
        · simp [h1]
      refine fw_aast (ci := 3) C hP hS (by decide) rfl rfl ((hfr 2 0 (by omega)).1.trans hT1) (hfr 2 0 (by omega)).2 d11 b11 (s_nt σ) rfl (by omega) (by decide) dX4_thing_38 (fun H locs hP hS => ?_)
      have hP : fP Γ (fset w1 2 0 (aR 6 16 (va_up fT (s_nt σ) (some q30)))) H := hP
      refine lv_aload_n hx hb dX4_thing_39 rfl (lv_at hl 0 rfl) ?_
      refine lv_dup hx hb dX4_thing_40 rfl ?_
      refine gf_X4_63 C hP ((fset_ne (by decide)).trans ((hfr 0 0 (by omega)).1.trans hR.1)) (hfr 0 0 (by omega)).2 rfl dX4_thing_41 ?_
      refine lv_dup_x1 hx hb dX4_thing_44 rfl rfl ?_
      refine lv_iconst (v := nI 1) hx hb dX4_thing_45 (by decide) ?_
      refine fw_addN hx hb dX4_thing_46 ?_
      refine pf_X4_63 C hP hS rfl rfl ((fset_ne (by decide)).trans ((hfr 0 0 (by omega)).1.trans hR.1)) (hfr 0 0 (by omega)).2 (Nat.le_of_ble_eq_true rfl) dX4_thing_47 (fun H locs hP hS => ?_)
      have hP : fP Γ (fset (fset w1 2 0 (aR 6 16 (va_up fT (s_nt σ) (some q30)))) 0 0 (oO 4 [.int (nI (s_np σ)), .ref (w.1 1 0), .int (nI (s_nr σ)), .ref (w.1 2 0), .int (nI (s_nt σ + 1)), .ref (w.1 3 0), .int (nI (s_ns σ)), .ref (w.1 4 0), .int (nI (s_nw σ)), .ref (w.1 5 0), .ref (w.1 6 0), .long (s_ck σ), .ref (w.1 7 0)])) H := hP
      have hok := th_ok c_5 (by omega) (by omega)
      exact fw_reti C hr hlk rfl hP hS (⟨hok.1.symm, by rw [hok.2]; exact Rc_thing hR hI hT1 hfr b11 b12 b13 b14 b15 d12 d13 d14 d15 d11 rfl⟩) (Nat.le_of_ble_eq_true rfl) (Nat.le_of_ble_eq_true rfl) dX4_thing_50
    · refine lv_bipush (v := (-2)) hx hb dX4_thing_19 (by decide) ?_
      exact fw_reti C hr hlk rfl hP hS (⟨(th_full c_5 (by omega)).1.symm, by rw [(th_full c_5 (by omega)).2]; exact hR, fr_rf w⟩) (Nat.le_of_ble_eq_true rfl) (Nat.le_of_ble_eq_true rfl) dX4_thing_21
  · refine lv_iconst (v := (-1)) hx hb dX4_thing_8 (by decide) ?_
    exact fw_reti C hr hlk rfl hP hS (⟨(th_no c_5).1.symm, by rw [(th_no c_5).2]; exact hR, fr_rf w⟩) (Nat.le_of_ble_eq_true rfl) (Nat.le_of_ble_eq_true rfl) dX4_thing_9
theorem by_m : ∀ v, v < 256 → vp_nar .byte ((nI v).toInt8.toInt32) &&& 255 = nI v := by decide +kernel
theorem bo_f {σ : St} {t b : Int32} (h : fIn t (s_nt σ) = false ∨ fIn b 256 = false ∨ s_ln σ (n_of t) = 1000) : a_byteOf σ t b = false := by
  unfold a_byteOf
  rcases h with h | h | h
  · rw [h]; rfl
  · rw [h, Bool.and_false]; rfl
  · rw [show decide (s_ln σ (n_of t) ≠ 1000) = false from decide_eq_false (fun q => q h), Bool.and_false]
theorem bo_n {σ : St} {t b : Int32} (h : a_byteOf σ t b = false) : n_byteOf σ t b = σ := by rw [n_byteOf, h]; rfl
theorem bo_t {σ : St} {t : Nat} {b : Int32} (h1 : fIn (nI t) (s_nt σ) = true) (h2 : fIn b 256 = true) (ht : t < 2 ^ 31) (h3 : s_ln σ t ≠ 1000) : a_byteOf σ (nI t) b = true := by
  unfold a_byteOf
  rw [h1, h2, n_of_nI ht, show decide (s_ln σ t ≠ 1000) = true from decide_eq_true h3]
  rfl
theorem bo_m {σ : St} {t b : Nat} (h : a_byteOf σ (nI t) (nI b) = true) (ht : t < 2 ^ 31) (hb : b < 2 ^ 31) : n_byteOf σ (nI t) (nI b) = (σ.1, σ.2.1, (s_mk σ, va_up (s_ln σ) t (s_ln σ t + 1), f2 (s_by σ) t (s_ln σ t) b, σ.2.2.1.2.2.2), σ.2.2.2) := by
  rw [n_byteOf, h, n_of_nI ht, n_of_nI hb]
  rfl
theorem up_and {f : Nat → Int32} {g : Nat → Nat} {n v : Nat} {x : Int32} (h : ∀ j, j < n → f j &&& 255 = nI (g j)) (hx : x &&& 255 = nI v) : ∀ j, j < n + 1 → upd f n x j &&& 255 = nI (va_up g n v j) := by
  intro j hj
  unfold upd va_up
  by_cases e : j = n
  · rw [if_pos e, if_pos e]; exact hx
  · rw [if_neg e, if_neg e]; exact h j (by omega)
theorem f2_row {α : Type} {g : Nat → Nat → α} {k i : Nat} {v : α} : f2 g k i v k = va_up (g k) i v := by
  funext j
  unfold f2 va_up
  simp
theorem f2_oth {α : Type} {g : Nat → Nat → α} {k k1 i : Nat} {v : α} (h : k1 ≠ k) : f2 g k i v k1 = g k1 := by
  funext j
  unfold f2
  simp [h]
theorem Rc_byte {σ : St} {w : FW} {t v : Nat} {bf df cf nf : Nat → Int32} {zf : Bool} {x : Int32} (hR : Rc σ w) (ht : t < s_nt σ) (e13 : w.2 13 t = some (aI 1 8 df)) (e14 : w.2 14 t = some (aI 0 200 cf)) (e15 : w.2 15 t = some (aI 1 10 nf)) (hbf : ∀ j, j < s_ln σ t → bf j &&& 255 = nI (s_by σ t j)) (hcf : ∀ j, j < s_cn σ t → cf j &&& 255 = nI (s_cm σ t j)) (hnf : ∀ j, j < s_dn σ t → nf j = nI (s_nd σ t j)) (hx : x &&& 255 = nI v)
    {σ1 : St} (e : σ1 = (σ.1, σ.2.1, (s_mk σ, va_up (s_ln σ) t (s_ln σ t + 1), f2 (s_by σ) t (s_ln σ t) v, σ.2.2.1.2.2.2), σ.2.2.2)) : Rc σ1 (fset (fset w 12 t (aI 0 1000 (upd bf (s_ln σ t) x))) 11 t (oO 3 [.int (nI (s_mk σ t)), .ref (w.1 12 t), .int (nI (s_ln σ t + 1)), .ref (w.1 13 t), .int (b2i true), .ref (w.1 14 t), .int (nI (s_cn σ t)), .ref (w.1 15 t), .int (nI (s_dn σ t))])) := by
  refine Rc_thg hR ht (by rw [e]) (by rw [e]) (by rw [e]) rfl (fun k i h => ?_) ?_ (fun i hi => ?_)
  · rw [fset_off (by omega), fset_off (by omega)]
  · refine ⟨upd bf (s_ln σ t) x, df, cf, nf, true, ?_, (fset_ne (by decide)).trans fset_at, (fset_ne (by decide)).trans ((fset_ne (by decide)).trans e13), (fset_ne (by decide)).trans ((fset_ne (by decide)).trans e14), (fset_ne (by decide)).trans ((fset_ne (by decide)).trans e15), ?_, ?_, ?_, fun z => by cases z⟩
    · subst e
      refine fset_at.trans ?_
      show some (oO 3 [_, _, .int (nI (s_ln σ t + 1)), _, _, _, _, _, _]) = some (oO 3 [_, _, .int (nI (va_up (s_ln σ) t (s_ln σ t + 1) t)), _, _, _, _, _, _])
      rw [va_up_self]
      rfl
    · subst e
      intro j hj
      have hj : j < va_up (s_ln σ) t (s_ln σ t + 1) t := hj
      rw [va_up_self] at hj
      show _ = nI (f2 (s_by σ) t (s_ln σ t) v t j)
      rw [f2_row]
      exact up_and hbf hx j hj
    · subst e; exact hcf
    · subst e; exact hnf
  · subst e
    exact ⟨rfl, va_up_ne _ _ hi, f2_oth hi, rfl, rfl, rfl, rfl⟩
set_option maxHeartbeats 4000000 in
set_option maxRecDepth 100000 in
theorem k_X4_byteOf (l : Launch) (Γ : FG) (w : FW) (σ : St) (tx bx : Int32) (hI : Inv σ) (hR : Rc σ w) : Met l yX4_byteOf (ws_ yX4_byteOf cX4_byteOf 4 (some .boolean)) (rmD 9 5 1230) (va_Pc [.ref (w.1 0 0), .int tx, .int bx] (fI Γ w)) (va_Qi (fun r w1 => r = b2i (a_byteOf σ tx bx) ∧ Rc (n_byteOf σ tx bx) w1 ∧ fr w w1) (fI Γ) (fA Γ)) 5 1230 (fA Γ) := by
  refine fw_met (by decide) (Nat.le_of_ble_eq_true rfl) ?_
  intro p e s m below meth c ls C hP hS hr hlk hin hl
  have C : fC p s m [.ref (w.1 0 0), .int tx, .int bx].toArray c cX4_byteOf 4 RX4 Γ := C
  have hx := C.1.1
  have hb := C.1.2.1
  have hl : lv_has ls 4 [(0, .ref (w.1 0 0)), (1, .int tx), (2, .int bx)] := hl
  obtain ⟨⟨hnp, hnr, hnt, hns, hnw, hck0, hck1⟩, hIr, hIt, hIb, hIn, hIs, hIg, hIw, hIa⟩ := id hI
  refine lv_aload_n hx hb dX4_byteOf_0 rfl (lv_at hl 0 rfl) ?_
  refine lv_iload_n hx hb dX4_byteOf_1 rfl (lv_at hl 1 rfl) ?_
  refine fw_cq0 (w := w) hS (fw_rV (rest := []) (As := [.int tx]) C hP hS wV_X4_69 (k_X4_thingAt l Γ w σ tx hnt hR.1 hR.2.2.1.1) hR.1 rfl rfl (fRm_mk rfl rfl (Nat.le_of_ble_eq_true rfl) (Nat.le_of_ble_eq_true rfl) (Nat.le_of_ble_eq_true rfl) (Nat.le_of_ble_eq_true rfl) (Nat.le_of_ble_eq_true rfl)) rfl hl.1 rfl dX4_byteOf_2) (fun H locs hP hS => ?_)
  cases c_2 : fIn tx (s_nt σ) with
  | false =>
    refine fw_Eq (y := .null) rfl ?_
    refine lv_astore_nN (lv' := [(3, .null), (0, .ref (w.1 0 0)), (1, .int tx), (2, .int bx)]) hx hb dX4_byteOf_5 rfl hl (by decide) rfl (fun ls hl => ?_)
    refine lv_aload_nN hx hb dX4_byteOf_6 rfl (lv_at hl 0 rfl) ?_
    refine lv_ifnullN (tgt := 27) hx hb dX4_byteOf_7 (by decide) ?_
    refine lv_iconst (v := nI 0) hx hb dX4_byteOf_27 (by decide) ?_
    exact fw_reti C hr hlk rfl hP hS (⟨b2i_f (bo_f (Or.inl c_2)), by rw [bo_n (bo_f (Or.inl c_2))]; exact hR, fr_rf w⟩) (Nat.le_of_ble_eq_true rfl) (Nat.le_of_ble_eq_true rfl) dX4_byteOf_28
  | true =>
    obtain ⟨tt, htt, rfl⟩ := fIn_t c_2 (by omega)
    refine fw_Eq (y := .ref (w.1 11 tt)) (by rw [n_of_nI (by omega)]; rfl) ?_
    obtain ⟨hln, hcn, hdn, hmk, -⟩ := hIt tt
    obtain ⟨bf, df, cf, nf, zf, e11, e12, e13, e14, e15, hbf, hcf, hnf, hzf⟩ := id (hR.2.2.1.2.1 tt htt)
    refine lv_astore_n (lv' := [(3, .ref (w.1 11 tt)), (0, .ref (w.1 0 0)), (1, .int (nI tt)), (2, .int bx)]) hx hb dX4_byteOf_5 rfl hl (by decide) rfl (fun ls hl => ?_)
    refine lv_aload_n hx hb dX4_byteOf_6 rfl (lv_at hl 0 rfl) ?_
    refine lv_ifnull hx hb dX4_byteOf_7 ?_
    refine lv_iload_n hx hb dX4_byteOf_10 rfl (lv_at hl 3 rfl) ?_
    refine fw_ci0 (w := w) hS (fw_rS (rest := []) (As := [.int bx]) C hP hS wS_X4_73 (k_X4_isByte l Γ w bx) (fRm_mk rfl rfl (Nat.le_of_ble_eq_true rfl) (Nat.le_of_ble_eq_true rfl) (Nat.le_of_ble_eq_true rfl) (Nat.le_of_ble_eq_true rfl) (Nat.le_of_ble_eq_true rfl)) rfl hl.1 rfl dX4_byteOf_11) (fun H locs hP hS => ?_)
    refine fw_ieqB (tgt := 27) hx hb dX4_byteOf_14 (by decide) (fun c_14 => ?_) (fun c_14 => ?_)
    · refine lv_iconst (v := nI 0) hx hb dX4_byteOf_27 (by decide) ?_
      exact fw_reti C hr hlk rfl hP hS (⟨b2i_f (bo_f (Or.inr (Or.inl c_14))), by rw [bo_n (bo_f (Or.inr (Or.inl c_14)))]; exact hR, fr_rf w⟩) (Nat.le_of_ble_eq_true rfl) (Nat.le_of_ble_eq_true rfl) dX4_byteOf_28
    · obtain ⟨bb, hbb, rfl⟩ := fIn_t c_14 (by omega)
      refine lv_aload_n hx hb dX4_byteOf_17 rfl (lv_at hl 0 rfl) ?_
      refine gf_X4_76 C hP e11 rfl rfl dX4_byteOf_18 ?_
      refine lv_sipush (v := nI 1000) hx hb dX4_byteOf_21 (by decide) ?_
      refine fw_ltN (tgt := 29) hx hb (by omega) (by omega) dX4_byteOf_24 (by decide) (fun c_24 => ?_) (fun c_24 => ?_)
      · refine lv_aload_n hx hb dX4_byteOf_29 rfl (lv_at hl 0 rfl) ?_
        refine gf_X4_79 C hP e11 rfl rfl dX4_byteOf_30 ?_
        refine lv_aload_n hx hb dX4_byteOf_33 rfl (lv_at hl 0 rfl) ?_
        refine gf_X4_76 C hP e11 rfl rfl dX4_byteOf_34 ?_
        refine lv_iload_n hx hb dX4_byteOf_37 rfl (lv_at hl 3 rfl) ?_
        refine lv_i2b (v := (nI bb).toInt8.toInt32) hx hb dX4_byteOf_38 rfl ?_
        refine fw_bast C hP hS e12 rfl (s_ln σ tt) rfl (by omega) (by decide) dX4_byteOf_39 (fun H locs hP hS => ?_)
        have hP : fP Γ (fset w 12 tt (aI 0 1000 (upd bf (s_ln σ tt) (vp_nar .byte ((nI bb).toInt8.toInt32))))) H := hP
        refine lv_aload_n hx hb dX4_byteOf_40 rfl (lv_at hl 0 rfl) ?_
        refine lv_dup hx hb dX4_byteOf_41 rfl ?_
        refine gf_X4_76 C hP ((fset_ne (by decide)).trans e11) rfl rfl dX4_byteOf_42 ?_
        refine lv_iconst (v := nI 1) hx hb dX4_byteOf_45 (by decide) ?_
        refine fw_addN hx hb dX4_byteOf_46 ?_
        refine pf_X4_76 C hP hS rfl rfl ((fset_ne (by decide)).trans e11) rfl (Nat.le_of_ble_eq_true rfl) dX4_byteOf_47 (fun H locs hP hS => ?_)
        have hP : fP Γ (fset (fset w 12 tt (aI 0 1000 (upd bf (s_ln σ tt) (vp_nar .byte ((nI bb).toInt8.toInt32))))) 11 tt (oO 3 [.int (nI (s_mk σ tt)), .ref (w.1 12 tt), .int (nI (s_ln σ tt + 1)), .ref (w.1 13 tt), .int (b2i zf), .ref (w.1 14 tt), .int (nI (s_cn σ tt)), .ref (w.1 15 tt), .int (nI (s_dn σ tt))])) H := hP
        refine lv_aload_n hx hb dX4_byteOf_50 rfl (lv_at hl 0 rfl) ?_
        refine lv_iconst (v := nI 1) hx hb dX4_byteOf_51 (by decide) ?_
        refine pf_X4_83 C hP hS rfl rfl fset_at rfl (Nat.le_of_ble_eq_true rfl) dX4_byteOf_52 (fun H locs hP hS => ?_)
        have hP : fP Γ (fset (fset (fset w 12 tt (aI 0 1000 (upd bf (s_ln σ tt) (vp_nar .byte ((nI bb).toInt8.toInt32))))) 11 tt (oO 3 [.int (nI (s_mk σ tt)), .ref (w.1 12 tt), .int (nI (s_ln σ tt + 1)), .ref (w.1 13 tt), .int (b2i zf), .ref (w.1 14 tt), .int (nI (s_cn σ tt)), .ref (w.1 15 tt), .int (nI (s_dn σ tt))])) 11 tt (oO 3 [.int (nI (s_mk σ tt)), .ref (w.1 12 tt), .int (nI (s_ln σ tt + 1)), .ref (w.1 13 tt), .int (b2i true), .ref (w.1 14 tt), .int (nI (s_cn σ tt)), .ref (w.1 15 tt), .int (nI (s_dn σ tt))])) H := hP
        rw [fset_s] at hP
        refine lv_iconst (v := nI 1) hx hb dX4_byteOf_55 (by decide) ?_
        have htt1 := bo_t c_2 c_14 (by omega) (by omega : s_ln σ tt ≠ 1000)
        exact fw_reti C hr hlk rfl hP hS (⟨b2i_t htt1, by rw [bo_m htt1 (by omega) (by omega)]; exact Rc_byte (zf := zf) hR htt e13 e14 e15 hbf hcf hnf (by_m bb hbb) rfl, fr_tr (fr_set (by decide)) (fr_set (by decide))⟩) (Nat.le_of_ble_eq_true rfl) (Nat.le_of_ble_eq_true rfl) dX4_byteOf_56
      · refine lv_iconst (v := nI 0) hx hb dX4_byteOf_27 (by decide) ?_
        exact fw_reti C hr hlk rfl hP hS (⟨b2i_f (bo_f (Or.inr (Or.inr (by rw [n_of_nI (by omega)]; omega)))), by rw [bo_n (bo_f (Or.inr (Or.inr (by rw [n_of_nI (by omega)]; omega))))]; exact hR, fr_rf w⟩) (Nat.le_of_ble_eq_true rfl) (Nat.le_of_ble_eq_true rfl) dX4_byteOf_28
end
section
theorem co_f {σ : St} {t u : Int32} {x : Int64} (h : fIn t (s_nt σ) = false ∨ fIn u 256 = false ∨ (isSec x && decide (s_ck σ ≤ x)) = false ∨ s_cn σ (n_of t) = 200) : a_comment σ t u x = false := by
  unfold a_comment
  rw [Bool.and_assoc (fIn t (s_nt σ) && fIn u 256) (isSec x)]
  rcases h with h | h | h | h
  · rw [h]; rfl
  · rw [h, Bool.and_false]; rfl
  · rw [h, Bool.and_false]; rfl
  · rw [show decide (s_cn σ (n_of t) ≠ 200) = false from decide_eq_false (fun q => q h), Bool.and_false]
theorem co_n {σ : St} {t u : Int32} {x : Int64} (h : a_comment σ t u x = false) : n_comment σ t u x = σ := by rw [n_comment, h]; rfl
theorem co_t {σ : St} {t : Nat} {u : Int32} {x : Int64} (h1 : fIn (nI t) (s_nt σ) = true) (h2 : fIn u 256 = true) (h4 : (isSec x && decide (s_ck σ ≤ x)) = true) (ht : t < 2 ^ 31) (h3 : s_cn σ t ≠ 200) : a_comment σ (nI t) u x = true := by
  unfold a_comment
  rw [Bool.and_assoc (fIn (nI t) (s_nt σ) && fIn u 256) (isSec x), h1, h2, h4, n_of_nI ht, show decide (s_cn σ t ≠ 200) = true from decide_eq_true h3]
  rfl
theorem co_m {σ : St} {t u : Nat} {x : Int64} (h : a_comment σ (nI t) (nI u) x = true) (ht : t < 2 ^ 31) (hb : u < 2 ^ 31) : n_comment σ (nI t) (nI u) x = ((s_np σ, s_nr σ, s_nt σ, s_ns σ, s_nw σ, x), σ.2.1, (s_mk σ, s_ln σ, s_by σ, va_up (s_cn σ) t (s_cn σ t + 1), f2 (s_cm σ) t (s_cn σ t) u, σ.2.2.1.2.2.2.2.2), σ.2.2.2) := by
  rw [n_comment, h, n_of_nI ht, n_of_nI hb]
  rfl
theorem Rc_comm {σ : St} {w : FW} {t v : Nat} {bf df cf nf : Nat → Int32} {zf : Bool} {x : Int32} (hR : Rc σ w) (ht : t < s_nt σ) (e12 : w.2 12 t = some (aI 0 1000 bf)) (e13 : w.2 13 t = some (aI 1 8 df)) (e15 : w.2 15 t = some (aI 1 10 nf)) (hbf : ∀ j, j < s_ln σ t → bf j &&& 255 = nI (s_by σ t j)) (hcf : ∀ j, j < s_cn σ t → cf j &&& 255 = nI (s_cm σ t j)) (hnf : ∀ j, j < s_dn σ t → nf j = nI (s_nd σ t j)) (hzf : zf = false → ∀ j, j < 8 → df j = s_dg σ t j) (hx : x &&& 255 = nI v)
    {σ1 : St} (e : σ1 = (σ.1, σ.2.1, (s_mk σ, s_ln σ, s_by σ, va_up (s_cn σ) t (s_cn σ t + 1), f2 (s_cm σ) t (s_cn σ t) v, σ.2.2.1.2.2.2.2.2), σ.2.2.2)) : Rc σ1 (fset (fset w 14 t (aI 0 200 (upd cf (s_cn σ t) x))) 11 t (oO 3 [.int (nI (s_mk σ t)), .ref (w.1 12 t), .int (nI (s_ln σ t)), .ref (w.1 13 t), .int (b2i zf), .ref (w.1 14 t), .int (nI (s_cn σ t + 1)), .ref (w.1 15 t), .int (nI (s_dn σ t))])) := by
  refine Rc_thg hR ht (by rw [e]) (by rw [e]) (by rw [e]) rfl (fun k i h => ?_) ?_ (fun i hi => ?_)
  · rw [fset_off (by omega), fset_off (by omega)]
  · refine ⟨bf, df, upd cf (s_cn σ t) x, nf, zf, ?_, (fset_ne (by decide)).trans ((fset_ne (by decide)).trans e12), (fset_ne (by decide)).trans ((fset_ne (by decide)).trans e13), (fset_ne (by decide)).trans fset_at, (fset_ne (by decide)).trans ((fset_ne (by decide)).trans e15), ?_, ?_, ?_, ?_⟩
    · subst e
      refine fset_at.trans ?_
      show some (oO 3 [_, _, _, _, _, _, .int (nI (s_cn σ t + 1)), _, _]) = some (oO 3 [_, _, _, _, _, _, .int (nI (va_up (s_cn σ) t (s_cn σ t + 1) t)), _, _])
      rw [va_up_self]
      rfl
    · subst e; exact hbf
    · subst e
      intro j hj
      have hj : j < va_up (s_cn σ) t (s_cn σ t + 1) t := hj
      rw [va_up_self] at hj
      show _ = nI (f2 (s_cm σ) t (s_cn σ t) v t j)
      rw [f2_row]
      exact up_and hcf hx j hj
    · subst e; exact hnf
    · subst e; exact hzf
  · subst e
    exact ⟨rfl, rfl, rfl, va_up_ne _ _ hi, f2_oth hi, rfl, rfl⟩
theorem late_t {σ : St} {x : Int64} (h0 : 0 ≤ s_ck σ) (h : (decide (x < s_ck σ) || decide (cLAST < x)) = true) : (isSec x && decide (s_ck σ ≤ x)) = false := by
  rw [late_iff h0] at h
  cases hq : (isSec x && decide (s_ck σ ≤ x))
  · rfl
  · rw [hq] at h; cases h
theorem late_f {σ : St} {x : Int64} (h0 : 0 ≤ s_ck σ) (h : (decide (x < s_ck σ) || decide (cLAST < x)) = false) : (isSec x && decide (s_ck σ ≤ x)) = true := by
  rw [late_iff h0] at h
  cases hq : (isSec x && decide (s_ck σ ≤ x))
  · rw [hq] at h; cases h
  · rfl
set_option maxHeartbeats 4000000 in
set_option maxRecDepth 100000 in
theorem k_X4_comment (l : Launch) (Γ : FG) (w : FW) (σ : St) (tx bx : Int32) (x : Int64) (hI : Inv σ) (hR : Rc σ w) : Met l yX4_comment (ws_ yX4_comment cX4_comment 6 (some .boolean)) (rmD 9 5 1230) (va_Pc [.ref (w.1 0 0), .int tx, .int bx, .long x] (fI Γ w)) (va_Qi (fun r w1 => r = b2i (a_comment σ tx bx x) ∧ Rc (n_comment σ tx bx x) w1 ∧ fr w w1) (fI Γ) (fA Γ)) 5 1230 (fA Γ) := by
  refine fw_met (by decide) (Nat.le_of_ble_eq_true rfl) ?_
  intro p e s m below meth c ls C hP hS hr hlk hin hl
  have C : fC p s m [.ref (w.1 0 0), .int tx, .int bx, .long x].toArray c cX4_comment 6 RX4 Γ := C
  have hx := C.1.1
  have hb := C.1.2.1
  have hl : lv_has ls 6 [(0, .ref (w.1 0 0)), (1, .int tx), (2, .int bx), (3, .long x)] := hl
  obtain ⟨⟨hnp, hnr, hnt, hns, hnw, hck0, hck1⟩, hIr, hIt, hIb, hIn, hIs, hIg, hIw, hIa⟩ := id hI
  refine lv_aload_n hx hb dX4_comment_0 rfl (lv_at hl 0 rfl) ?_
  refine lv_iload_n hx hb dX4_comment_1 rfl (lv_at hl 1 rfl) ?_
  refine fw_cq0 (w := w) hS (fw_rV (rest := []) (As := [.int tx]) C hP hS wV_X4_69 (k_X4_thingAt l Γ w σ tx hnt hR.1 hR.2.2.1.1) hR.1 rfl rfl (fRm_mk rfl rfl (Nat.le_of_ble_eq_true rfl) (Nat.le_of_ble_eq_true rfl) (Nat.le_of_ble_eq_true rfl) (Nat.le_of_ble_eq_true rfl) (Nat.le_of_ble_eq_true rfl)) rfl hl.1 rfl dX4_comment_2) (fun H locs hP hS => ?_)
  cases c_2 : fIn tx (s_nt σ) with
  | false =>
    refine fw_Eq (y := .null) rfl ?_
    refine lv_astoreN (lv' := [(5, .null), (0, .ref (w.1 0 0)), (1, .int tx), (2, .int bx), (3, .long x)]) hx hb dX4_comment_5 hl (by decide) rfl (fun ls hl => ?_)
    refine lv_aloadN hx hb dX4_comment_7 (lv_at hl 0 rfl) ?_
    refine lv_ifnullN (tgt := 38) hx hb dX4_comment_9 (by decide) ?_
    refine lv_iconst (v := nI 0) hx hb dX4_comment_38 (by decide) ?_
    exact fw_reti C hr hlk rfl hP hS (⟨b2i_f (co_f (Or.inl c_2)), by rw [co_n (co_f (Or.inl c_2))]; exact hR, fr_rf w⟩) (Nat.le_of_ble_eq_true rfl) (Nat.le_of_ble_eq_true rfl) dX4_comment_39
  | true =>
    obtain ⟨tt, htt, rfl⟩ := fIn_t c_2 (by omega)
    refine fw_Eq (y := .ref (w.1 11 tt)) (by rw [n_of_nI (by omega)]; rfl) ?_
    obtain ⟨hln, hcn, hdn, hmk, -⟩ := hIt tt
    obtain ⟨bf, df, cf, nf, zf, e11, e12, e13, e14, e15, hbf, hcf, hnf, hzf⟩ := id (hR.2.2.1.2.1 tt htt)
    refine lv_astore (lv' := [(5, .ref (w.1 11 tt)), (0, .ref (w.1 0 0)), (1, .int (nI tt)), (2, .int bx), (3, .long x)]) hx hb dX4_comment_5 hl (by decide) rfl (fun ls hl => ?_)
    refine lv_aload hx hb dX4_comment_7 (lv_at hl 0 rfl) ?_
    refine lv_ifnull hx hb dX4_comment_9 ?_
    refine lv_iload_n hx hb dX4_comment_12 rfl (lv_at hl 3 rfl) ?_
    refine fw_ci0 (w := w) hS (fw_rS (rest := []) (As := [.int bx]) C hP hS wS_X4_73 (k_X4_isByte l Γ w bx) (fRm_mk rfl rfl (Nat.le_of_ble_eq_true rfl) (Nat.le_of_ble_eq_true rfl) (Nat.le_of_ble_eq_true rfl) (Nat.le_of_ble_eq_true rfl) (Nat.le_of_ble_eq_true rfl)) rfl hl.1 rfl dX4_comment_13) (fun H locs hP hS => ?_)
    refine fw_ieqB (tgt := 38) hx hb dX4_comment_16 (by decide) (fun c_16 => ?_) (fun c_16 => ?_)
    · refine lv_iconst (v := nI 0) hx hb dX4_comment_38 (by decide) ?_
      exact fw_reti C hr hlk rfl hP hS (⟨b2i_f (co_f (Or.inr (Or.inl c_16))), by rw [co_n (co_f (Or.inr (Or.inl c_16)))]; exact hR, fr_rf w⟩) (Nat.le_of_ble_eq_true rfl) (Nat.le_of_ble_eq_true rfl) dX4_comment_39
    · obtain ⟨bb, hbb, rfl⟩ := fIn_t c_16 (by omega)
      refine lv_aload_n hx hb dX4_comment_19 rfl (lv_at hl 1 rfl) ?_
      refine lv_lload_n hx hb dX4_comment_20 rfl (lv_at hl 4 rfl) ?_
      refine fw_ci0 (w := w) hS (fw_rV (rest := []) (As := [.long x]) C hP hS wV_X4_87 (k_X4_isLate l Γ w σ x hR.1) hR.1 rfl rfl (fRm_mk rfl rfl (Nat.le_of_ble_eq_true rfl) (Nat.le_of_ble_eq_true rfl) (Nat.le_of_ble_eq_true rfl) (Nat.le_of_ble_eq_true rfl) (Nat.le_of_ble_eq_true rfl)) rfl hl.1 rfl dX4_comment_21) (fun H locs hP hS => ?_)
      refine fw_ineB (tgt := 38) hx hb dX4_comment_24 (by decide) (fun c_24 => ?_) (fun c_24 => ?_)
      · refine lv_iconst (v := nI 0) hx hb dX4_comment_38 (by decide) ?_
        exact fw_reti C hr hlk rfl hP hS (⟨b2i_f (co_f (Or.inr (Or.inr (Or.inl (late_t hck0 c_24))))), by rw [co_n (co_f (Or.inr (Or.inr (Or.inl (late_t hck0 c_24)))))]; exact hR, fr_rf w⟩) (Nat.le_of_ble_eq_true rfl) (Nat.le_of_ble_eq_true rfl) dX4_comment_39
      · refine lv_aload hx hb dX4_comment_27 (lv_at hl 0 rfl) ?_
        refine gf_X4_158 C hP e11 rfl rfl dX4_comment_29 ?_
        refine lv_sipush (v := nI 200) hx hb dX4_comment_32 (by decide) ?_
        refine fw_ltN (tgt := 40) hx hb (by omega) (by omega) dX4_comment_35 (by decide) (fun c_35 => ?_) (fun c_35 => ?_)
        · refine lv_aload hx hb dX4_comment_40 (lv_at hl 0 rfl) ?_
          refine gf_X4_161 C hP e11 rfl rfl dX4_comment_42 ?_
          refine lv_aload hx hb dX4_comment_45 (lv_at hl 0 rfl) ?_
          refine gf_X4_158 C hP e11 rfl rfl dX4_comment_47 ?_
          refine lv_iload_n hx hb dX4_comment_50 rfl (lv_at hl 3 rfl) ?_
          refine lv_i2b (v := (nI bb).toInt8.toInt32) hx hb dX4_comment_51 rfl ?_
          refine fw_bast C hP hS e14 rfl (s_cn σ tt) rfl (by omega) (by decide) dX4_comment_52 (fun H locs hP hS => ?_)
          have hP : fP Γ (fset w 14 tt (aI 0 200 (upd cf (s_cn σ tt) (vp_nar .byte ((nI bb).toInt8.toInt32))))) H := hP
          refine lv_aload hx hb dX4_comment_53 (lv_at hl 0 rfl) ?_
          refine lv_dup hx hb dX4_comment_55 rfl ?_
          refine gf_X4_158 C hP ((fset_ne (by decide)).trans e11) rfl rfl dX4_comment_56 ?_
          refine lv_iconst (v := nI 1) hx hb dX4_comment_59 (by decide) ?_
          refine fw_addN hx hb dX4_comment_60 ?_
          refine pf_X4_158 C hP hS rfl rfl ((fset_ne (by decide)).trans e11) rfl (Nat.le_of_ble_eq_true rfl) dX4_comment_61 (fun H locs hP hS => ?_)
          have hP : fP Γ (fset (fset w 14 tt (aI 0 200 (upd cf (s_cn σ tt) (vp_nar .byte ((nI bb).toInt8.toInt32))))) 11 tt (oO 3 [.int (nI (s_mk σ tt)), .ref (w.1 12 tt), .int (nI (s_ln σ tt)), .ref (w.1 13 tt), .int (b2i zf), .ref (w.1 14 tt), .int (nI (s_cn σ tt + 1)), .ref (w.1 15 tt), .int (nI (s_dn σ tt))])) H := hP
          refine lv_aload_n hx hb dX4_comment_64 rfl (lv_at hl 1 rfl) ?_
          refine lv_lload_n hx hb dX4_comment_65 rfl (lv_at hl 4 rfl) ?_
          refine pf_X4_130 C hP hS rfl rfl ((fset_ne (by decide)).trans ((fset_ne (by decide)).trans hR.1)) rfl (Nat.le_of_ble_eq_true rfl) dX4_comment_66 (fun H locs hP hS => ?_)
          have hP : fP Γ (fset (fset (fset w 14 tt (aI 0 200 (upd cf (s_cn σ tt) (vp_nar .byte ((nI bb).toInt8.toInt32))))) 11 tt (oO 3 [.int (nI (s_mk σ tt)), .ref (w.1 12 tt), .int (nI (s_ln σ tt)), .ref (w.1 13 tt), .int (b2i zf), .ref (w.1 14 tt), .int (nI (s_cn σ tt + 1)), .ref (w.1 15 tt), .int (nI (s_dn σ tt))])) 0 0 (oO 4 [.int (nI (s_np σ)), .ref (w.1 1 0), .int (nI (s_nr σ)), .ref (w.1 2 0), .int (nI (s_nt σ)), .ref (w.1 3 0), .int (nI (s_ns σ)), .ref (w.1 4 0), .int (nI (s_nw σ)), .ref (w.1 5 0), .ref (w.1 6 0), .long x, .ref (w.1 7 0)])) H := hP
          refine lv_iconst (v := nI 1) hx hb dX4_comment_69 (by decide) ?_
          have htt1 := co_t c_2 c_16 (late_f hck0 c_24) (by omega) (by omega : s_cn σ tt ≠ 200)
          exact fw_reti C hr hlk rfl hP hS (⟨b2i_t htt1, by rw [co_m htt1 (by omega) (by omega)]; exact Rc_sr (Rc_comm hR htt e12 e13 e15 hbf hcf hnf hzf (by_m bb hbb) rfl) (s_np σ) x, fr_tr (fr_set (by decide)) (fr_tr (fr_set (by decide)) (fr_set (by decide)))⟩) (Nat.le_of_ble_eq_true rfl) (Nat.le_of_ble_eq_true rfl) dX4_comment_70
        · refine lv_iconst (v := nI 0) hx hb dX4_comment_38 (by decide) ?_
          exact fw_reti C hr hlk rfl hP hS (⟨b2i_f (co_f (Or.inr (Or.inr (Or.inr (by rw [n_of_nI (by omega)]; omega))))), by rw [co_n (co_f (Or.inr (Or.inr (Or.inr (by rw [n_of_nI (by omega)]; omega)))))]; exact hR, fr_rf w⟩) (Nat.le_of_ble_eq_true rfl) (Nat.le_of_ble_eq_true rfl) dX4_comment_39
theorem ne_f {σ : St} {t m : Int32} (h : fIn t (s_nt σ) = false ∨ fIn m 10 = false) : a_needs σ t m = -1 ∧ n_needs σ t m = σ := by
  unfold a_needs n_needs
  rcases h with h | h
  · rw [h]; exact ⟨rfl, rfl⟩
  · rw [h, Bool.and_false]; exact ⟨rfl, rfl⟩
theorem nf_le {σ : St} {t m : Nat} : ∀ (n k : Nat), s_nf σ t m n k ≤ k + n
  | 0, k => Nat.le_refl _
  | n + 1, k => by
    unfold s_nf
    split
    · omega
    · have := nf_le (σ := σ) (t := t) (m := m) n (k + 1)
      omega
theorem nf_is {σ : St} {t m i : Nat} (hi : s_nd σ t i = m) (hb : ∀ j, j < i → s_nd σ t j ≠ m) : ∀ (n k : Nat), k ≤ i → i < k + n → s_nf σ t m n k = i
  | 0, k, h1, h2 => by omega
  | n + 1, k, h1, h2 => by
    unfold s_nf
    by_cases e : k = i
    · subst e; rw [if_pos hi]
    · rw [if_neg (hb k (by omega))]
      exact nf_is hi hb n (k + 1) (by omega) (by omega)
theorem nf_no {σ : St} {t m : Nat} : ∀ (n k : Nat), (∀ j, k ≤ j → j < k + n → s_nd σ t j ≠ m) → s_nf σ t m n k = k + n
  | 0, k, _ => rfl
  | n + 1, k, h => by
    unfold s_nf
    rw [if_neg (h k (by omega) (by omega)), nf_no n (k + 1) (fun j h1 h2 => h j (by omega) (by omega))]
    omega
theorem ne_in {σ : St} {t m i : Nat} (h1 : fIn (nI t) (s_nt σ) = true) (h2 : fIn (nI m) 10 = true) (ht : t < 2 ^ 31) (hm : m < 2 ^ 31) (hi : s_nd σ t i = m) (hb : ∀ j, j < i → s_nd σ t j ≠ m) (hd : i < s_dn σ t) : a_needs σ (nI t) (nI m) = nI i ∧ n_needs σ (nI t) (nI m) = σ := by
  unfold a_needs n_needs
  rw [h1, h2, n_of_nI ht, n_of_nI hm, nf_is hi hb _ 0 (by omega) (by omega)]
  rw [show decide (i = s_dn σ t) = false from decide_eq_false (by omega)]
  exact ⟨rfl, rfl⟩
theorem ne_new {σ : St} {t m : Nat} (h1 : fIn (nI t) (s_nt σ) = true) (h2 : fIn (nI m) 10 = true) (ht : t < 2 ^ 31) (hm : m < 2 ^ 31) (hb : ∀ j, j < s_dn σ t → s_nd σ t j ≠ m) : a_needs σ (nI t) (nI m) = nI (s_dn σ t) ∧ n_needs σ (nI t) (nI m) = (σ.1, σ.2.1, (s_mk σ, s_ln σ, s_by σ, s_cn σ, s_cm σ, va_up (s_dn σ) t (s_dn σ t + 1), f2 (s_nd σ) t (s_dn σ t) m), σ.2.2.2) := by
  unfold a_needs n_needs
  rw [h1, h2, n_of_nI ht, n_of_nI hm, nf_no (s_dn σ t) 0 (fun j _ h => hb j (by omega)), Nat.zero_add]
  rw [show decide (s_dn σ t = s_dn σ t) = true from decide_eq_true rfl]
  exact ⟨rfl, rfl⟩
/-- each meaning is needed but once: with ten of them, every meaning is among them -/
theorem ne_ten {σ : St} (hI : Inv σ) {t m : Nat} (hm : m < 10) (hd : s_dn σ t = 10) : ∃ j, j < s_dn σ t ∧ s_nd σ t j = m := by
  refine Classical.byContradiction fun hx => ?_
  have h := fb_holes 10 11 (fun i => if i = 10 then m else s_nd σ t i) (fun i _ => by
    show (if i = 10 then m else s_nd σ t i) < 10
    split
    · exact hm
    · exact (hI.2.2.2.1 t i).2.2) (fun i j hij hj => by
    show (if i = 10 then m else s_nd σ t i) ≠ (if j = 10 then m else s_nd σ t j)
    rw [if_neg (by omega : i ≠ 10)]
    by_cases e : j = 10
    · rw [if_pos e]; exact fun q => hx ⟨i, by omega, q⟩
    · rw [if_neg e]; exact hI.2.2.2.2.1 t i j hij (by omega))
  omega
theorem Rc_need {σ : St} {w : FW} {t m : Nat} {bf df cf nf : Nat → Int32} {zf : Bool} (hR : Rc σ w) (ht : t < s_nt σ) (e12 : w.2 12 t = some (aI 0 1000 bf)) (e13 : w.2 13 t = some (aI 1 8 df)) (e14 : w.2 14 t = some (aI 0 200 cf)) (hbf : ∀ j, j < s_ln σ t → bf j &&& 255 = nI (s_by σ t j)) (hcf : ∀ j, j < s_cn σ t → cf j &&& 255 = nI (s_cm σ t j)) (hnf : ∀ j, j < s_dn σ t → nf j = nI (s_nd σ t j)) (hzf : zf = false → ∀ j, j < 8 → df j = s_dg σ t j)
    {σ1 : St} (e : σ1 = (σ.1, σ.2.1, (s_mk σ, s_ln σ, s_by σ, s_cn σ, s_cm σ, va_up (s_dn σ) t (s_dn σ t + 1), f2 (s_nd σ) t (s_dn σ t) m), σ.2.2.2)) : Rc σ1 (fset (fset w 15 t (aI 1 10 (upd nf (s_dn σ t) (nI m)))) 11 t (oO 3 [.int (nI (s_mk σ t)), .ref (w.1 12 t), .int (nI (s_ln σ t)), .ref (w.1 13 t), .int (b2i zf), .ref (w.1 14 t), .int (nI (s_cn σ t)), .ref (w.1 15 t), .int (nI (s_dn σ t + 1))])) := by
  refine Rc_thg hR ht (by rw [e]) (by rw [e]) (by rw [e]) rfl (fun k i h => ?_) ?_ (fun i hi => ?_)
  · rw [fset_off (by omega), fset_off (by omega)]
  · refine ⟨bf, df, cf, upd nf (s_dn σ t) (nI m), zf, ?_, (fset_ne (by decide)).trans ((fset_ne (by decide)).trans e12), (fset_ne (by decide)).trans ((fset_ne (by decide)).trans e13), (fset_ne (by decide)).trans ((fset_ne (by decide)).trans e14), (fset_ne (by decide)).trans fset_at, ?_, ?_, ?_, ?_⟩
    · subst e
      refine fset_at.trans ?_
      show some (oO 3 [_, _, _, _, _, _, _, _, .int (nI (s_dn σ t + 1))]) = some (oO 3 [_, _, _, _, _, _, _, _, .int (nI (va_up (s_dn σ) t (s_dn σ t + 1) t))])
      rw [va_up_self]
      rfl
    · subst e; exact hbf
    · subst e; exact hcf
    · subst e
      intro j hj
      have hj : j < va_up (s_dn σ) t (s_dn σ t + 1) t := hj
      rw [va_up_self] at hj
      show _ = nI (f2 (s_nd σ) t (s_dn σ t) m t j)
      rw [f2_row]
      unfold upd va_up
      by_cases e : j = s_dn σ t
      · rw [if_pos e, if_pos e]
      · rw [if_neg e, if_neg e]; exact hnf j (by omega)
    · subst e; exact hzf
  · subst e
    exact ⟨rfl, rfl, rfl, rfl, rfl, va_up_ne _ _ hi, f2_oth hi⟩
set_option maxHeartbeats 4000000 in
set_option maxRecDepth 100000 in
theorem k_X4_needs (l : Launch) (Γ : FG) (w : FW) (σ : St) (tx mx : Int32) (hI : Inv σ) (hR : Rc σ w) : Met l yX4_needs (ws_ yX4_needs cX4_needs 5 (some .int)) (rmD 9 5 1230) (va_Pc [.ref (w.1 0 0), .int tx, .int mx] (fI Γ w)) (va_Qi (fun r w1 => r = a_needs σ tx mx ∧ Rc (n_needs σ tx mx) w1 ∧ fr w w1) (fI Γ) (fA Γ)) 5 1230 (fA Γ) := by
  refine fw_met (by decide) (Nat.le_of_ble_eq_true rfl) ?_
  intro p e s m below meth c ls C hP hS hr hlk hin hl
  have C : fC p s m [.ref (w.1 0 0), .int tx, .int mx].toArray c cX4_needs 5 RX4 Γ := C
  have hx := C.1.1
  have hb := C.1.2.1
  have hl : lv_has ls 5 [(0, .ref (w.1 0 0)), (1, .int tx), (2, .int mx)] := hl
  obtain ⟨⟨hnp, hnr, hnt, hns, hnw, hck0, hck1⟩, hIr, hIt, hIb, hIn, hIs, hIg, hIw, hIa⟩ := id hI
  refine lv_aload_n hx hb dX4_needs_0 rfl (lv_at hl 0 rfl) ?_
  refine lv_iload_n hx hb dX4_needs_1 rfl (lv_at hl 1 rfl) ?_
  refine fw_cq0 (w := w) hS (fw_rV (rest := []) (As := [.int tx]) C hP hS wV_X4_69 (k_X4_thingAt l Γ w σ tx hnt hR.1 hR.2.2.1.1) hR.1 rfl rfl (fRm_mk rfl rfl (Nat.le_of_ble_eq_true rfl) (Nat.le_of_ble_eq_true rfl) (Nat.le_of_ble_eq_true rfl) (Nat.le_of_ble_eq_true rfl) (Nat.le_of_ble_eq_true rfl)) rfl hl.1 rfl dX4_needs_2) (fun H locs hP hS => ?_)
  cases c_2 : fIn tx (s_nt σ) with
  | false =>
    refine fw_Eq (y := .null) rfl ?_
    refine lv_astore_nN (lv' := [(3, .null), (0, .ref (w.1 0 0)), (1, .int tx), (2, .int mx)]) hx hb dX4_needs_5 rfl hl (by decide) rfl (fun ls hl => ?_)
    refine lv_aload_nN hx hb dX4_needs_6 rfl (lv_at hl 0 rfl) ?_
    refine lv_ifnullN (tgt := 17) hx hb dX4_needs_7 (by decide) ?_
    refine lv_iconst (v := (-1)) hx hb dX4_needs_17 (by decide) ?_
    exact fw_reti C hr hlk rfl hP hS (⟨(ne_f (Or.inl c_2)).1.symm, by rw [(ne_f (Or.inl c_2)).2]; exact hR, fr_rf w⟩) (Nat.le_of_ble_eq_true rfl) (Nat.le_of_ble_eq_true rfl) dX4_needs_18
  | true =>
    obtain ⟨tt, htt, rfl⟩ := fIn_t c_2 (by omega)
    refine fw_Eq (y := .ref (w.1 11 tt)) (by rw [n_of_nI (by omega)]; rfl) ?_
    obtain ⟨hln, hcn, hdn, hmk, -⟩ := hIt tt
    obtain ⟨bf, df, cf, nf, zf, e11, e12, e13, e14, e15, hbf, hcf, hnf, hzf⟩ := id (hR.2.2.1.2.1 tt htt)
    refine lv_astore_n (lv' := [(3, .ref (w.1 11 tt)), (0, .ref (w.1 0 0)), (1, .int (nI tt)), (2, .int mx)]) hx hb dX4_needs_5 rfl hl (by decide) rfl (fun ls hl => ?_)
    refine lv_aload_n hx hb dX4_needs_6 rfl (lv_at hl 0 rfl) ?_
    refine lv_ifnull hx hb dX4_needs_7 ?_
    refine lv_iload_n hx hb dX4_needs_10 rfl (lv_at hl 3 rfl) ?_
    refine fw_ci0 (w := w) hS (fw_rS (rest := []) (As := [.int mx]) C hP hS wS_X4_52 (k_X4_isMeaning l Γ w mx) (fRm_mk rfl rfl (Nat.le_of_ble_eq_true rfl) (Nat.le_of_ble_eq_true rfl) (Nat.le_of_ble_eq_true rfl) (Nat.le_of_ble_eq_true rfl) (Nat.le_of_ble_eq_true rfl)) rfl hl.1 rfl dX4_needs_11) (fun H locs hP hS => ?_)
    refine fw_ineB (tgt := 19) hx hb dX4_needs_14 (by decide) (fun c_14 => ?_) (fun c_14 => ?_)
    · obtain ⟨mm, hmm, rfl⟩ := fIn_t c_14 (by omega)
      refine lv_iconst (v := nI 0) hx hb dX4_needs_19 (by decide) ?_
      refine lv_istore (lv' := [(4, .int (nI 0)), (3, .ref (w.1 11 tt)), (0, .ref (w.1 0 0)), (1, .int (nI tt)), (2, .int (nI mm))]) hx hb dX4_needs_20 hl (by decide) rfl (fun ls hl => ?_)
      refine W.widen (k := 0) (n := 0) (Nat.le_of_ble_eq_true rfl) (Nat.le_of_ble_eq_true rfl) ?_
      have loop : ∀ (fu : Nat) (i : Nat) (H : Heap) (locs : List Loc) (ls : Array Slot), 11 - i < fu → (i ≤ s_dn σ tt) → (∀ j, j < i → s_nd σ tt j ≠ mm) → fP Γ w H → va_S (fA Γ) s.heap H locs → lv_has ls 5 [(4, .int (nI i)), (3, .ref (w.1 11 tt)), (0, .ref (w.1 0 0)), (1, .int (nI tt)), (2, .int (nI mm))] → W p l e (rmD 9 5 1230) s m [.ref (w.1 0 0), .int (nI tt), .int (nI mm)].toArray below meth c H locs 0 0 (MQ below (va_Qi (fun r w1 => r = a_needs σ (nI tt) (nI mm) ∧ Rc (n_needs σ (nI tt) (nI mm)) w1 ∧ fr w w1) (fI Γ) (fA Γ)) [.ref (w.1 0 0), .int (nI tt), .int (nI mm)].toArray s 5 1230 (fA Γ)) (F0 m 22 ls []) := by
        intro fu
        induction fu with
        | zero =>
          intro i H locs ls hf
          exact absurd hf (Nat.not_lt_zero _)
        | succ fu ih =>
          intro i H locs ls hf hi hz hP hS hl
          have hnd9 := (hIb tt i).2.2
          refine lv_iload hx hb dX4_needs_22 (lv_at hl 0 rfl) ?_
          refine lv_bipush (v := nI 10) hx hb dX4_needs_24 (by decide) ?_
          refine fw_geN (tgt := 58) hx hb (by omega) (by omega) dX4_needs_26 (by decide) (fun c_26 => ?_) (fun c_26 => ?_)
          · refine lv_aload_n hx hb dX4_needs_58 rfl (lv_at hl 1 rfl) ?_
            refine gf_X4_152 C hP e11 rfl rfl dX4_needs_59 ?_
            refine lv_bipush (v := nI 10) hx hb dX4_needs_62 (by decide) ?_
            refine fw_ltN (tgt := 69) hx hb (by omega) (by omega) dX4_needs_64 (by decide) (fun c_64 => ?_) (fun c_64 => ?_)
            · refine lv_aload_n hx hb dX4_needs_69 rfl (lv_at hl 1 rfl) ?_
              refine gf_X4_155 C hP e11 rfl rfl dX4_needs_70 ?_
              refine lv_aload_n hx hb dX4_needs_73 rfl (lv_at hl 1 rfl) ?_
              refine gf_X4_152 C hP e11 rfl rfl dX4_needs_74 ?_
              refine lv_iload_n hx hb dX4_needs_77 rfl (lv_at hl 4 rfl) ?_
              refine fw_iast C hP hS e15 rfl (s_dn σ tt) rfl (by omega) (by decide) dX4_needs_78 (fun H locs hP hS => ?_)
              have hP : fP Γ (fset w 15 tt (aI 1 10 (upd nf (s_dn σ tt) (nI mm)))) H := hP
              refine lv_aload_n hx hb dX4_needs_79 rfl (lv_at hl 1 rfl) ?_
              refine lv_dup hx hb dX4_needs_80 rfl ?_
              refine gf_X4_152 C hP ((fset_ne (by decide)).trans e11) rfl rfl dX4_needs_81 ?_
              refine lv_dup_x1 hx hb dX4_needs_84 rfl rfl ?_
              refine lv_iconst (v := nI 1) hx hb dX4_needs_85 (by decide) ?_
              refine fw_addN hx hb dX4_needs_86 ?_
              refine pf_X4_152 C hP hS rfl rfl ((fset_ne (by decide)).trans e11) rfl (Nat.le_of_ble_eq_true rfl) dX4_needs_87 (fun H locs hP hS => ?_)
              have hP : fP Γ (fset (fset w 15 tt (aI 1 10 (upd nf (s_dn σ tt) (nI mm)))) 11 tt (oO 3 [.int (nI (s_mk σ tt)), .ref (w.1 12 tt), .int (nI (s_ln σ tt)), .ref (w.1 13 tt), .int (b2i zf), .ref (w.1 14 tt), .int (nI (s_cn σ tt)), .ref (w.1 15 tt), .int (nI (s_dn σ tt + 1))])) H := hP
              have hok := ne_new c_2 c_14 (by omega) (by omega) (fun j hj => hz j (by omega))
              exact fw_reti C hr hlk rfl hP hS (⟨hok.1.symm, by rw [hok.2]; exact Rc_need hR htt e12 e13 e14 hbf hcf hnf hzf rfl, fr_tr (fr_set (by decide)) (fr_set (by decide))⟩) (Nat.le_of_ble_eq_true rfl) (Nat.le_of_ble_eq_true rfl) dX4_needs_90
            · refine lv_iconst (v := (-1)) hx hb dX4_needs_67 (by decide) ?_
              obtain ⟨j9, hj9, hq9⟩ := ne_ten hI hmm (by omega : s_dn σ tt = 10)
              exact absurd hq9 (hz j9 (by omega))
          · refine lv_iload hx hb dX4_needs_29 (lv_at hl 0 rfl) ?_
            refine lv_aload_n hx hb dX4_needs_31 rfl (lv_at hl 1 rfl) ?_
            refine gf_X4_152 C hP e11 rfl rfl dX4_needs_32 ?_
            refine fw_geN (tgt := 58) hx hb (by omega) (by omega) dX4_needs_35 (by decide) (fun c_35 => ?_) (fun c_35 => ?_)
            · refine lv_aload_n hx hb dX4_needs_58 rfl (lv_at hl 1 rfl) ?_
              refine gf_X4_152 C hP e11 rfl rfl dX4_needs_59 ?_
              refine lv_bipush (v := nI 10) hx hb dX4_needs_62 (by decide) ?_
              refine fw_ltN (tgt := 69) hx hb (by omega) (by omega) dX4_needs_64 (by decide) (fun c_64 => ?_) (fun c_64 => ?_)
              · refine lv_aload_n hx hb dX4_needs_69 rfl (lv_at hl 1 rfl) ?_
                refine gf_X4_155 C hP e11 rfl rfl dX4_needs_70 ?_
                refine lv_aload_n hx hb dX4_needs_73 rfl (lv_at hl 1 rfl) ?_
                refine gf_X4_152 C hP e11 rfl rfl dX4_needs_74 ?_
                refine lv_iload_n hx hb dX4_needs_77 rfl (lv_at hl 4 rfl) ?_
                refine fw_iast C hP hS e15 rfl (s_dn σ tt) rfl (by omega) (by decide) dX4_needs_78 (fun H locs hP hS => ?_)
                have hP : fP Γ (fset w 15 tt (aI 1 10 (upd nf (s_dn σ tt) (nI mm)))) H := hP
                refine lv_aload_n hx hb dX4_needs_79 rfl (lv_at hl 1 rfl) ?_
                refine lv_dup hx hb dX4_needs_80 rfl ?_
                refine gf_X4_152 C hP ((fset_ne (by decide)).trans e11) rfl rfl dX4_needs_81 ?_
                refine lv_dup_x1 hx hb dX4_needs_84 rfl rfl ?_
                refine lv_iconst (v := nI 1) hx hb dX4_needs_85 (by decide) ?_
                refine fw_addN hx hb dX4_needs_86 ?_
                refine pf_X4_152 C hP hS rfl rfl ((fset_ne (by decide)).trans e11) rfl (Nat.le_of_ble_eq_true rfl) dX4_needs_87 (fun H locs hP hS => ?_)
                have hP : fP Γ (fset (fset w 15 tt (aI 1 10 (upd nf (s_dn σ tt) (nI mm)))) 11 tt (oO 3 [.int (nI (s_mk σ tt)), .ref (w.1 12 tt), .int (nI (s_ln σ tt)), .ref (w.1 13 tt), .int (b2i zf), .ref (w.1 14 tt), .int (nI (s_cn σ tt)), .ref (w.1 15 tt), .int (nI (s_dn σ tt + 1))])) H := hP
                have hok := ne_new c_2 c_14 (by omega) (by omega) (fun j hj => hz j (by omega))
                exact fw_reti C hr hlk rfl hP hS (⟨hok.1.symm, by rw [hok.2]; exact Rc_need hR htt e12 e13 e14 hbf hcf hnf hzf rfl, fr_tr (fr_set (by decide)) (fr_set (by decide))⟩) (Nat.le_of_ble_eq_true rfl) (Nat.le_of_ble_eq_true rfl) dX4_needs_90
              · refine lv_iconst (v := (-1)) hx hb dX4_needs_67 (by decide) ?_
                obtain ⟨j9, hj9, hq9⟩ := ne_ten hI hmm (by omega : s_dn σ tt = 10)
                exact absurd hq9 (hz j9 (by omega))
            · refine lv_aload_n hx hb dX4_needs_38 rfl (lv_at hl 1 rfl) ?_
              refine gf_X4_155 C hP e11 rfl rfl dX4_needs_39 ?_
              refine lv_iload hx hb dX4_needs_42 (lv_at hl 0 rfl) ?_
              refine fw_iald C hP e15 rfl i rfl (by omega) (by decide) dX4_needs_44 ?_
              refine fw_E (show nf i = nI (s_nd σ tt i) from hnf i (by omega)) ?_
              refine lv_iload_n hx hb dX4_needs_45 rfl (lv_at hl 4 rfl) ?_
              refine fw_neN (tgt := 52) hx hb (by omega) (by omega) dX4_needs_46 (by decide) (fun c_46 => ?_) (fun c_46 => ?_)
              · refine lv_iinc (v := nI (i + 1)) (lv' := [(4, .int (nI (i + 1))), (3, .ref (w.1 11 tt)), (0, .ref (w.1 0 0)), (1, .int (nI tt)), (2, .int (nI mm))]) hx hb dX4_needs_52 hl (k := 0) rfl (by rw [show Int32.ofInt 1 = nI 1 from rfl, nI_add]) (by decide) rfl (fun ls hl => ?_)
                refine lv_goto (tgt := 22) hx hb dX4_needs_55 (by decide) ?_
                refine W.widen (k := 0) (n := 0) (Nat.le_of_ble_eq_true rfl) (Nat.le_of_ble_eq_true rfl) ?_
                exact ih (i + 1) H locs ls (by omega) (by omega) (lt_s hz c_46) hP hS (lv_sub hl [0, 1, 2, 3, 4] rfl)
              · refine lv_iload hx hb dX4_needs_49 (lv_at hl 0 rfl) ?_
                exact fw_reti C hr hlk rfl hP hS (⟨(ne_in c_2 c_14 (by omega) (by omega) c_46 hz (by omega)).1.symm, by rw [(ne_in c_2 c_14 (by omega) (by omega) c_46 hz (by omega)).2]; exact hR, fr_rf w⟩) (Nat.le_of_ble_eq_true rfl) (Nat.le_of_ble_eq_true rfl) dX4_needs_51
      exact loop 12 0 _ _ _ (by omega) (by omega) (fun j hj => absurd hj (Nat.not_lt_zero j)) hP hS (lv_sub hl [0, 1, 2, 3, 4] rfl)
    · refine lv_iconst (v := (-1)) hx hb dX4_needs_17 (by decide) ?_
      exact fw_reti C hr hlk rfl hP hS (⟨(ne_f (Or.inr c_14)).1.symm, by rw [(ne_f (Or.inr c_14)).2]; exact hR, fr_rf w⟩) (Nat.le_of_ble_eq_true rfl) (Nat.le_of_ble_eq_true rfl) dX4_needs_18
theorem li_f {σ : St} {k : Int32} (h : fIn k (s_nw σ) = false) : a_listed σ k = -1 := by rw [a_listed, h]; rfl
theorem li_t {σ : St} {k : Nat} (h : k < s_nw σ) (hn : s_nw σ ≤ 400) : a_listed σ (nI k) = nI (s_wl σ k) := by
  rw [a_listed, fIn_N (by omega), decide_eq_true h, n_of_nI (by omega)]
  rfl
set_option maxHeartbeats 4000000 in
set_option maxRecDepth 100000 in
theorem k_X4_listed (l : Launch) (Γ : FG) (w : FW) (σ : St) (kx : Int32) (hI : Inv σ) (hR : Rc σ w) : Met l yX4_listed (ws_ yX4_listed cX4_listed 2 (some .int)) (rmD 9 5 1230) (va_Pc [.ref (w.1 0 0), .int kx] (fI Γ w)) (va_Qi (fun r w1 => r = a_listed σ kx ∧ Rc σ w1 ∧ fr w w1) (fI Γ) (fA Γ)) 5 1230 (fA Γ) := by
  refine fw_met (by decide) (Nat.le_of_ble_eq_true rfl) ?_
  intro p e s m below meth c ls C hP hS hr hlk hin hl
  have C : fC p s m [.ref (w.1 0 0), .int kx].toArray c cX4_listed 2 RX4 Γ := C
  have hx := C.1.1
  have hb := C.1.2.1
  have hl : lv_has ls 2 [(0, .ref (w.1 0 0)), (1, .int kx)] := hl
  obtain ⟨⟨hnp, hnr, hnt, hns, hnw, hck0, hck1⟩, hIr, hIt, hIb, hIn, hIs, hIg, hIw, hIa⟩ := id hI
  have hnw4 : s_nw σ ≤ 400 := by rw [hnw]; exact Nat.le_trans (fb_ct_le _ _) hns
  obtain ⟨fW, hW1, hW2⟩ := id hR.2.2.2.2.1
  refine lv_iload_n hx hb dX4_listed_0 rfl (lv_at hl 1 rfl) ?_
  refine lv_if_lt (tgt := 19) hx hb dX4_listed_1 (by decide) (fun c_1 => ?_) (fun c_1 => ?_)
  · refine lv_iconst (v := (-1)) hx hb dX4_listed_19 (by decide) ?_
    exact fw_reti C hr hlk rfl hP hS (⟨(li_f (fIn_lt c_1)).symm, hR, fr_rf w⟩) (Nat.le_of_ble_eq_true rfl) (Nat.le_of_ble_eq_true rfl) dX4_listed_20
  · refine lv_iload_n hx hb dX4_listed_4 rfl (lv_at hl 1 rfl) ?_
    refine lv_aload_n hx hb dX4_listed_5 rfl (lv_at hl 0 rfl) ?_
    refine gf_X4_145 C hP hR.1 rfl rfl dX4_listed_6 ?_
    refine lv_icmp_ge (tgt := 19) hx hb dX4_listed_9 (by decide) (fun c_9 => ?_) (fun c_9 => ?_)
    · refine lv_iconst (v := (-1)) hx hb dX4_listed_19 (by decide) ?_
      exact fw_reti C hr hlk rfl hP hS (⟨(li_f (fIn_ge (by omega) c_9)).symm, hR, fr_rf w⟩) (Nat.le_of_ble_eq_true rfl) (Nat.le_of_ble_eq_true rfl) dX4_listed_20
    · refine lv_iload_n hx hb dX4_listed_12 rfl (lv_at hl 1 rfl) ?_
      refine lv_sipush (v := nI 400) hx hb dX4_listed_13 (by decide) ?_
      refine lv_icmp_lt (tgt := 21) hx hb dX4_listed_16 (by decide) (fun c_16 => ?_) (fun c_16 => ?_)
      · obtain ⟨kk, hkk, rfl⟩ := fIn_t (fIn_in (n := s_nw σ) (by omega) c_1 c_9) (by omega)
        refine lv_aload_n hx hb dX4_listed_21 rfl (lv_at hl 0 rfl) ?_
        refine gf_X4_27 C hP hR.1 rfl rfl dX4_listed_22 ?_
        refine lv_iload_n hx hb dX4_listed_25 rfl (lv_at hl 1 rfl) ?_
        refine fw_iald C hP hW1 rfl kk rfl (by omega) (by decide) dX4_listed_26 ?_
        refine fw_E (show fW kk = nI (s_wl σ kk) from hW2 kk (by omega)) ?_
        exact fw_reti C hr hlk rfl hP hS (⟨(li_t hkk hnw4).symm, hR, fr_rf w⟩) (Nat.le_of_ble_eq_true rfl) (Nat.le_of_ble_eq_true rfl) dX4_listed_27
      · refine lv_iconst (v := (-1)) hx hb dX4_listed_19 (by decide) ?_
        exact absurd (fIn_in (n := s_nw σ) (by omega) c_1 c_9) (by rw [fIn_ge (by omega) (Int32.le_trans (nI_le hnw4 (by omega)) (Int32.not_lt.mp c_16))]; decide)
end
section
theorem wi_f {σ : St} {x : Int32} (h : fIn x (s_ns σ) = false ∨ s_sg σ (n_of x) = true) : a_withdraw σ x = false := by
  unfold a_withdraw
  rcases h with h | h
  · rw [h]; rfl
  · rw [h]; exact Bool.and_false _
theorem wi_n {σ : St} {x : Int32} (h : a_withdraw σ x = false) : n_withdraw σ x = σ := by rw [n_withdraw, h]; rfl
theorem wi_t {σ : St} {i : Nat} (h1 : fIn (nI i) (s_ns σ) = true) (hi : i < 2 ^ 31) (h2 : s_sg σ i = false) : a_withdraw σ (nI i) = true := by rw [a_withdraw, h1, n_of_nI hi, h2]; rfl
theorem wi_m {σ : St} {i : Nat} (h : a_withdraw σ (nI i) = true) (hi : i < 2 ^ 31) : n_withdraw σ (nI i) = ((s_np σ, s_nr σ, s_nt σ, s_ns σ, s_nw σ + 1, s_ck σ), σ.2.1, σ.2.2.1, (s_st σ, s_sp σ, s_sm σ, s_sw σ, va_up (s_sg σ) i true, va_up (s_wl σ) (s_nw σ) i), s_bh σ) := by
  rw [n_withdraw, h, n_of_nI hi]
  rfl
theorem wi_lt {σ : St} (hI : Inv σ) {i : Nat} (hi : i < s_ns σ) (h : s_sg σ i = false) : s_nw σ < s_ns σ := by
  rw [hI.1.2.2.2.2.1]
  exact Nat.lt_of_lt_of_le (ct_lt (q := fun _ => true) hi (fun _ _ _ => rfl) h rfl) (fb_ct_le _ _)
theorem Rc_with {σ : St} {w : FW} {i : Nat} {f : Nat → Int32} (hR : Rc σ w) (hi : i < s_ns σ) (hf : w.2 4 0 = some (aI 1 400 f)) (hff : ∀ j, j < s_nw σ → f j = nI (s_wl σ j)) {σ1 : St} (e : σ1 = ((s_np σ, s_nr σ, s_nt σ, s_ns σ, s_nw σ + 1, s_ck σ), σ.2.1, σ.2.2.1, (s_st σ, s_sp σ, s_sm σ, s_sw σ, va_up (s_sg σ) i true, va_up (s_wl σ) (s_nw σ) i), s_bh σ)) :
    Rc σ1 (fset (fset (fset w 16 i (oO 2 [.ref (w.1 11 (s_st σ i)), .int (nI (s_sp σ i)), .int (nI (s_sm σ i)), .ref (w.1 17 i), .int (b2i true)])) 4 0 (aI 1 400 (upd f (s_nw σ) (nI i)))) 0 0 (oSR σ1 w)) := by
  obtain ⟨r0, r1, r2, ⟨⟨fS, rS1, rS2⟩, rS3, rS4⟩, r4, r5, r6⟩ := hR
  generalize hW : fset (fset (fset w 16 i (oO 2 [.ref (w.1 11 (s_st σ i)), .int (nI (s_sp σ i)), .int (nI (s_sm σ i)), .ref (w.1 17 i), .int (b2i true)])) 4 0 (aI 1 400 (upd f (s_nw σ) (nI i)))) 0 0 (oSR σ1 w) = W
  have hWa : W.1 = w.1 := by rw [← hW]; rfl
  have hWp : ∀ k j, k ≠ 0 → k ≠ 4 → ¬ (k = 16 ∧ j = i) → W.2 k j = w.2 k j := fun k j h0 h4 h => by rw [← hW]; exact (fset_ne h0).trans ((fset_ne h4).trans (fset_off h))
  have s : ∀ k, k ≠ 0 → k ≠ 4 → k ≠ 16 → sk k w W := fun k h0 h4 h6 j => ⟨hWp k j h0 h4 (fun z => h6 z.1), by rw [hWa]⟩
  refine ⟨?_, ?_, ?_, ⟨⟨fS, (hWp 3 0 (by decide) (by decide) (by omega)).trans rS1, fun j hj => by rw [hWa]; subst e; exact rS2 j hj⟩, fun j hj => ?_, fun j hj => ?_⟩, ⟨upd f (s_nw σ) (nI i), ?_, fun j hj => ?_⟩, ?_, RcH_c r6 (s 7 (by decide) (by decide) (by decide)) (s 8 (by decide) (by decide) (by decide)) (s 9 (by decide) (by decide) (by decide))⟩
  · show W.2 0 0 = some (oO 4 [_, .ref (W.1 1 0), _, .ref (W.1 2 0), _, .ref (W.1 3 0), _, .ref (W.1 4 0), _, .ref (W.1 5 0), .ref (W.1 6 0), _, .ref (W.1 7 0)])
    rw [hWa, ← hW]
    exact fset_at
  · subst e; exact RcR_c (σ := σ) r1 (s 1 (by decide) (by decide) (by decide)) (s 10 (by decide) (by decide) (by decide))
  · subst e; exact RcT_c (σ := σ) r2 (s 2 (by decide) (by decide) (by decide)) (s 11 (by decide) (by decide) (by decide)) (s 12 (by decide) (by decide) (by decide)) (s 13 (by decide) (by decide) (by decide)) (s 14 (by decide) (by decide) (by decide)) (s 15 (by decide) (by decide) (by decide))
  · have hj : j < s_ns σ := by rw [e] at hj; exact hj
    obtain ⟨b1, d, b2, b3⟩ := rS3 j hj
    refine ⟨?_, d, (hWp 17 j (by decide) (by decide) (by omega)).trans b2, by subst e; exact b3⟩
    subst e
    by_cases h9 : j = i
    · subst h9
      show W.2 16 j = some (oO 2 [.ref (W.1 11 (s_st σ j)), _, _, .ref (W.1 17 j), .int (b2i (va_up (s_sg σ) j true j))])
      rw [va_up_self, hWa, ← hW]
      exact (fset_ne (by decide)).trans ((fset_ne (by decide)).trans fset_at)
    · rw [hWp 16 j (by decide) (by decide) (fun z => h9 z.2), b1]
      show some (oO 2 [.ref (w.1 11 (s_st σ j)), _, _, .ref (w.1 17 j), .int (b2i (s_sg σ j))]) = some (oO 2 [.ref (W.1 11 (s_st σ j)), _, _, .ref (W.1 17 j), .int (b2i (va_up (s_sg σ) i true j))])
      rw [va_up_ne _ _ h9, hWa]
  · have hj : s_ns σ ≤ j := by rw [e] at hj; exact hj
    exact ⟨(hWp 16 j (by decide) (by decide) (by omega)).trans (rS4 j hj).1, (hWp 17 j (by decide) (by decide) (by omega)).trans (rS4 j hj).2⟩
  · rw [← hW]; exact (fset_ne (by decide)).trans fset_at
  · subst e
    have hj : j < s_nw σ + 1 := hj
    show upd f (s_nw σ) (nI i) j = nI (va_up (s_wl σ) (s_nw σ) i j)
    unfold upd va_up
    by_cases h9 : j = s_nw σ
    · rw [if_pos h9, if_pos h9]
    · rw [if_neg h9, if_neg h9]; exact hff j (by omega)
  · subst e; exact RcO_c (σ := σ) r5 (s 5 (by decide) (by decide) (by decide)) (s 6 (by decide) (by decide) (by decide))
set_option maxHeartbeats 4000000 in
set_option maxRecDepth 100000 in
theorem k_X4_withdraw (l : Launch) (Γ : FG) (w : FW) (σ : St) (ix : Int32) (hI : Inv σ) (hR : Rc σ w) : Met l yX4_withdraw (ws_ yX4_withdraw cX4_withdraw 3 (some .boolean)) (rmD 9 5 1230) (va_Pc [.ref (w.1 0 0), .int ix] (fI Γ w)) (va_Qi (fun r w1 => r = b2i (a_withdraw σ ix) ∧ Rc (n_withdraw σ ix) w1 ∧ fr w w1) (fI Γ) (fA Γ)) 5 1230 (fA Γ) := by
  refine fw_met (by decide) (Nat.le_of_ble_eq_true rfl) ?_
  intro p e s m below meth c ls C hP hS hr hlk hin hl
  have C : fC p s m [.ref (w.1 0 0), .int ix].toArray c cX4_withdraw 3 RX4 Γ := C
  have hx := C.1.1
  have hb := C.1.2.1
  have hl : lv_has ls 3 [(0, .ref (w.1 0 0)), (1, .int ix)] := hl
  obtain ⟨⟨hnp, hnr, hnt, hns, hnw, hck0, hck1⟩, hIr, hIt, hIb, hIn, hIs, hIg, hIw, hIa⟩ := id hI
  obtain ⟨fW, hW1, hW2⟩ := id hR.2.2.2.2.1
  have hnw4 : s_nw σ ≤ 400 := by rw [hnw]; exact Nat.le_trans (fb_ct_le _ _) hns
  refine lv_aload_n hx hb dX4_withdraw_0 rfl (lv_at hl 0 rfl) ?_
  refine lv_iload_n hx hb dX4_withdraw_1 rfl (lv_at hl 1 rfl) ?_
  refine fw_cq0 (w := w) hS (fw_rV (rest := []) (As := [.int ix]) C hP hS wV_X4_134 (k_X4_signatureAt l Γ w σ ix hns hR.1 hR.2.2.2.1.1) hR.1 rfl rfl (fRm_mk rfl rfl (Nat.le_of_ble_eq_true rfl) (Nat.le_of_ble_eq_true rfl) (Nat.le_of_ble_eq_true rfl) (Nat.le_of_ble_eq_true rfl) (Nat.le_of_ble_eq_true rfl)) rfl hl.1 rfl dX4_withdraw_2) (fun H locs hP hS => ?_)
  cases c_2 : fIn ix (s_ns σ) with
  | false =>
    refine fw_Eq (y := .null) rfl ?_
    refine lv_astore_nN (lv' := [(2, .null), (0, .ref (w.1 0 0)), (1, .int ix)]) hx hb dX4_withdraw_5 rfl hl (by decide) rfl (fun ls hl => ?_)
    refine lv_aload_nN hx hb dX4_withdraw_6 rfl (lv_at hl 0 rfl) ?_
    refine lv_ifnullN (tgt := 27) hx hb dX4_withdraw_7 (by decide) ?_
    refine lv_iconst (v := nI 0) hx hb dX4_withdraw_27 (by decide) ?_
    exact fw_reti C hr hlk rfl hP hS (⟨b2i_f (wi_f (Or.inl c_2)), by rw [wi_n (wi_f (Or.inl c_2))]; exact hR, fr_rf w⟩) (Nat.le_of_ble_eq_true rfl) (Nat.le_of_ble_eq_true rfl) dX4_withdraw_28
  | true =>
    obtain ⟨ii, hii, rfl⟩ := fIn_t c_2 (by omega)
    refine fw_Eq (y := .ref (w.1 16 ii)) (by rw [n_of_nI (by omega)]; rfl) ?_
    have hS1 := (hR.2.2.2.1.2.1 ii hii).1
    refine lv_astore_n (lv' := [(2, .ref (w.1 16 ii)), (0, .ref (w.1 0 0)), (1, .int (nI ii))]) hx hb dX4_withdraw_5 rfl hl (by decide) rfl (fun ls hl => ?_)
    refine lv_aload_n hx hb dX4_withdraw_6 rfl (lv_at hl 0 rfl) ?_
    refine lv_ifnull hx hb dX4_withdraw_7 ?_
    refine lv_aload_n hx hb dX4_withdraw_10 rfl (lv_at hl 0 rfl) ?_
    refine gf_X4_142 C hP hS1 rfl rfl dX4_withdraw_11 ?_
    refine fw_ineB (tgt := 27) hx hb dX4_withdraw_14 (by decide) (fun c_14 => ?_) (fun c_14 => ?_)
    · refine lv_iconst (v := nI 0) hx hb dX4_withdraw_27 (by decide) ?_
      exact fw_reti C hr hlk rfl hP hS (⟨b2i_f (wi_f (Or.inr (by rw [n_of_nI (by omega)]; exact c_14))), by rw [wi_n (wi_f (Or.inr (by rw [n_of_nI (by omega)]; exact c_14)))]; exact hR, fr_rf w⟩) (Nat.le_of_ble_eq_true rfl) (Nat.le_of_ble_eq_true rfl) dX4_withdraw_28
    · refine lv_aload_n hx hb dX4_withdraw_17 rfl (lv_at hl 1 rfl) ?_
      refine gf_X4_145 C hP hR.1 rfl rfl dX4_withdraw_18 ?_
      refine lv_sipush (v := nI 400) hx hb dX4_withdraw_21 (by decide) ?_
      refine fw_ltN (tgt := 29) hx hb (by omega) (by omega) dX4_withdraw_24 (by decide) (fun c_24 => ?_) (fun c_24 => ?_)
      · refine lv_aload_n hx hb dX4_withdraw_29 rfl (lv_at hl 0 rfl) ?_
        refine lv_iconst (v := nI 1) hx hb dX4_withdraw_30 (by decide) ?_
        refine pf_X4_142 C hP hS rfl rfl hS1 rfl (Nat.le_of_ble_eq_true rfl) dX4_withdraw_31 (fun H locs hP hS => ?_)
        have hP : fP Γ (fset w 16 ii (oO 2 [.ref (w.1 11 (s_st σ ii)), .int (nI (s_sp σ ii)), .int (nI (s_sm σ ii)), .ref (w.1 17 ii), .int (b2i true)])) H := hP
        refine lv_aload_n hx hb dX4_withdraw_34 rfl (lv_at hl 1 rfl) ?_
        refine gf_X4_27 C hP ((fset_ne (by decide)).trans hR.1) rfl rfl dX4_withdraw_35 ?_
        refine lv_aload_n hx hb dX4_withdraw_38 rfl (lv_at hl 1 rfl) ?_
        refine gf_X4_145 C hP ((fset_ne (by decide)).trans hR.1) rfl rfl dX4_withdraw_39 ?_
        refine lv_iload_n hx hb dX4_withdraw_42 rfl (lv_at hl 2 rfl) ?_
        refine fw_iast C hP hS ((fset_ne (by decide)).trans hW1) rfl (s_nw σ) rfl (by have := wi_lt hI hii c_14; omega) (by decide) dX4_withdraw_43 (fun H locs hP hS => ?_)
        have hP : fP Γ (fset (fset w 16 ii (oO 2 [.ref (w.1 11 (s_st σ ii)), .int (nI (s_sp σ ii)), .int (nI (s_sm σ ii)), .ref (w.1 17 ii), .int (b2i true)])) 4 0 (aI 1 400 (upd fW (s_nw σ) (nI ii)))) H := hP
        refine lv_aload_n hx hb dX4_withdraw_44 rfl (lv_at hl 1 rfl) ?_
        refine lv_dup hx hb dX4_withdraw_45 rfl ?_
        refine gf_X4_145 C hP ((fset_ne (by decide)).trans ((fset_ne (by decide)).trans hR.1)) rfl rfl dX4_withdraw_46 ?_
        refine lv_iconst (v := nI 1) hx hb dX4_withdraw_49 (by decide) ?_
        refine fw_addN hx hb dX4_withdraw_50 ?_
        refine pf_X4_145 C hP hS rfl rfl ((fset_ne (by decide)).trans ((fset_ne (by decide)).trans hR.1)) rfl (Nat.le_of_ble_eq_true rfl) dX4_withdraw_51 (fun H locs hP hS => ?_)
        have hP : fP Γ (fset (fset (fset w 16 ii (oO 2 [.ref (w.1 11 (s_st σ ii)), .int (nI (s_sp σ ii)), .int (nI (s_sm σ ii)), .ref (w.1 17 ii), .int (b2i true)])) 4 0 (aI 1 400 (upd fW (s_nw σ) (nI ii)))) 0 0 (oO 4 [.int (nI (s_np σ)), .ref (w.1 1 0), .int (nI (s_nr σ)), .ref (w.1 2 0), .int (nI (s_nt σ)), .ref (w.1 3 0), .int (nI (s_ns σ)), .ref (w.1 4 0), .int (nI (s_nw σ + 1)), .ref (w.1 5 0), .ref (w.1 6 0), .long (s_ck σ), .ref (w.1 7 0)])) H := hP
        refine lv_iconst (v := nI 1) hx hb dX4_withdraw_54 (by decide) ?_
        have htt1 := wi_t c_2 (by omega) c_14
        exact fw_reti C hr hlk rfl hP hS (⟨b2i_t htt1, by rw [wi_m htt1 (by omega)]; exact Rc_with hR hii hW1 hW2 rfl, fr_tr (fr_set (by decide)) (fr_tr (fr_set (by decide)) (fr_set (by decide)))⟩) (Nat.le_of_ble_eq_true rfl) (Nat.le_of_ble_eq_true rfl) dX4_withdraw_55
      · refine lv_iconst (v := nI 0) hx hb dX4_withdraw_27 (by decide) ?_
        exact absurd (wi_lt hI hii c_14) (by omega)
theorem di_f {σ : St} {t i : Int32} (h : fIn t (s_nt σ) = false ∨ fIn i (32 + s_cn σ (n_of t)) = false) : a_digest σ t i = -1 := by
  unfold a_digest
  rcases h with h | h
  · rw [h]; rfl
  · rw [h, Bool.and_false]; rfl
theorem di_w {σ : St} {t i : Nat} (h : fIn (nI t) (s_nt σ) = true) (ht : t < 2 ^ 31) (hi : i < 32) : a_digest σ (nI t) (nI i) = ush (s_dg σ t (i / 4)) (nI (24 - 8 * (i % 4))) &&& 255 := by
  unfold a_digest
  rw [h, n_of_nI ht, fIn_N (by omega), decide_eq_true (by omega), n_of_nI (by omega), if_pos hi]
  rfl
theorem di_c {σ : St} {t i : Nat} (h : fIn (nI t) (s_nt σ) = true) (ht : t < 2 ^ 31) (hi : ¬ i < 32) (hc : i - 32 < s_cn σ t) (hi2 : i < 2 ^ 31) : a_digest σ (nI t) (nI i) = nI (s_cm σ t (i - 32)) := by
  unfold a_digest
  rw [h, n_of_nI ht, fIn_N hi2, decide_eq_true (by omega), n_of_nI hi2, if_neg hi]
  rfl
set_option maxHeartbeats 4000000 in
set_option maxRecDepth 100000 in
theorem k_X4_digest (l : Launch) (Γ : FG) (w : FW) (σ : St) (tx ix : Int32) (hI : Inv σ) (hR : Rc σ w) : Met l yX4_digest (ws_ yX4_digest cX4_digest 5 (some .int)) (rmD 9 5 1230) (va_Pc [.ref (w.1 0 0), .int tx, .int ix] (fI Γ w)) (va_Qi (fun r w1 => r = a_digest σ tx ix ∧ Rc σ w1 ∧ fr w w1) (fI Γ) (fA Γ)) 5 1230 (fA Γ) := by
  refine fw_met (by decide) (Nat.le_of_ble_eq_true rfl) ?_
  intro p e s m below meth c ls C hP hS hr hlk hin hl
  have C : fC p s m [.ref (w.1 0 0), .int tx, .int ix].toArray c cX4_digest 5 RX4 Γ := C
  have hx := C.1.1
  have hb := C.1.2.1
  have hl : lv_has ls 5 [(0, .ref (w.1 0 0)), (1, .int tx), (2, .int ix)] := hl
  obtain ⟨⟨hnp, hnr, hnt, hns, hnw, hck0, hck1⟩, hIr, hIt, hIb, hIn, hIs, hIg, hIw, hIa⟩ := id hI
  refine lv_aload_n hx hb dX4_digest_0 rfl (lv_at hl 0 rfl) ?_
  refine lv_iload_n hx hb dX4_digest_1 rfl (lv_at hl 1 rfl) ?_
  refine fw_cq0 (w := w) hS (fw_rV (rest := []) (As := [.int tx]) C hP hS wV_X4_69 (k_X4_thingAt l Γ w σ tx hnt hR.1 hR.2.2.1.1) hR.1 rfl rfl (fRm_mk rfl rfl (Nat.le_of_ble_eq_true rfl) (Nat.le_of_ble_eq_true rfl) (Nat.le_of_ble_eq_true rfl) (Nat.le_of_ble_eq_true rfl) (Nat.le_of_ble_eq_true rfl)) rfl hl.1 rfl dX4_digest_2) (fun H locs hP hS => ?_)
  cases c_2 : fIn tx (s_nt σ) with
  | false =>
    refine fw_Eq (y := .null) rfl ?_
    refine lv_astore_nN (lv' := [(3, .null), (0, .ref (w.1 0 0)), (1, .int tx), (2, .int ix)]) hx hb dX4_digest_5 rfl hl (by decide) rfl (fun ls hl => ?_)
    refine lv_aload_nN hx hb dX4_digest_6 rfl (lv_at hl 0 rfl) ?_
    refine lv_ifnullN (tgt := 14) hx hb dX4_digest_7 (by decide) ?_
    refine lv_iconst (v := (-1)) hx hb dX4_digest_14 (by decide) ?_
    exact fw_reti C hr hlk rfl hP hS (⟨(di_f (Or.inl c_2)).symm, hR, fr_rf w⟩) (Nat.le_of_ble_eq_true rfl) (Nat.le_of_ble_eq_true rfl) dX4_digest_15
  | true =>
    obtain ⟨tt, htt, rfl⟩ := fIn_t c_2 (by omega)
    refine fw_Eq (y := .ref (w.1 11 tt)) (by rw [n_of_nI (by omega)]; rfl) ?_
    obtain ⟨hln, hcn, hdn, hmk, -⟩ := hIt tt
    obtain ⟨bf, df, cf, nf, zf, e11, e12, e13, e14, e15, hbf, hcf, hnf, hzf⟩ := id (hR.2.2.1.2.1 tt htt)
    refine lv_astore_n (lv' := [(3, .ref (w.1 11 tt)), (0, .ref (w.1 0 0)), (1, .int (nI tt)), (2, .int ix)]) hx hb dX4_digest_5 rfl hl (by decide) rfl (fun ls hl => ?_)
    refine lv_aload_n hx hb dX4_digest_6 rfl (lv_at hl 0 rfl) ?_
    refine lv_ifnull hx hb dX4_digest_7 ?_
    refine lv_iload_n hx hb dX4_digest_10 rfl (lv_at hl 3 rfl) ?_
    refine lv_if_ge (tgt := 16) hx hb dX4_digest_11 (by decide) (fun c_11 => ?_) (fun c_11 => ?_)
    · obtain ⟨ii, hii, rfl⟩ := nI_of (Int32.not_lt.mpr c_11)
      refine lv_iload_n hx hb dX4_digest_16 rfl (lv_at hl 3 rfl) ?_
      refine lv_bipush (v := nI 32) hx hb dX4_digest_17 (by decide) ?_
      refine fw_geN (tgt := 46) hx hb (by omega) (by omega) dX4_digest_19 (by decide) (fun c_19 => ?_) (fun c_19 => ?_)
      · refine lv_iload_n hx hb dX4_digest_46 rfl (lv_at hl 3 rfl) ?_
        refine lv_bipush (v := nI 32) hx hb dX4_digest_47 (by decide) ?_
        refine fw_subN hx hb (by omega) dX4_digest_49 ?_
        refine lv_istore (lv' := [(4, .int (nI (ii - 32))), (3, .ref (w.1 11 tt)), (0, .ref (w.1 0 0)), (1, .int (nI tt)), (2, .int (nI ii))]) hx hb dX4_digest_50 hl (by decide) rfl (fun ls hl => ?_)
        refine lv_iload hx hb dX4_digest_52 (lv_at hl 0 rfl) ?_
        refine lv_aload_n hx hb dX4_digest_54 rfl (lv_at hl 1 rfl) ?_
        refine gf_X4_158 C hP e11 rfl rfl dX4_digest_55 ?_
        refine fw_geN (tgt := 69) hx hb (by omega) (by omega) dX4_digest_58 (by decide) (fun c_58 => ?_) (fun c_58 => ?_)
        · refine lv_iconst (v := (-1)) hx hb dX4_digest_69 (by decide) ?_
          exact fw_reti C hr hlk rfl hP hS (⟨(di_f (Or.inr (by rw [n_of_nI (by omega), fIn_N (by omega)]; exact decide_eq_false (by omega)))).symm, hR, fr_rf w⟩) (Nat.le_of_ble_eq_true rfl) (Nat.le_of_ble_eq_true rfl) dX4_digest_70
        · refine lv_iload hx hb dX4_digest_61 (lv_at hl 0 rfl) ?_
          refine lv_sipush (v := nI 200) hx hb dX4_digest_63 (by decide) ?_
          refine fw_ltN (tgt := 71) hx hb (by omega) (by omega) dX4_digest_66 (by decide) (fun c_66 => ?_) (fun c_66 => ?_)
          · refine lv_aload_n hx hb dX4_digest_71 rfl (lv_at hl 1 rfl) ?_
            refine gf_X4_161 C hP e11 rfl rfl dX4_digest_72 ?_
            refine lv_iload hx hb dX4_digest_75 (lv_at hl 0 rfl) ?_
            refine fw_bald C hP e14 rfl (ii - 32) rfl (by omega) (by decide) dX4_digest_77 ?_
            refine lv_sipush (v := nI 255) hx hb dX4_digest_78 (by decide) ?_
            refine lv_iand hx hb dX4_digest_81 ?_
            have hcc := hcf (ii - 32) (by omega)
            exact fw_reti C hr hlk rfl hP hS (⟨hcc.trans (di_c c_2 (by omega) (by omega) (by omega) hii).symm, hR, fr_rf w⟩) (Nat.le_of_ble_eq_true rfl) (Nat.le_of_ble_eq_true rfl) dX4_digest_82
          · refine lv_iconst (v := (-1)) hx hb dX4_digest_69 (by decide) ?_
            exact absurd c_66 (by omega)
      · refine lv_aload_n hx hb dX4_digest_22 rfl (lv_at hl 1 rfl) ?_
        refine lv_aload_n hx hb dX4_digest_23 rfl (lv_at hl 0 rfl) ?_
        refine fw_cq hS (fw_rV (rest := []) (As := [.ref (w.1 11 tt)]) C hP hS wV_X4_119 (k_X4_digestWordsOf l Γ w σ tt hR.1 hR.2.2.2.2.2.2 (hR.2.2.1.2.1 tt htt) hln) hR.1 rfl rfl (fRm_mk rfl rfl (Nat.le_of_ble_eq_true rfl) (Nat.le_of_ble_eq_true rfl) (Nat.le_of_ble_eq_true rfl) (Nat.le_of_ble_eq_true rfl) (Nat.le_of_ble_eq_true rfl)) rfl hl.1 rfl dX4_digest_24) (fun r1 w1 H locs hp hP hS => ?_)
        obtain ⟨ad1, u1⟩ := w1
        obtain ⟨rfl, ha1, hk1, hlv1, hH1, hT1, d1, hd1, hdd1⟩ := hp
        have ha1 : ad1 = w.1 := ha1
        subst ha1
        have hR1 : Rc σ (w.1, u1) := Rc_dig (t := tt) hR rfl hk1 hH1 htt hT1
        have hf1 : frd w (w.1, u1) := ⟨rfl, fun k i2 q => hk1 k i2 (by omega), hlv1⟩
        refine fw_Eq (y := .ref (w.1 13 tt)) rfl ?_
        refine lv_iload_n hx hb dX4_digest_27 rfl (lv_at hl 3 rfl) ?_
        refine lv_iconst (v := nI 4) hx hb dX4_digest_28 (by decide) ?_
        refine fw_divN hx hb (by omega) (by omega) (by omega) dX4_digest_29 ?_
        refine fw_iald C hP hd1 rfl (ii / 4) rfl (by omega) (by decide) dX4_digest_30 ?_
        refine fw_E (show d1 (ii / 4) = s_dg σ tt (ii / 4) from hdd1 (ii / 4) (by omega)) ?_
        refine lv_bipush (v := nI 24) hx hb dX4_digest_31 (by decide) ?_
        refine lv_bipush (v := nI 8) hx hb dX4_digest_33 (by decide) ?_
        refine lv_iload_n hx hb dX4_digest_35 rfl (lv_at hl 3 rfl) ?_
        refine lv_iconst (v := nI 4) hx hb dX4_digest_36 (by decide) ?_
        refine fw_remN hx hb (by omega) (by omega) (by omega) dX4_digest_37 ?_
        refine fw_mulN hx hb dX4_digest_38 ?_
        refine fw_subN hx hb (by omega) dX4_digest_39 ?_
        refine lv_iushr (v := ush (s_dg σ tt (ii / 4)) (nI (24 - (8 * (ii % 4))))) hx hb dX4_digest_40 rfl ?_
        refine lv_sipush (v := nI 255) hx hb dX4_digest_41 (by decide) ?_
        refine lv_iand hx hb dX4_digest_44 ?_
        exact fw_reti C hr hlk rfl hP hS (⟨(di_w c_2 (by omega) (by omega)).symm, hR1, frd_fr hf1⟩) (Nat.le_of_ble_eq_true rfl) (Nat.le_of_ble_eq_true rfl) dX4_digest_45
    · refine lv_iconst (v := (-1)) hx hb dX4_digest_14 (by decide) ?_
      exact fw_reti C hr hlk rfl hP hS (⟨(di_f (Or.inr (fIn_lt (Int32.not_le.mp c_11)))).symm, hR, fr_rf w⟩) (Nat.le_of_ble_eq_true rfl) (Nat.le_of_ble_eq_true rfl) dX4_digest_15
theorem cp_f {σ : St} {t : Int32} (h : fIn t (s_nt σ) = false) : a_complete σ t = -1 := by rw [a_complete, h]; rfl
theorem cp_t {σ : St} {t : Nat} (h : fIn (nI t) (s_nt σ) = true) (ht : t < 2 ^ 31) : a_complete σ (nI t) = s_cp σ t (s_dn σ t) 0 := by rw [a_complete, h, n_of_nI ht]; rfl
theorem cp_s {σ : St} {t n k : Nat} (h : s_hs σ t (s_nd σ t k) none (s_ns σ) = true) (hn : 0 < n) : s_cp σ t n k = s_cp σ t (n - 1) (k + 1) := by
  obtain ⟨d, rfl⟩ : ∃ d, n = d + 1 := ⟨n - 1, by omega⟩
  rw [s_cp, if_pos h]
  rfl
theorem cp_e {σ : St} {t n k : Nat} (h : s_hs σ t (s_nd σ t k) none (s_ns σ) = false) (hn : 0 < n) : s_cp σ t n k = nI (1 + k) := by
  obtain ⟨d, rfl⟩ : ∃ d, n = d + 1 := ⟨n - 1, by omega⟩
  rw [s_cp, if_neg (by rw [h]; decide)]
set_option maxHeartbeats 4000000 in
set_option maxRecDepth 100000 in
theorem k_X4_complete (l : Launch) (Γ : FG) (w : FW) (σ : St) (tx : Int32) (hI : Inv σ) (hR : Rc σ w) : Met l yX4_complete (ws_ yX4_complete cX4_complete 5 (some .int)) (rmD 9 5 1230) (va_Pc [.ref (w.1 0 0), .int tx] (fI Γ w)) (va_Qi (fun r w1 => r = a_complete σ tx ∧ Rc σ w1 ∧ fr w w1) (fI Γ) (fA Γ)) 5 1230 (fA Γ) := by
  refine fw_met (by decide) (Nat.le_of_ble_eq_true rfl) ?_
  intro p e s m below meth c ls C hP hS hr hlk hin hl
  have C : fC p s m [.ref (w.1 0 0), .int tx].toArray c cX4_complete 5 RX4 Γ := C
  have hx := C.1.1
  have hb := C.1.2.1
  have hl : lv_has ls 5 [(0, .ref (w.1 0 0)), (1, .int tx)] := hl
  obtain ⟨⟨hnp, hnr, hnt, hns, hnw, hck0, hck1⟩, hIr, hIt, hIb, hIn, hIs, hIg, hIw, hIa⟩ := id hI
  refine lv_aload_n hx hb dX4_complete_0 rfl (lv_at hl 0 rfl) ?_
  refine lv_iload_n hx hb dX4_complete_1 rfl (lv_at hl 1 rfl) ?_
  refine fw_cq0 (w := w) hS (fw_rV (rest := []) (As := [.int tx]) C hP hS wV_X4_69 (k_X4_thingAt l Γ w σ tx hnt hR.1 hR.2.2.1.1) hR.1 rfl rfl (fRm_mk rfl rfl (Nat.le_of_ble_eq_true rfl) (Nat.le_of_ble_eq_true rfl) (Nat.le_of_ble_eq_true rfl) (Nat.le_of_ble_eq_true rfl) (Nat.le_of_ble_eq_true rfl)) rfl hl.1 rfl dX4_complete_2) (fun H locs hP hS => ?_)
  cases c_2 : fIn tx (s_nt σ) with
  | false =>
    refine fw_Eq (y := .null) rfl ?_
    refine lv_astore_nN (lv' := [(2, .null), (0, .ref (w.1 0 0)), (1, .int tx)]) hx hb dX4_complete_5 rfl hl (by decide) rfl (fun ls hl => ?_)
    refine lv_aload_nN hx hb dX4_complete_6 rfl (lv_at hl 0 rfl) ?_
    refine lv_ifnonnullN hx hb dX4_complete_7 ?_
    refine lv_iconst (v := (-1)) hx hb dX4_complete_10 (by decide) ?_
    exact fw_reti C hr hlk rfl hP hS (⟨(cp_f c_2).symm, hR, fr_rf w⟩) (Nat.le_of_ble_eq_true rfl) (Nat.le_of_ble_eq_true rfl) dX4_complete_11
  | true =>
    obtain ⟨tt, htt, rfl⟩ := fIn_t c_2 (by omega)
    refine fw_Eq (y := .ref (w.1 11 tt)) (by rw [n_of_nI (by omega)]; rfl) ?_
    obtain ⟨hln, hcn, hdn, hmk, -⟩ := hIt tt
    obtain ⟨bf, df, cf, nf, zf, e11, e12, e13, e14, e15, hbf, hcf, hnf, hzf⟩ := id (hR.2.2.1.2.1 tt htt)
    refine lv_astore_n (lv' := [(2, .ref (w.1 11 tt)), (0, .ref (w.1 0 0)), (1, .int (nI tt))]) hx hb dX4_complete_5 rfl hl (by decide) rfl (fun ls hl => ?_)
    refine lv_aload_n hx hb dX4_complete_6 rfl (lv_at hl 0 rfl) ?_
    refine lv_ifnonnull (tgt := 12) hx hb dX4_complete_7 (by decide) ?_
    refine lv_aload_n hx hb dX4_complete_12 rfl (lv_at hl 1 rfl) ?_
    refine lv_aload_n hx hb dX4_complete_13 rfl (lv_at hl 0 rfl) ?_
    refine fw_ci hS (fw_rV (rest := []) (As := [.ref (w.1 11 tt)]) C hP hS wV_X4_105 (k_X4_meaningsThatHold l Γ w σ tt hI hR htt) hR.1 rfl rfl (fRm_mk rfl rfl (Nat.le_of_ble_eq_true rfl) (Nat.le_of_ble_eq_true rfl) (Nat.le_of_ble_eq_true rfl) (Nat.le_of_ble_eq_true rfl) (Nat.le_of_ble_eq_true rfl)) rfl hl.1 rfl dX4_complete_14) (fun r1 w1 H locs hp hP hS => ?_)
    obtain ⟨ad1, u1⟩ := w1
    obtain ⟨rfl, hR1, hf1⟩ := hp
    have ha1 : ad1 = w.1 := hf1.1
    subst ha1
    obtain ⟨bf, df, cf, nf, zf, e11, e12, e13, e14, e15, hbf, hcf, hnf, hzf⟩ := id (hR1.2.2.1.2.1 tt htt)
    refine lv_topi (fun x3_17 e_x3_17 => ?_)
    refine lv_istore_n (lv' := [(3, .int x3_17), (2, .ref (w.1 11 tt)), (0, .ref (w.1 0 0)), (1, .int (nI tt))]) hx hb dX4_complete_17 rfl hl (by decide) rfl (fun ls hl => ?_)
    refine lv_iconst (v := nI 0) hx hb dX4_complete_18 (by decide) ?_
    refine lv_istore (lv' := [(4, .int (nI 0)), (3, .int x3_17), (2, .ref (w.1 11 tt)), (0, .ref (w.1 0 0)), (1, .int (nI tt))]) hx hb dX4_complete_19 hl (by decide) rfl (fun ls hl => ?_)
    refine W.widen (k := 0) (n := 0) (Nat.le_of_ble_eq_true rfl) (Nat.le_of_ble_eq_true rfl) ?_
    have loop : ∀ (fu : Nat) (i : Nat) (H : Heap) (locs : List Loc) (ls : Array Slot), 11 - i < fu → (i ≤ s_dn σ tt) → (s_cp σ tt (s_dn σ tt) 0 = s_cp σ tt (s_dn σ tt - i) i) → fP Γ (w.1, u1) H → va_S (fA Γ) s.heap H locs → lv_has ls 5 [(4, .int (nI i)), (3, .int x3_17), (2, .ref (w.1 11 tt)), (0, .ref (w.1 0 0)), (1, .int (nI tt))] → W p l e (rmD 9 5 1230) s m [.ref (w.1 0 0), .int (nI tt)].toArray below meth c H locs 0 0 (MQ below (va_Qi (fun r w1 => r = a_complete σ (nI tt) ∧ Rc σ w1 ∧ fr w w1) (fI Γ) (fA Γ)) [.ref (w.1 0 0), .int (nI tt)].toArray s 5 1230 (fA Γ)) (F0 m 21 ls []) := by
      intro fu
      induction fu with
      | zero =>
        intro i H locs ls hf
        exact absurd hf (Nat.not_lt_zero _)
      | succ fu ih =>
        intro i H locs ls hf hi hz hP hS hl
        have hnd9 := (hIb tt i).2.2
        refine lv_iload hx hb dX4_complete_21 (lv_at hl 0 rfl) ?_
        refine lv_bipush (v := nI 10) hx hb dX4_complete_23 (by decide) ?_
        refine fw_geN (tgt := 62) hx hb (by omega) (by omega) dX4_complete_25 (by decide) (fun c_25 => ?_) (fun c_25 => ?_)
        · refine lv_iconst (v := nI 0) hx hb dX4_complete_62 (by decide) ?_
          exact fw_reti C hr hlk rfl hP hS (⟨by rw [cp_t c_2 (by omega), hz, (by omega : s_dn σ tt - i = 0)]; rfl, hR1, frd_fr hf1⟩) (Nat.le_of_ble_eq_true rfl) (Nat.le_of_ble_eq_true rfl) dX4_complete_63
        · refine lv_iload hx hb dX4_complete_28 (lv_at hl 0 rfl) ?_
          refine lv_aload_n hx hb dX4_complete_30 rfl (lv_at hl 2 rfl) ?_
          refine gf_X4_152 C hP e11 rfl rfl dX4_complete_31 ?_
          refine fw_geN (tgt := 62) hx hb (by omega) (by omega) dX4_complete_34 (by decide) (fun c_34 => ?_) (fun c_34 => ?_)
          · refine lv_iconst (v := nI 0) hx hb dX4_complete_62 (by decide) ?_
            exact fw_reti C hr hlk rfl hP hS (⟨by rw [cp_t c_2 (by omega), hz, (by omega : s_dn σ tt - i = 0)]; rfl, hR1, frd_fr hf1⟩) (Nat.le_of_ble_eq_true rfl) (Nat.le_of_ble_eq_true rfl) dX4_complete_63
          · refine lv_iload_n hx hb dX4_complete_37 rfl (lv_at hl 1 rfl) ?_
            refine lv_aload_n hx hb dX4_complete_38 rfl (lv_at hl 2 rfl) ?_
            refine gf_X4_155 C hP e11 rfl rfl dX4_complete_39 ?_
            refine lv_iload hx hb dX4_complete_42 (lv_at hl 0 rfl) ?_
            refine fw_iald C hP e15 rfl i rfl (by omega) (by decide) dX4_complete_44 ?_
            refine fw_E (show nf i = nI (s_nd σ tt i) from hnf i (by omega)) ?_
            refine fw_ci0 (w := (w.1, u1)) hS (fw_rS (rest := []) (As := [.int x3_17, .int (nI (s_nd σ tt i))]) C hP hS wS_X4_148 (k_X4_hasBit l Γ (w.1, u1) x3_17 (nI (s_nd σ tt i))) (fRm_mk rfl rfl (Nat.le_of_ble_eq_true rfl) (Nat.le_of_ble_eq_true rfl) (Nat.le_of_ble_eq_true rfl) (Nat.le_of_ble_eq_true rfl) (Nat.le_of_ble_eq_true rfl)) rfl hl.1 rfl dX4_complete_45) (fun H locs hP hS => ?_)
            refine fw_ineB (tgt := 56) hx hb dX4_complete_48 (by decide) (fun c_48 => ?_) (fun c_48 => ?_)
            · refine lv_iinc (v := nI (i + 1)) (lv' := [(4, .int (nI (i + 1))), (3, .int x3_17), (2, .ref (w.1 11 tt)), (0, .ref (w.1 0 0)), (1, .int (nI tt))]) hx hb dX4_complete_56 hl (k := 0) rfl (by rw [show Int32.ofInt 1 = nI 1 from rfl, nI_add]) (by decide) rfl (fun ls hl => ?_)
              refine lv_goto (tgt := 21) hx hb dX4_complete_59 (by decide) ?_
              refine W.widen (k := 0) (n := 0) (Nat.le_of_ble_eq_true rfl) (Nat.le_of_ble_eq_true rfl) ?_
              exact ih (i + 1) H locs ls (by omega) (by omega) (by rw [hz, cp_s (by rw [← c_48, e_x3_17, hbt_msk hnd9]) (by omega)]; rfl) hP hS (lv_sub hl [0, 1, 2, 3, 4] rfl)
            · refine lv_iconst (v := nI 1) hx hb dX4_complete_51 (by decide) ?_
              refine lv_iload hx hb dX4_complete_52 (lv_at hl 0 rfl) ?_
              refine fw_addN hx hb dX4_complete_54 ?_
              exact fw_reti C hr hlk rfl hP hS (⟨by rw [cp_t c_2 (by omega), hz, cp_e (by rw [← c_48, e_x3_17, hbt_msk hnd9]) (by omega)], hR1, frd_fr hf1⟩) (Nat.le_of_ble_eq_true rfl) (Nat.le_of_ble_eq_true rfl) dX4_complete_55
    exact loop 12 0 _ _ _ (by omega) (by omega) rfl hP hS (lv_sub hl [0, 1, 2, 3, 4] rfl)
theorem or_f {σ : St} {m a : Int32} (h : fIn m 10 = false ∨ fIn a 10 = false ∨ m = a ∨ s_bh σ (n_of m) (n_of a) = true ∨ cmx (s_bh σ) 10 (n_of a) (n_of m) = true) : a_order σ m a = false := by
  unfold a_order
  rcases h with h | h | h | h | h
  · rw [h]; rfl
  · rw [h, Bool.and_false]; rfl
  · rw [show decide (m ≠ a) = false from decide_eq_false (fun q => q h), Bool.and_false]; rfl
  · rw [h]; simp
  · rw [h]; simp
theorem or_n {σ : St} {m a : Int32} (h : a_order σ m a = false) : n_order σ m a = σ := by rw [n_order, h]; rfl
theorem or_t {σ : St} {m a : Nat} (h1 : fIn (nI m) 10 = true) (h2 : fIn (nI a) 10 = true) (hm : m < 10) (ha : a < 10) (hne : m ≠ a) (h3 : s_bh σ m a = false) (h4 : cmx (s_bh σ) 10 a m = false) : a_order σ (nI m) (nI a) = true := by
  unfold a_order
  rw [h1, h2, show decide (nI m ≠ nI a) = true from decide_eq_true (fun q => hne ((nI_eq (by omega) (by omega)).mp q)), n_of_nI (by omega), n_of_nI (by omega), h3, h4]
  rfl
theorem or_m {σ : St} {m a : Nat} (h : a_order σ (nI m) (nI a) = true) (hm : m < 2 ^ 31) (ha : a < 2 ^ 31) : n_order σ (nI m) (nI a) = (σ.1, σ.2.1, σ.2.2.1, σ.2.2.2.1, f2 (s_bh σ) m a true) := by
  rw [n_order, h, n_of_nI hm, n_of_nI ha]
  rfl
theorem or_upd {bh : Nat → Nat → Bool} {u v i : Nat} {x : Int32} (hu : u < 10) (hv : v < 10) (hne : u ≠ v) (ha : ∀ m, m < 10 → ∀ k, cmx bh k m m = false) (hn : cmx bh 10 v u = false) (hi : i < 10) (hc : i = u ∨ cmx bh 10 i u = true) (hx : x = msk (fun b => cmx bh 10 v b) 10 ||| ((1 : Int32) <<< (nI v &&& 31))) : msk (fun b => cmx bh 10 i b) 10 ||| x = msk (fun b => cmx (f2 bh u v true) 10 i b) 10 := by
  rw [hx, msk_or hv, msk_orm]
  refine msk_congr fun b _ => ?_
  rw [or_new hu hv hne ha hn hi]
  have hc2 : (decide (i = u) || cmx bh 10 i u) = true := by
    rcases hc with hc | hc
    · rw [decide_eq_true hc]; rfl
    · rw [hc, Bool.or_true]
  rw [hc2]
  unfold va_up
  by_cases e : b = v
  · rw [if_pos e, decide_eq_true e]; simp
  · rw [if_neg e, decide_eq_false e]; simp
theorem or_keep {bh : Nat → Nat → Bool} {u v i : Nat} (hu : u < 10) (hv : v < 10) (hne : u ≠ v) (ha : ∀ m, m < 10 → ∀ k, cmx bh k m m = false) (hn : cmx bh 10 v u = false) (hi : i < 10) (h1 : i ≠ u) (h2 : cmx bh 10 i u = false) : msk (fun b => cmx bh 10 i b) 10 = msk (fun b => cmx (f2 bh u v true) 10 i b) 10 := by
  refine msk_congr fun b _ => ?_
  rw [or_new hu hv hne ha hn hi, decide_eq_false h1, h2]
  simp
theorem or_s1 {P Q2 z : Nat → Int32} {i : Nat} {v : Int32} (h1 : ∀ j, j < i → z j = P j) (h2 : ∀ j, i ≤ j → j < 10 → z j = Q2 j) (hv : v = P i) : (∀ j, j < i + 1 → upd z i v j = P j) ∧ ∀ j, i + 1 ≤ j → j < 10 → upd z i v j = Q2 j := by
  refine ⟨up_s h1 hv, fun j a b => ?_⟩
  unfold upd
  rw [if_neg (by omega)]
  exact h2 j (by omega) b
theorem or_s2 {P Q2 z : Nat → Int32} {i : Nat} (hi : i < 10) (h1 : ∀ j, j < i → z j = P j) (h2 : ∀ j, i ≤ j → j < 10 → z j = Q2 j) (hv : Q2 i = P i) : (∀ j, j < i + 1 → z j = P j) ∧ ∀ j, i + 1 ≤ j → j < 10 → z j = Q2 j := by
  refine ⟨fun j hj => ?_, fun j a b => h2 j (by omega) b⟩
  by_cases e : j = i
  · rw [e, h2 i (Nat.le_refl _) hi, hv]
  · exact h1 j (by omega)
theorem Rc_ord {σ : St} {w : FW} {u v : Nat} {tb z : Nat → Int32} (hR : Rc σ w) (hu : u < 10) (hv : v < 10) (htb : ∀ m, m < 10 → tb m = msk (s_bh σ m) 10) (hz : ∀ m, m < 10 → z m = msk (fun b => cmx (f2 (s_bh σ) u v true) 10 m b) 10) {σ1 : St} (e : σ1 = (σ.1, σ.2.1, σ.2.2.1, σ.2.2.2.1, f2 (s_bh σ) u v true)) : Rc σ1 (fset (fset w 5 0 (aI 1 10 (upd tb u (msk (s_bh σ u) 10 ||| ((1 : Int32) <<< (nI v &&& 31)))))) 6 0 (aI 1 10 z)) := by
  obtain ⟨r0, r1, r2, r3, r4, r5, r6⟩ := hR
  have s : ∀ k, k ≠ 5 → k ≠ 6 → sk k w (fset (fset w 5 0 (aI 1 10 (upd tb u (msk (s_bh σ u) 10 ||| ((1 : Int32) <<< (nI v &&& 31)))))) 6 0 (aI 1 10 z)) := fun k h5 h6 => sk_set (sk_set sk_rf h5) h6
  refine ⟨?_, ?_, ?_, ?_, ?_, ⟨_, z, (fset_ne (by decide)).trans fset_at, fset_at, fun m hm => ?_, fun m hm => by subst e; exact hz m hm⟩, RcH_c r6 (s 7 (by decide) (by decide)) (s 8 (by decide) (by decide)) (s 9 (by decide) (by decide))⟩
  · subst e; exact (s 0 (by decide) (by decide) 0).1.trans r0
  · subst e; exact RcR_c (σ := σ) r1 (s 1 (by decide) (by decide)) (s 10 (by decide) (by decide))
  · subst e; exact RcT_c (σ := σ) r2 (s 2 (by decide) (by decide)) (s 11 (by decide) (by decide)) (s 12 (by decide) (by decide)) (s 13 (by decide) (by decide)) (s 14 (by decide) (by decide)) (s 15 (by decide) (by decide))
  · subst e; exact RcS_c (σ := σ) r3 (s 3 (by decide) (by decide)) (s 16 (by decide) (by decide)) (s 17 (by decide) (by decide)) (fun _ _ => rfl)
  · subst e; exact RcW_c (σ := σ) r4 (s 4 (by decide) (by decide))
  · subst e
    show upd tb u _ m = msk (f2 (s_bh σ) u v true m) 10
    unfold upd
    by_cases h : m = u
    · rw [if_pos h, h, f2_row, msk_or hv]
    · rw [if_neg h, f2_oth h]; exact htb m hm
set_option maxHeartbeats 4000000 in
set_option maxRecDepth 100000 in
theorem k_X4_order (l : Launch) (Γ : FG) (w : FW) (σ : St) (mx ax : Int32) (hI : Inv σ) (hR : Rc σ w) : Met l yX4_order (ws_ yX4_order cX4_order 5 (some .boolean)) (rmD 9 5 1230) (va_Pc [.ref (w.1 0 0), .int mx, .int ax] (fI Γ w)) (va_Qi (fun r w1 => r = b2i (a_order σ mx ax) ∧ Rc (n_order σ mx ax) w1 ∧ fr w w1) (fI Γ) (fA Γ)) 5 1230 (fA Γ) := by
  refine fw_met (by decide) (Nat.le_of_ble_eq_true rfl) ?_
  intro p e s m below meth c ls C hP hS hr hlk hin hl
  have C : fC p s m [.ref (w.1 0 0), .int mx, .int ax].toArray c cX4_order 5 RX4 Γ := C
  have hx := C.1.1
  have hb := C.1.2.1
  have hl : lv_has ls 5 [(0, .ref (w.1 0 0)), (1, .int mx), (2, .int ax)] := hl
  obtain ⟨⟨hnp, hnr, hnt, hns, hnw, hck0, hck1⟩, hIr, hIt, hIb, hIn, hIs, hIg, hIw, hIa⟩ := id hI
  obtain ⟨tb, eb, hO1, hO2, hO3, hO4⟩ := id hR.2.2.2.2.2.1
  refine lv_iload_n hx hb dX4_order_0 rfl (lv_at hl 1 rfl) ?_
  refine fw_ci0 (w := w) hS (fw_rS (rest := []) (As := [.int mx]) C hP hS wS_X4_52 (k_X4_isMeaning l Γ w mx) (fRm_mk rfl rfl (Nat.le_of_ble_eq_true rfl) (Nat.le_of_ble_eq_true rfl) (Nat.le_of_ble_eq_true rfl) (Nat.le_of_ble_eq_true rfl) (Nat.le_of_ble_eq_true rfl)) rfl hl.1 rfl dX4_order_1) (fun H locs hP hS => ?_)
  refine fw_ieqB (tgt := 19) hx hb dX4_order_4 (by decide) (fun c_4 => ?_) (fun c_4 => ?_)
  · refine lv_iconst (v := nI 0) hx hb dX4_order_19 (by decide) ?_
    exact fw_reti C hr hlk rfl hP hS (⟨b2i_f (or_f (Or.inl c_4)), by rw [or_n (or_f (Or.inl c_4))]; exact hR, fr_rf w⟩) (Nat.le_of_ble_eq_true rfl) (Nat.le_of_ble_eq_true rfl) dX4_order_20
  · obtain ⟨mm, hmm, rfl⟩ := fIn_t c_4 (by omega)
    refine lv_iload_n hx hb dX4_order_7 rfl (lv_at hl 2 rfl) ?_
    refine fw_ci0 (w := w) hS (fw_rS (rest := []) (As := [.int ax]) C hP hS wS_X4_52 (k_X4_isMeaning l Γ w ax) (fRm_mk rfl rfl (Nat.le_of_ble_eq_true rfl) (Nat.le_of_ble_eq_true rfl) (Nat.le_of_ble_eq_true rfl) (Nat.le_of_ble_eq_true rfl) (Nat.le_of_ble_eq_true rfl)) rfl hl.1 rfl dX4_order_8) (fun H locs hP hS => ?_)
    refine fw_ieqB (tgt := 19) hx hb dX4_order_11 (by decide) (fun c_11 => ?_) (fun c_11 => ?_)
    · refine lv_iconst (v := nI 0) hx hb dX4_order_19 (by decide) ?_
      exact fw_reti C hr hlk rfl hP hS (⟨b2i_f (or_f (Or.inr (Or.inl c_11))), by rw [or_n (or_f (Or.inr (Or.inl c_11)))]; exact hR, fr_rf w⟩) (Nat.le_of_ble_eq_true rfl) (Nat.le_of_ble_eq_true rfl) dX4_order_20
    · obtain ⟨aa, haa, rfl⟩ := fIn_t c_11 (by omega)
      refine lv_iload_n hx hb dX4_order_14 rfl (lv_at hl 1 rfl) ?_
      refine lv_iload_n hx hb dX4_order_15 rfl (lv_at hl 2 rfl) ?_
      refine fw_neN (tgt := 21) hx hb (by omega) (by omega) dX4_order_16 (by decide) (fun c_16 => ?_) (fun c_16 => ?_)
      · refine lv_aload_n hx hb dX4_order_21 rfl (lv_at hl 0 rfl) ?_
        refine gf_X4_31 C hP hR.1 rfl rfl dX4_order_22 ?_
        refine lv_iload_n hx hb dX4_order_25 rfl (lv_at hl 1 rfl) ?_
        refine fw_iald C hP hO1 rfl mm rfl (by omega) (by decide) dX4_order_26 ?_
        refine fw_E (show tb mm = msk (s_bh σ mm) 10 from hO3 mm (by omega)) ?_
        refine lv_iload_n hx hb dX4_order_27 rfl (lv_at hl 2 rfl) ?_
        refine fw_ci0 (w := w) hS (fw_rS (rest := []) (As := [.int (msk (s_bh σ mm) 10), .int (nI aa)]) C hP hS wS_X4_148 (k_X4_hasBit l Γ w (msk (s_bh σ mm) 10) (nI aa)) (fRm_mk rfl rfl (Nat.le_of_ble_eq_true rfl) (Nat.le_of_ble_eq_true rfl) (Nat.le_of_ble_eq_true rfl) (Nat.le_of_ble_eq_true rfl) (Nat.le_of_ble_eq_true rfl)) rfl hl.1 rfl dX4_order_28) (fun H locs hP hS => ?_)
        refine fw_ineB (tgt := 47) hx hb dX4_order_31 (by decide) (fun c_31 => ?_) (fun c_31 => ?_)
        · refine lv_iconst (v := nI 0) hx hb dX4_order_47 (by decide) ?_
          exact fw_reti C hr hlk rfl hP hS (⟨b2i_f (or_f (Or.inr (Or.inr (Or.inr (Or.inl (by rw [n_of_nI (by omega), n_of_nI (by omega), ← c_31]; exact (hbt_msk haa).symm)))))), by rw [or_n (or_f (Or.inr (Or.inr (Or.inr (Or.inl (by rw [n_of_nI (by omega), n_of_nI (by omega), ← c_31]; exact (hbt_msk haa).symm))))))]; exact hR, fr_rf w⟩) (Nat.le_of_ble_eq_true rfl) (Nat.le_of_ble_eq_true rfl) dX4_order_48
        · refine lv_aload_n hx hb dX4_order_34 rfl (lv_at hl 0 rfl) ?_
          refine gf_X4_34 C hP hR.1 rfl rfl dX4_order_35 ?_
          refine lv_iload_n hx hb dX4_order_38 rfl (lv_at hl 2 rfl) ?_
          refine fw_iald C hP hO2 rfl aa rfl (by omega) (by decide) dX4_order_39 ?_
          refine fw_E (show eb aa = msk (fun b => cmx (s_bh σ) 10 aa b) 10 from hO4 aa (by omega)) ?_
          refine lv_iload_n hx hb dX4_order_40 rfl (lv_at hl 1 rfl) ?_
          refine fw_ci0 (w := w) hS (fw_rS (rest := []) (As := [.int (msk (fun b => cmx (s_bh σ) 10 aa b) 10), .int (nI mm)]) C hP hS wS_X4_148 (k_X4_hasBit l Γ w (msk (fun b => cmx (s_bh σ) 10 aa b) 10) (nI mm)) (fRm_mk rfl rfl (Nat.le_of_ble_eq_true rfl) (Nat.le_of_ble_eq_true rfl) (Nat.le_of_ble_eq_true rfl) (Nat.le_of_ble_eq_true rfl) (Nat.le_of_ble_eq_true rfl)) rfl hl.1 rfl dX4_order_41) (fun H locs hP hS => ?_)
          refine fw_ieqB (tgt := 49) hx hb dX4_order_44 (by decide) (fun c_44 => ?_) (fun c_44 => ?_)
          · refine lv_aload_n hx hb dX4_order_49 rfl (lv_at hl 0 rfl) ?_
            refine gf_X4_31 C hP hR.1 rfl rfl dX4_order_50 ?_
            refine lv_iload_n hx hb dX4_order_53 rfl (lv_at hl 1 rfl) ?_
            refine lv_dup2_11 hx hb dX4_order_54 rfl rfl ?_
            refine fw_iald C hP hO1 rfl mm rfl (by omega) (by decide) dX4_order_55 ?_
            refine fw_E (show tb mm = msk (s_bh σ mm) 10 from hO3 mm (by omega)) ?_
            refine lv_iconst (v := 1) hx hb dX4_order_56 (by decide) ?_
            refine lv_iload_n hx hb dX4_order_57 rfl (lv_at hl 2 rfl) ?_
            refine lv_ishl hx hb dX4_order_58 ?_
            refine lv_ior hx hb dX4_order_59 ?_
            refine fw_iast C hP hS hO1 rfl mm rfl (by omega) (by decide) dX4_order_60 (fun H locs hP hS => ?_)
            have hP : fP Γ (fset w 5 0 (aI 1 10 (upd tb mm ((msk (s_bh σ mm) 10) ||| (1 <<< ((nI aa) &&& 31)))))) H := hP
            refine lv_aload_n hx hb dX4_order_61 rfl (lv_at hl 0 rfl) ?_
            refine gf_X4_34 C hP ((fset_ne (by decide)).trans hR.1) rfl rfl dX4_order_62 ?_
            refine lv_iload_n hx hb dX4_order_65 rfl (lv_at hl 2 rfl) ?_
            refine fw_iald C hP ((fset_ne (by decide)).trans hO2) rfl aa rfl (by omega) (by decide) dX4_order_66 ?_
            refine fw_E (show eb aa = msk (fun b => cmx (s_bh σ) 10 aa b) 10 from hO4 aa (by omega)) ?_
            refine lv_iconst (v := 1) hx hb dX4_order_67 (by decide) ?_
            refine lv_iload_n hx hb dX4_order_68 rfl (lv_at hl 2 rfl) ?_
            refine lv_ishl hx hb dX4_order_69 ?_
            refine lv_ior hx hb dX4_order_70 ?_
            refine lv_topi (fun x3_71 e_x3_71 => ?_)
            refine lv_istore_n (lv' := [(3, .int x3_71), (0, .ref (w.1 0 0)), (1, .int (nI mm)), (2, .int (nI aa))]) hx hb dX4_order_71 rfl hl (by decide) rfl (fun ls hl => ?_)
            refine lv_iconst (v := nI 0) hx hb dX4_order_72 (by decide) ?_
            refine lv_istore (lv' := [(4, .int (nI 0)), (3, .int x3_71), (0, .ref (w.1 0 0)), (1, .int (nI mm)), (2, .int (nI aa))]) hx hb dX4_order_73 hl (by decide) rfl (fun ls hl => ?_)
            have c_31 : s_bh σ mm aa = false := by rw [← c_31]; exact (hbt_msk haa).symm
            have c_44 : cmx (s_bh σ) 10 aa mm = false := by rw [← c_44]; exact (hbt_msk hmm).symm
            have hP : fP Γ (fset (fset w 5 0 (aI 1 10 (upd tb mm ((msk (s_bh σ mm) 10) ||| (1 <<< ((nI aa) &&& 31)))))) 6 0 (aI 1 10 eb)) H := by rw [fset_id (((fset_ne (by decide)).trans hO2))]; exact hP
            refine W.widen (k := 0) (n := 0) (Nat.le_of_ble_eq_true rfl) (Nat.le_of_ble_eq_true rfl) ?_
            have loop : ∀ (fu : Nat) (i : Nat) (z : Nat → Int32) (H : Heap) (locs : List Loc) (ls : Array Slot), 10 - i < fu → (i ≤ 10) → (∀ m, m < i → z m = msk (fun b => cmx (f2 (s_bh σ) mm aa true) 10 m b) 10) → (∀ m, i ≤ m → m < 10 → z m = msk (fun b => cmx (s_bh σ) 10 m b) 10) → fP Γ (fset (fset w 5 0 (aI 1 10 (upd tb mm ((msk (s_bh σ mm) 10) ||| (1 <<< ((nI aa) &&& 31)))))) 6 0 (aI 1 10 z)) H → va_S (fA Γ) s.heap H locs → lv_has ls 5 [(4, .int (nI i)), (3, .int x3_71), (0, .ref (w.1 0 0)), (1, .int (nI mm)), (2, .int (nI aa))] → W p l e (rmD 9 5 1230) s m [.ref (w.1 0 0), .int (nI mm), .int (nI aa)].toArray below meth c H locs 0 0 (MQ below (va_Qi (fun r w1 => r = b2i (a_order σ (nI mm) (nI aa)) ∧ Rc (n_order σ (nI mm) (nI aa)) w1 ∧ fr w w1) (fI Γ) (fA Γ)) [.ref (w.1 0 0), .int (nI mm), .int (nI aa)].toArray s 5 1230 (fA Γ)) (F0 m 75 ls []) := by
              intro fu
              induction fu with
              | zero =>
                intro i z H locs ls hf
                exact absurd hf (Nat.not_lt_zero _)
              | succ fu ih =>
                intro i z H locs ls hf hi hz1 hz2 hP hS hl
                refine lv_iload hx hb dX4_order_75 (lv_at hl 0 rfl) ?_
                refine lv_bipush (v := nI 10) hx hb dX4_order_77 (by decide) ?_
                refine fw_geN (tgt := 119) hx hb (by omega) (by omega) dX4_order_79 (by decide) (fun c_79 => ?_) (fun c_79 => ?_)
                · refine lv_iconst (v := nI 1) hx hb dX4_order_119 (by decide) ?_
                  have htt1 := or_t c_4 c_11 hmm haa c_16 c_31 c_44
                  exact fw_reti C hr hlk rfl hP hS (⟨b2i_t htt1, by rw [or_m htt1 (by omega) (by omega)]; exact Rc_ord hR hmm haa hO3 (fun m hm => hz1 m (by omega)) rfl, fr_tr (fr_set (by decide)) (fr_set (by decide))⟩) (Nat.le_of_ble_eq_true rfl) (Nat.le_of_ble_eq_true rfl) dX4_order_120
                · refine lv_iload hx hb dX4_order_82 (lv_at hl 0 rfl) ?_
                  refine lv_iload_n hx hb dX4_order_84 rfl (lv_at hl 3 rfl) ?_
                  refine fw_eqN (tgt := 102) hx hb (by omega) (by omega) dX4_order_85 (by decide) (fun c_85 => ?_) (fun c_85 => ?_)
                  · refine lv_aload_n hx hb dX4_order_102 rfl (lv_at hl 2 rfl) ?_
                    refine gf_X4_34 C hP ((fset_ne (by decide)).trans ((fset_ne (by decide)).trans hR.1)) rfl rfl dX4_order_103 ?_
                    refine lv_iload hx hb dX4_order_106 (lv_at hl 0 rfl) ?_
                    refine lv_dup2_11 hx hb dX4_order_108 rfl rfl ?_
                    refine fw_iald C hP fset_at rfl i rfl (by omega) (by decide) dX4_order_109 ?_
                    refine fw_E (show z i = msk (fun b => cmx (s_bh σ) 10 i b) 10 from hz2 i (by omega) (by omega)) ?_
                    refine lv_iload_n hx hb dX4_order_110 rfl (lv_at hl 1 rfl) ?_
                    refine lv_ior hx hb dX4_order_111 ?_
                    refine fw_iast C hP hS fset_at rfl i rfl (by omega) (by decide) dX4_order_112 (fun H locs hP hS => ?_)
                    have hP : fP Γ (fset (fset (fset w 5 0 (aI 1 10 (upd tb mm ((msk (s_bh σ mm) 10) ||| (1 <<< ((nI aa) &&& 31)))))) 6 0 (aI 1 10 z)) 6 0 (aI 1 10 (upd z i ((msk (fun b => cmx (s_bh σ) 10 i b) 10) ||| x3_71)))) H := hP
                    rw [fset_s] at hP
                    refine lv_iinc (v := nI (i + 1)) (lv' := [(4, .int (nI (i + 1))), (3, .int x3_71), (0, .ref (w.1 0 0)), (1, .int (nI mm)), (2, .int (nI aa))]) hx hb dX4_order_113 hl (k := 0) rfl (by rw [show Int32.ofInt 1 = nI 1 from rfl, nI_add]) (by decide) rfl (fun ls hl => ?_)
                    refine lv_goto (tgt := 75) hx hb dX4_order_116 (by decide) ?_
                    refine W.widen (k := 0) (n := 0) (Nat.le_of_ble_eq_true rfl) (Nat.le_of_ble_eq_true rfl) ?_
                    obtain ⟨g1, g2⟩ := or_s1 (P := fun m => msk (fun b => cmx (f2 (s_bh σ) mm aa true) 10 m b) 10) (Q2 := fun m => msk (fun b => cmx (s_bh σ) 10 m b) 10) hz1 hz2 (or_upd hmm haa c_16 hIa c_44 (by omega) (Or.inl c_85) e_x3_71)
                    exact ih (i + 1) (upd z i ((msk (fun b => cmx (s_bh σ) 10 i b) 10) ||| x3_71)) H locs ls (by omega) (by omega) g1 g2 hP hS (lv_sub hl [0, 1, 2, 3, 4] rfl)
                  · refine lv_aload_n hx hb dX4_order_88 rfl (lv_at hl 2 rfl) ?_
                    refine gf_X4_34 C hP ((fset_ne (by decide)).trans ((fset_ne (by decide)).trans hR.1)) rfl rfl dX4_order_89 ?_
                    refine lv_iload hx hb dX4_order_92 (lv_at hl 0 rfl) ?_
                    refine fw_iald C hP fset_at rfl i rfl (by omega) (by decide) dX4_order_94 ?_
                    refine fw_E (show z i = msk (fun b => cmx (s_bh σ) 10 i b) 10 from hz2 i (by omega) (by omega)) ?_
                    refine lv_iload_n hx hb dX4_order_95 rfl (lv_at hl 3 rfl) ?_
                    refine fw_ci0 (w := (fset (fset w 5 0 (aI 1 10 (upd tb mm ((msk (s_bh σ mm) 10) ||| (1 <<< ((nI aa) &&& 31)))))) 6 0 (aI 1 10 z))) hS (fw_rS (rest := []) (As := [.int (msk (fun b => cmx (s_bh σ) 10 i b) 10), .int (nI mm)]) C hP hS wS_X4_148 (k_X4_hasBit l Γ (fset (fset w 5 0 (aI 1 10 (upd tb mm ((msk (s_bh σ mm) 10) ||| (1 <<< ((nI aa) &&& 31)))))) 6 0 (aI 1 10 z)) (msk (fun b => cmx (s_bh σ) 10 i b) 10) (nI mm)) (fRm_mk rfl rfl (Nat.le_of_ble_eq_true rfl) (Nat.le_of_ble_eq_true rfl) (Nat.le_of_ble_eq_true rfl) (Nat.le_of_ble_eq_true rfl) (Nat.le_of_ble_eq_true rfl)) rfl hl.1 rfl dX4_order_96) (fun H locs hP hS => ?_)
                    refine fw_ieqB (tgt := 113) hx hb dX4_order_99 (by decide) (fun c_99 => ?_) (fun c_99 => ?_)
                    · refine lv_iinc (v := nI (i + 1)) (lv' := [(4, .int (nI (i + 1))), (3, .int x3_71), (0, .ref (w.1 0 0)), (1, .int (nI mm)), (2, .int (nI aa))]) hx hb dX4_order_113 hl (k := 0) rfl (by rw [show Int32.ofInt 1 = nI 1 from rfl, nI_add]) (by decide) rfl (fun ls hl => ?_)
                      refine lv_goto (tgt := 75) hx hb dX4_order_116 (by decide) ?_
                      refine W.widen (k := 0) (n := 0) (Nat.le_of_ble_eq_true rfl) (Nat.le_of_ble_eq_true rfl) ?_
                      obtain ⟨g1, g2⟩ := or_s2 (P := fun m => msk (fun b => cmx (f2 (s_bh σ) mm aa true) 10 m b) 10) (Q2 := fun m => msk (fun b => cmx (s_bh σ) 10 m b) 10) (by omega) hz1 hz2 (or_keep hmm haa c_16 hIa c_44 (by omega) c_85 (by rw [← c_99]; exact (hbt_msk hmm).symm))
                      exact ih (i + 1) z H locs ls (by omega) (by omega) g1 g2 hP hS (lv_sub hl [0, 1, 2, 3, 4] rfl)
                    · refine lv_aload_n hx hb dX4_order_102 rfl (lv_at hl 2 rfl) ?_
                      refine gf_X4_34 C hP ((fset_ne (by decide)).trans ((fset_ne (by decide)).trans hR.1)) rfl rfl dX4_order_103 ?_
                      refine lv_iload hx hb dX4_order_106 (lv_at hl 0 rfl) ?_
                      refine lv_dup2_11 hx hb dX4_order_108 rfl rfl ?_
                      refine fw_iald C hP fset_at rfl i rfl (by omega) (by decide) dX4_order_109 ?_
                      refine fw_E (show z i = msk (fun b => cmx (s_bh σ) 10 i b) 10 from hz2 i (by omega) (by omega)) ?_
                      refine lv_iload_n hx hb dX4_order_110 rfl (lv_at hl 1 rfl) ?_
                      refine lv_ior hx hb dX4_order_111 ?_
                      refine fw_iast C hP hS fset_at rfl i rfl (by omega) (by decide) dX4_order_112 (fun H locs hP hS => ?_)
                      have hP : fP Γ (fset (fset (fset w 5 0 (aI 1 10 (upd tb mm ((msk (s_bh σ mm) 10) ||| (1 <<< ((nI aa) &&& 31)))))) 6 0 (aI 1 10 z)) 6 0 (aI 1 10 (upd z i ((msk (fun b => cmx (s_bh σ) 10 i b) 10) ||| x3_71)))) H := hP
                      rw [fset_s] at hP
                      refine lv_iinc (v := nI (i + 1)) (lv' := [(4, .int (nI (i + 1))), (3, .int x3_71), (0, .ref (w.1 0 0)), (1, .int (nI mm)), (2, .int (nI aa))]) hx hb dX4_order_113 hl (k := 0) rfl (by rw [show Int32.ofInt 1 = nI 1 from rfl, nI_add]) (by decide) rfl (fun ls hl => ?_)
                      refine lv_goto (tgt := 75) hx hb dX4_order_116 (by decide) ?_
                      refine W.widen (k := 0) (n := 0) (Nat.le_of_ble_eq_true rfl) (Nat.le_of_ble_eq_true rfl) ?_
                      obtain ⟨g1, g2⟩ := or_s1 (P := fun m => msk (fun b => cmx (f2 (s_bh σ) mm aa true) 10 m b) 10) (Q2 := fun m => msk (fun b => cmx (s_bh σ) 10 m b) 10) hz1 hz2 (or_upd hmm haa c_16 hIa c_44 (by omega) (Or.inr (by rw [← c_99]; exact (hbt_msk hmm).symm)) e_x3_71)
                      exact ih (i + 1) (upd z i ((msk (fun b => cmx (s_bh σ) 10 i b) 10) ||| x3_71)) H locs ls (by omega) (by omega) g1 g2 hP hS (lv_sub hl [0, 1, 2, 3, 4] rfl)
            exact loop 11 0 eb _ _ _ (by omega) (by omega) (fun m hm => absurd hm (Nat.not_lt_zero m)) (fun m _ hm => hO4 m hm) hP hS (lv_sub hl [0, 1, 2, 3, 4] rfl)
          · refine lv_iconst (v := nI 0) hx hb dX4_order_47 (by decide) ?_
            exact fw_reti C hr hlk rfl hP hS (⟨b2i_f (or_f (Or.inr (Or.inr (Or.inr (Or.inr (by rw [n_of_nI (by omega), n_of_nI (by omega), ← c_44]; exact (hbt_msk hmm).symm)))))), by rw [or_n (or_f (Or.inr (Or.inr (Or.inr (Or.inr (by rw [n_of_nI (by omega), n_of_nI (by omega), ← c_44]; exact (hbt_msk hmm).symm))))))]; exact hR, fr_rf w⟩) (Nat.le_of_ble_eq_true rfl) (Nat.le_of_ble_eq_true rfl) dX4_order_48
      · refine lv_iconst (v := nI 0) hx hb dX4_order_19 (by decide) ?_
        exact fw_reti C hr hlk rfl hP hS (⟨b2i_f (or_f (Or.inr (Or.inr (Or.inl (by rw [c_16]))))), by rw [or_n (or_f (Or.inr (Or.inr (Or.inl (by rw [c_16])))))]; exact hR, fr_rf w⟩) (Nat.le_of_ble_eq_true rfl) (Nat.le_of_ble_eq_true rfl) dX4_order_20
end
section
/-- what a call that throws leaves -/
def fXc (Γ : FG) (px : FW → Prop) : String → State → State → Prop := vx_X px (fun E w1 U => E = fISE ∧ fP Γ w1 U.heap) (fA Γ)
abbrev fNms : List String := ["java/lang/RuntimeException", "java/lang/Exception"]
theorem lw_ise : ∀ w ∈ (vx_atS RX4 99 fISE fNms).filter goodWord, w ∈ lw_all := by
  intro w hw
  have h : ∀ w ∈ (vx_atS RX4 99 fISE fNms).filter goodWord, w ∈ lw_tbl := by decide +kernel
  exact List.mem_filter.mpr ⟨h w hw, (List.mem_filter.mp hw).2⟩
theorem lw_iseB : ∀ w ∈ (vx_atS RX4 99 fISE fNms).filter (fun w => !goodWord w), w ∈ [Cond.castable fISE fISE, .declares (Bundle.initS "java/lang/RuntimeException"), .declares (Bundle.initS "java/lang/Exception"), .declares (Bundle.initS Bundle.tN)] := by decide +kernel
theorem lw_iseG : ∀ w ∈ Cond.classLink RX4 95 fISE :: Cond.initialized fISE :: vx_atS RX4 99 fISE fNms, vx_ot w = true := by decide +kernel
theorem fP_ext {Γ : FG} {w : FW} {H H1 : Heap} (h : fP Γ w H) (hq : ∀ q : Nat, q < H.size → H1[q]? = H[q]?) : fP Γ w H1 := by
  obtain ⟨L, hL, hP, hD⟩ := h
  exact ⟨L, hL, hP.kept (fun k q hk => hq _ ((hP k q hk).lt)), hD⟩
theorem fw_metX {l : Launch} {Γ : FG} {w : FW} {y : MethodName} {cc : ByteArray} {maxL : Nat} {ret : Option FieldType} {rm : Room} {av : List Value} {Qc : Array Value → State → Outcome → State → Prop} {XC : String → State → State → Prop} {mc ms : Nat} (hy : plainName y.cls = true) (hlen : (lg_sl av).length ≤ maxL)
    (body : ∀ (p : Program) (e : Env) (s : State) (m : MethodId) (below : List Frame) (meth : Method) (c : Code) (ls : Array Slot), (∀ x ∈ c.exceptionTable.toList, False) → c.maxLocals = maxL → fC p s m av.toArray c cc maxL y.cls Γ → fP Γ w s.heap → va_S (fA Γ) s.heap s.heap [] → meth.sig.returnType = ret → meth.locks = false → (meth.name = y.name) → lv_has ls maxL (lv_args 0 av) →
      W p l e rm s m av.toArray below meth c s.heap [] 0 0 (vx_MQ below Qc XC av.toArray s mc ms (fA Γ)) (F0 m 0 ls [])) :
    vx_Met l y (ws_ y cc maxL ret) rm (va_Pc av (fI Γ w)) Qc XC mc ms (fA Γ) := by
  refine vx_ofW (cc := cc) (maxL := maxL) (ret := ret) hy rfl ?_
  intro p e s m args below meth c s₁ B hml hno hv
  obtain ⟨rfl, hI⟩ := hv
  have hts0 := atoms_spec (ws := ws_ y cc maxL ret) B.pre
  have hts : ∀ w ∈ lw_all, w.before av.toArray s = true := fun w h => hts0 w (List.mem_cons_of_mem _ h)
  have hown : s.vm.findClass y.cls = some m.cls := findClass_of_methodNamed B.named
  have hl := lv_entry av (n := maxL) hlen
  rw [lg_entry_eq]
  exact body p e s m below meth c _ hno hml ⟨⟨B.exec, B.bytes, hml, hown, hts⟩, hI.2.1, hI.2.2.1, hI.2.2.2⟩ hI.1 va_S.rf B.returns B.notSynchronized (name_of_methodNamed B.named B.method).1 hl
theorem fw_throw {p : Program} {l : Launch} {e : Env} {s : State} {m : MethodId} {args : Array Value} {below : List Frame} {meth : Method} {c : Code} {H : Heap} {locs : List Loc} {Γ : FG} {w : FW} {cc : ByteArray} {nL pc cells slots mc ms d : Nat} {ls : Array Slot} {lv : List (Nat × Value)} {Qc : Array Value → State → Outcome → State → Prop} {px : FW → Prop} (C : fC p s m args c cc nL RX4 Γ) (hl9 : l.stackTraces = false) (hno : ∀ x ∈ c.exceptionTable.toList, False) (hml : c.maxLocals = nL) (hP : fP Γ w H) (hS : va_S (fA Γ) s.heap H locs) (hl : lv_has ls nL lv) (hlk : meth.locks = false) (hd : 5 < d) (hc : cells + 1 ≤ mc) (hs : slots + 6 ≤ ms)
    (d0 : decode cc pc = .ok (.new 95, 3)) (d3 : decode cc (pc + 3) = .ok (.dup, 1)) (d4 : decode cc (pc + 4) = .ok (.ldc 97, 2)) (d6 : decode cc (pc + 6) = .ok (.invokespecial 99, 3)) (d9 : decode cc (pc + 9) = .ok (.athrow, 1)) (hp : px w) :
    W p l e (rmD d mc ms) s m args below meth c H locs cells slots (vx_MQ below Qc (fXc Γ px) args s mc ms (fA Γ)) (F0 m pc ls []) := by
  refine vx_throwS (names := fNms) (cls := fISE) (own := RX4) (text := fTxt) (ik := 95) (is := 97) (ic := 99) (sa := Γ.2.2.2.2.2) (A := fA Γ) C.1.1 C.1.2.1 hl9 C.1.2.2.2.1 (by decide) (by decide) (C.1.2.2.2.2 _ ql_X4_95) (C.1.2.2.2.2 _ qn_ise) C.2.1.2.2.2.2.2 ?_ lw_iseG C.2.2.1.2.2.1 C.2.2.1.2.2.2 hS (hl.1.trans hml.symm) d0 d3 d4 d6 d9 (fun x hx => (hno x hx).elim) ?_ ?_ hc hs hlk ?_ hS.2.2 hc hs
  · exact vx_hat (fun w hw => C.1.2.2.2.2 _ (lw_ise w hw)) lw_iseB (vx_c (va_Nw.use rfl C.2.1.2.2.2.2.1.1) (vx_c (va_Nw.use rfl C.2.1.2.2.2.2.1.2.1) (vx_c (va_Nw.use rfl C.2.1.2.2.2.2.1.2.2.1) (vx_c (va_Nw.use rfl C.2.1.2.2.2.2.1.2.2.2) vx_n))))
  · show 2 + 3 < d
    omega
  · show 0 + (13 * (2 + 1) + 43) ≤ 40 * d
    omega
  · intro t hA hz hq
    exact ⟨w, hp, ⟨rfl, fP_ext hP hq⟩, Nat.le_trans hS.1 hz, fun q h1 h2 => (hq q (Nat.lt_of_lt_of_le h1 hS.1)).trans (hS.2.1 q h1 h2)⟩
theorem sg_1 {σ : St} {t a b : Int32} {x : Int64} (h : fIn t (s_nt σ) = false ∨ fIn a (s_np σ) = false ∨ fIn b 10 = false) : a_sign σ t a b x = some (-1) ∧ n_sign σ t a b x = σ := by
  have h1 : (fIn t (s_nt σ) && fIn a (s_np σ) && fIn b 10) = false := by
    rcases h with h | h | h
    · rw [h]; rfl
    · rw [h, Bool.and_false]; rfl
    · rw [h, Bool.and_false]
  have h2 : k_sign σ t a b x = false := by unfold k_sign; rw [h1]; rfl
  constructor
  · unfold a_sign; rw [h1]; rfl
  · unfold n_sign; rw [h2]; rfl
theorem sg_2 {σ : St} {t a b : Nat} {x : Int64} (h1 : fIn (nI t) (s_nt σ) = true) (h2 : fIn (nI a) (s_np σ) = true) (h3 : fIn (nI b) 10 = true) (h4 : (isSec x && decide (s_ck σ ≤ x)) = false) : a_sign σ (nI t) (nI a) (nI b) x = some (-3) ∧ n_sign σ (nI t) (nI a) (nI b) x = σ := by
  have hk : k_sign σ (nI t) (nI a) (nI b) x = false := by
    unfold k_sign
    rw [Bool.and_assoc (fIn (nI t) (s_nt σ) && fIn (nI a) (s_np σ) && fIn (nI b) 10) (isSec x), h4, Bool.and_false]
    rfl
  constructor
  · unfold a_sign; rw [h1, h2, h3, h4]; rfl
  · unfold n_sign; rw [hk]; rfl
theorem sg_3 {σ : St} {t a b : Nat} {x : Int64} (h1 : fIn (nI t) (s_nt σ) = true) (h2 : fIn (nI a) (s_np σ) = true) (h3 : fIn (nI b) 10 = true) (ht : t < 2 ^ 31) (ha : a < 2 ^ 31) (hb : b < 2 ^ 31) (h4 : (isSec x && decide (s_ck σ ≤ x)) = true) (h5 : s_rl σ a b x (s_nr σ) = false) : a_sign σ (nI t) (nI a) (nI b) x = none ∧ n_sign σ (nI t) (nI a) (nI b) x = σ := by
  have hk : k_sign σ (nI t) (nI a) (nI b) x = false := by
    unfold k_sign
    rw [n_of_nI ht, n_of_nI ha, n_of_nI hb, h5, Bool.and_false]
    rfl
  constructor
  · unfold a_sign; rw [n_of_nI ht, n_of_nI ha, n_of_nI hb, h1, h2, h3, h4, h5]; rfl
  · unfold n_sign; rw [hk]; rfl
theorem sg_4 {σ : St} {t a b : Nat} {x : Int64} (h1 : fIn (nI t) (s_nt σ) = true) (h2 : fIn (nI a) (s_np σ) = true) (h3 : fIn (nI b) 10 = true) (ht : t < 2 ^ 31) (ha : a < 2 ^ 31) (hb : b < 2 ^ 31) (h4 : (isSec x && decide (s_ck σ ≤ x)) = true) (h5 : s_rl σ a b x (s_nr σ) = true) (h6 : s_mk σ t = a) : a_sign σ (nI t) (nI a) (nI b) x = some (-4) ∧ n_sign σ (nI t) (nI a) (nI b) x = σ := by
  have hk : k_sign σ (nI t) (nI a) (nI b) x = false := by
    unfold k_sign
    rw [n_of_nI ht, n_of_nI ha, n_of_nI hb, show decide (s_mk σ t ≠ a) = false from decide_eq_false (fun q => q h6), Bool.and_false]
    rfl
  constructor
  · unfold a_sign; rw [n_of_nI ht, n_of_nI ha, n_of_nI hb, h1, h2, h3, h4, h5, if_pos h6]; rfl
  · unfold n_sign; rw [hk]; rfl
theorem sg_5 {σ : St} {t a b : Nat} {x : Int64} (h1 : fIn (nI t) (s_nt σ) = true) (h2 : fIn (nI a) (s_np σ) = true) (h3 : fIn (nI b) 10 = true) (ht : t < 2 ^ 31) (ha : a < 2 ^ 31) (hb : b < 2 ^ 31) (h4 : (isSec x && decide (s_ck σ ≤ x)) = true) (h5 : s_rl σ a b x (s_nr σ) = true) (h6 : s_mk σ t ≠ a) (h7 : s_ob σ t b 10 = true) : a_sign σ (nI t) (nI a) (nI b) x = some (-5) ∧ n_sign σ (nI t) (nI a) (nI b) x = σ := by
  have hk : k_sign σ (nI t) (nI a) (nI b) x = false := by
    unfold k_sign
    rw [n_of_nI ht, n_of_nI ha, n_of_nI hb, h7, show (!true) = false from rfl, Bool.and_false]
    rfl
  constructor
  · unfold a_sign; rw [n_of_nI ht, n_of_nI ha, n_of_nI hb, h1, h2, h3, h4, h5, if_neg h6, h7]; rfl
  · unfold n_sign; rw [hk]; rfl
theorem sg_6 {σ : St} {t a b : Nat} {x : Int64} (h1 : fIn (nI t) (s_nt σ) = true) (h2 : fIn (nI a) (s_np σ) = true) (h3 : fIn (nI b) 10 = true) (ht : t < 2 ^ 31) (ha : a < 2 ^ 31) (hb : b < 2 ^ 31) (h4 : (isSec x && decide (s_ck σ ≤ x)) = true) (h5 : s_rl σ a b x (s_nr σ) = true) (h6 : s_mk σ t ≠ a) (h7 : s_ob σ t b 10 = false) (h8 : s_hs σ t b (some a) (s_ns σ) = true) : a_sign σ (nI t) (nI a) (nI b) x = some (-6) ∧ n_sign σ (nI t) (nI a) (nI b) x = σ := by
  have hk : k_sign σ (nI t) (nI a) (nI b) x = false := by
    unfold k_sign
    rw [n_of_nI ht, n_of_nI ha, n_of_nI hb, h8, show (!true) = false from rfl, Bool.and_false]
    rfl
  constructor
  · unfold a_sign; rw [n_of_nI ht, n_of_nI ha, n_of_nI hb, h1, h2, h3, h4, h5, if_neg h6, h7, h8]; rfl
  · unfold n_sign; rw [hk]; rfl
theorem sg_7 {σ : St} {t a b : Nat} {x : Int64} (h1 : fIn (nI t) (s_nt σ) = true) (h2 : fIn (nI a) (s_np σ) = true) (h3 : fIn (nI b) 10 = true) (ht : t < 2 ^ 31) (ha : a < 2 ^ 31) (hb : b < 2 ^ 31) (h4 : (isSec x && decide (s_ck σ ≤ x)) = true) (h5 : s_rl σ a b x (s_nr σ) = true) (h6 : s_mk σ t ≠ a) (h7 : s_ob σ t b 10 = false) (h8 : s_hs σ t b (some a) (s_ns σ) = false) (h9 : s_ns σ = 400) : a_sign σ (nI t) (nI a) (nI b) x = some (-2) ∧ n_sign σ (nI t) (nI a) (nI b) x = σ := by
  have hk : k_sign σ (nI t) (nI a) (nI b) x = false := by
    unfold k_sign
    rw [show decide (s_ns σ ≠ 400) = false from decide_eq_false (fun q => q h9), Bool.and_false]
  constructor
  · unfold a_sign; rw [n_of_nI ht, n_of_nI ha, n_of_nI hb, h1, h2, h3, h4, h5, if_neg h6, h7, h8, if_pos h9]; rfl
  · unfold n_sign; rw [hk]; rfl
theorem sg_8 {σ : St} {t a b : Nat} {x : Int64} (h1 : fIn (nI t) (s_nt σ) = true) (h2 : fIn (nI a) (s_np σ) = true) (h3 : fIn (nI b) 10 = true) (ht : t < 2 ^ 31) (ha : a < 2 ^ 31) (hb : b < 2 ^ 31) (h4 : (isSec x && decide (s_ck σ ≤ x)) = true) (h5 : s_rl σ a b x (s_nr σ) = true) (h6 : s_mk σ t ≠ a) (h7 : s_ob σ t b 10 = false) (h8 : s_hs σ t b (some a) (s_ns σ) = false) (h9 : s_ns σ ≠ 400) : a_sign σ (nI t) (nI a) (nI b) x = some (nI (s_ns σ)) ∧ n_sign σ (nI t) (nI a) (nI b) x = m_sign σ t a b x := by
  have hk : k_sign σ (nI t) (nI a) (nI b) x = true := by
    unfold k_sign
    rw [Bool.and_assoc (fIn (nI t) (s_nt σ) && fIn (nI a) (s_np σ) && fIn (nI b) 10) (isSec x), n_of_nI ht, n_of_nI ha, n_of_nI hb, h1, h2, h3, h4, h5, h7, h8, show decide (s_mk σ t ≠ a) = true from decide_eq_true h6, show decide (s_ns σ ≠ 400) = true from decide_eq_true h9]
    rfl
  constructor
  · unfold a_sign; rw [n_of_nI ht, n_of_nI ha, n_of_nI hb, h1, h2, h3, h4, h5, if_neg h6, h7, h8, if_neg h9]; rfl
  · unfold n_sign; rw [hk, n_of_nI ht, n_of_nI ha, n_of_nI hb]; rfl
theorem ob_f {σ : St} {t b : Nat} : ∀ {n : Nat}, (∀ i, i < n → s_bh σ b i = true → s_hs σ t i none (s_ns σ) = true) → s_ob σ t b n = false
  | 0, _ => rfl
  | n + 1, h => by
    rw [s_ob, ob_f (n := n) (fun i hi => h i (by omega))]
    cases e : s_bh σ b n
    · rfl
    · rw [h n (by omega) e]; rfl
theorem ob_t {σ : St} {t b i : Nat} (h1 : s_bh σ b i = true) (h2 : s_hs σ t i none (s_ns σ) = false) : ∀ {n : Nat}, i < n → s_ob σ t b n = true
  | 0, h => absurd h (Nat.not_lt_zero _)
  | n + 1, h => by
    rw [s_ob]
    by_cases e : i = n
    · rw [← e, h1, h2]; exact Bool.or_true _
    · rw [ob_t h1 h2 (n := n) (by omega)]; rfl
theorem ob_iff {σ : St} {t b : Nat} : (msk (s_bh σ b) 10 &&& (msk (fun m => s_hs σ t m none (s_ns σ)) 10 ^^^ (-1))) = 0 ↔ s_ob σ t b 10 = false := by
  rw [msk_no]
  constructor
  · exact ob_f
  · intro h i hi h1
    cases e : s_hs σ t i none (s_ns σ)
    · rw [ob_t h1 e hi] at h; exact absurd h (by decide)
    · rfl
theorem ob_ne {σ : St} {t b : Nat} (h : ¬ (msk (s_bh σ b) 10 &&& (msk (fun m => s_hs σ t m none (s_ns σ)) 10 ^^^ (-1))) = 0) : s_ob σ t b 10 = true := by
  cases e : s_ob σ t b 10
  · exact absurd (ob_iff.mpr e) h
  · rfl
theorem Rc_sign {σ : St} {w w3 : FW} {u2 u4 : Nat → Nat → Option FE} {t a b q qq : Nat} {x : Int64} {z : Nat → Int32} {fS : Nat → Option Nat} (hR : Rc σ (w.1, u2)) (hI : Inv σ) (ht : t < s_nt σ)
    (hA3 : ∀ k i, ¬ ((k = 16 ∨ k = 17) ∧ i = s_ns σ) → w3.1 k i = w.1 k i) (h3 : ∀ k i, ¬ ((k = 16 ∨ k = 17) ∧ i = s_ns σ) → w3.2 k i = u2 k i) (a16 : w3.1 16 (s_ns σ) = q) (a17 : w3.1 17 (s_ns σ) = qq) (hf : u2 3 0 = some (aR 5 400 fS))
    (e16 : w3.2 16 (s_ns σ) = some (oO 2 [.ref (w.1 11 t), .int (nI a), .int (nI b), .ref qq, .int (b2i false)])) (e17 : w3.2 17 (s_ns σ) ≠ none)
    (h4 : ∀ k i, ¬ (k = 8 ∨ k = 9 ∨ ((k = 11 ∨ k = 13) ∧ i = t)) → u4 k i = w3.2 k i) (hlv : ∀ k i, w3.2 k i ≠ none → u4 k i ≠ none) (hH : RcH (w3.1, u4)) (hT : Th σ (w3.1, u4) t) (hz : ∀ j, j < 8 → z j = s_dg σ t j)
    {σ1 : St} (e : σ1 = m_sign σ t a b x) : Rc σ1 (fset (fset (fset (w3.1, u4) 17 (s_ns σ) (aI 1 8 z)) 3 0 (aR 5 400 (va_up fS (s_ns σ) (some q)))) 0 0 (oSR σ1 w)) ∧ fr (w.1, u2) (fset (fset (fset (w3.1, u4) 17 (s_ns σ) (aI 1 8 z)) 3 0 (aR 5 400 (va_up fS (s_ns σ) (some q)))) 0 0 (oSR σ1 w)) := by
  have hIs := hI.2.2.2.2.2.1
  have hIg := hI.2.2.2.2.2.2.1
  obtain ⟨r0, r1, ⟨⟨fT, rT1, rT2⟩, rT3, rT4⟩, ⟨⟨fS0, rS1, rS2⟩, rS3, rS4⟩, r4, r5, r6⟩ := hR
  have ef : fS0 = fS := by
    have := rS1.symm.trans hf
    simpa [aR] using this
  subst ef
  generalize hW : fset (fset (fset (w3.1, u4) 17 (s_ns σ) (aI 1 8 z)) 3 0 (aR 5 400 (va_up fS0 (s_ns σ) (some q)))) 0 0 (oSR σ1 w) = W
  have hWa : W.1 = w3.1 := by rw [← hW]; rfl
  have hWp : ∀ k i, k ≠ 0 → k ≠ 3 → ¬ (k = 17 ∧ i = s_ns σ) → W.2 k i = u4 k i := fun k i g0 g3 g17 => by rw [← hW]; exact (fset_ne g0).trans ((fset_ne g3).trans (fset_off g17))
  have hWq : ∀ k i, k ≠ 0 → k ≠ 3 → k ≠ 8 → k ≠ 9 → ¬ ((k = 11 ∨ k = 13) ∧ i = t) → ¬ ((k = 16 ∨ k = 17) ∧ i = s_ns σ) → W.2 k i = u2 k i := fun k i g0 g3 g8 g9 g1 g2 => (hWp k i g0 g3 (by omega)).trans ((h4 k i (by omega)).trans (h3 k i g2))
  have hAd : ∀ k i, ¬ ((k = 16 ∨ k = 17) ∧ i = s_ns σ) → W.1 k i = w.1 k i := fun k i g => by rw [hWa]; exact hA3 k i g
  have s : ∀ k, k ≠ 0 → k ≠ 3 → k ≠ 8 → k ≠ 9 → k ≠ 11 → k ≠ 13 → k ≠ 16 → k ≠ 17 → sk k (w.1, u2) W := fun k g0 g3 g8 g9 g11 g13 g16 g17 i => ⟨hWq k i g0 g3 g8 g9 (by omega) (by omega), hAd k i (by omega)⟩
  refine ⟨⟨?_, ?_, ⟨⟨fT, (hWq 2 0 (by omega) (by omega) (by omega) (by omega) (by omega) (by omega)).trans rT1, fun j hj => ?_⟩, fun j hj => ?_, fun j hj => ?_⟩, ⟨⟨va_up fS0 (s_ns σ) (some q), ?_, fun i hi => ?_⟩, fun i hi => ?_, fun i hi => ?_⟩, ?_, ?_, ?_⟩, ⟨fun k i h => ?_, fun k i h => ?_⟩⟩
  · show W.2 0 0 = some (oO 4 [_, .ref (W.1 1 0), _, .ref (W.1 2 0), _, .ref (W.1 3 0), _, .ref (W.1 4 0), _, .ref (W.1 5 0), .ref (W.1 6 0), _, .ref (W.1 7 0)])
    rw [hAd 1 0 (by omega), hAd 2 0 (by omega), hAd 3 0 (by omega), hAd 4 0 (by omega), hAd 5 0 (by omega), hAd 6 0 (by omega), hAd 7 0 (by omega), ← hW]
    exact fset_at
  · subst e; exact RcR_c (σ := σ) r1 (s 1 (by decide) (by decide) (by decide) (by decide) (by decide) (by decide) (by decide) (by decide)) (s 10 (by decide) (by decide) (by decide) (by decide) (by decide) (by decide) (by decide) (by decide))
  · have hj : j < s_nt σ := by rw [e] at hj; exact hj
    exact (rT2 j hj).trans (by rw [hAd 11 j (by omega)])
  · have hj : j < s_nt σ := by rw [e] at hj; exact hj
    have hT9 : Th σ W j := by
      by_cases h9 : j = t
      · subst h9
        exact Th_c (w1 := W) hT (fun k b1 b2 => ⟨hWp k j (by omega) (by omega) (by omega), by rw [hWa]⟩)
      · exact Th_c (w1 := W) (rT3 j hj) (fun k b1 b2 => ⟨hWq k j (by omega) (by omega) (by omega) (by omega) (by omega) (by omega), hAd k j (by omega)⟩)
    subst e
    exact Th_eq hT9 rfl rfl rfl rfl rfl rfl rfl
  · have hj : s_nt σ ≤ j := by rw [e] at hj; exact hj
    have g : ∀ k, 11 ≤ k → k ≤ 15 → W.2 k j = u2 k j := fun k b1 b2 => hWq k j (by omega) (by omega) (by omega) (by omega) (by omega) (by omega)
    obtain ⟨b1, b2, b3, b4, b5⟩ := rT4 j hj
    exact ⟨(g 11 (by decide) (by decide)).trans b1, (g 12 (by decide) (by decide)).trans b2, (g 13 (by decide) (by decide)).trans b3, (g 14 (by decide) (by decide)).trans b4, (g 15 (by decide) (by decide)).trans b5⟩
  · rw [← hW]; exact (fset_ne (by decide)).trans fset_at
  · have hi : i < s_ns σ + 1 := by rw [e] at hi; exact hi
    by_cases h9 : i = s_ns σ
    · subst h9
      rw [va_up_self, hWa, a16]
    · rw [va_up_ne _ _ h9, rS2 i (by omega), hAd 16 i (by omega)]
  · have hi : i < s_ns σ + 1 := by rw [e] at hi; exact hi
    by_cases h9 : i = s_ns σ
    · subst h9
      refine ⟨?_, z, ?_, ?_⟩
      · subst e
        show W.2 16 (s_ns σ) = some (oO 2 [.ref (W.1 11 (va_up (s_st σ) (s_ns σ) t (s_ns σ))), .int (nI (va_up (s_sp σ) (s_ns σ) a (s_ns σ))), .int (nI (va_up (s_sm σ) (s_ns σ) b (s_ns σ))), .ref (W.1 17 (s_ns σ)), .int (b2i (s_sg σ (s_ns σ)))])
        rw [va_up_self, va_up_self, va_up_self, hIg _ (Nat.le_refl _), hAd 11 t (by omega), hWa, a17, hWp 16 _ (by omega) (by omega) (by omega), h4 16 _ (by omega), e16]
      · rw [← hW]
        exact (fset_ne (by decide)).trans ((fset_ne (by decide)).trans fset_at)
      · subst e
        show ∀ j, j < 8 → z j = va_up (s_sw σ) (s_ns σ) (s_dg σ t) (s_ns σ) j
        rw [va_up_self]
        exact hz
    · obtain ⟨b1, d, b2, b3⟩ := rS3 i (by omega)
      refine ⟨?_, d, (hWq 17 i (by omega) (by omega) (by omega) (by omega) (by omega) (by omega)).trans b2, ?_⟩
      · subst e
        show W.2 16 i = some (oO 2 [.ref (W.1 11 (va_up (s_st σ) (s_ns σ) t i)), .int (nI (va_up (s_sp σ) (s_ns σ) a i)), .int (nI (va_up (s_sm σ) (s_ns σ) b i)), .ref (W.1 17 i), .int (b2i (s_sg σ i))])
        rw [va_up_ne _ _ h9, va_up_ne _ _ h9, va_up_ne _ _ h9, hAd 11 _ (by omega), hAd 17 i (by omega)]
        exact (hWq 16 i (by omega) (by omega) (by omega) (by omega) (by omega) (by omega)).trans b1
      · subst e
        show ∀ j, j < 8 → d j = va_up (s_sw σ) (s_ns σ) (s_dg σ t) i j
        rw [va_up_ne _ _ h9]
        exact b3
  · have hi : s_ns σ + 1 ≤ i := by rw [e] at hi; exact hi
    obtain ⟨b1, b2⟩ := rS4 i (by omega)
    exact ⟨(hWq 16 i (by omega) (by omega) (by omega) (by omega) (by omega) (by omega)).trans b1, (hWq 17 i (by omega) (by omega) (by omega) (by omega) (by omega) (by omega)).trans b2⟩
  · subst e; exact RcW_c (σ := σ) r4 (s 4 (by decide) (by decide) (by decide) (by decide) (by decide) (by decide) (by decide) (by decide))
  · subst e; exact RcO_c (σ := σ) r5 (s 5 (by decide) (by decide) (by decide) (by decide) (by decide) (by decide) (by decide) (by decide)) (s 6 (by decide) (by decide) (by decide) (by decide) (by decide) (by decide) (by decide) (by decide))
  · have g : ∀ k, 7 ≤ k → k ≤ 9 → sk k (w3.1, u4) W := fun k b1 b2 i => ⟨hWp k i (by omega) (by omega) (by omega), by rw [hWa]⟩
    exact RcH_c hH (g 7 (by decide) (by decide)) (g 8 (by decide) (by decide)) (g 9 (by decide) (by decide))
  · obtain ⟨b1, b2⟩ := rS4 (s_ns σ) (Nat.le_refl _)
    have hne : ¬ ((k = 16 ∨ k = 17) ∧ i = s_ns σ) := by
      rintro ⟨g1 | g1, g2⟩
      · subst g1; subst g2; exact h b1
      · subst g1; subst g2; exact h b2
    refine ⟨?_, hAd k i hne⟩
    rw [← hW]
    exact fset_lv (fset_lv (fset_lv (hlv k i (by rw [h3 k i hne]; exact h))))
  · exact hWq k i (by omega) (by omega) (by omega) (by omega) (by omega) (by omega)
set_option maxHeartbeats 8000000 in
set_option maxRecDepth 100000 in
theorem k_X4_sign (l : Launch) (Γ : FG) (w : FW) (σ : St) (tx px mx : Int32) (x : Int64) (hs9 : l.stackTraces = false) (hI : Inv σ) (hR : Rc σ w) : vx_Met l yX4_sign (ws_ yX4_sign cX4_sign 8 (some .int)) (rmD 9 5 1230) (va_Pc [.ref (w.1 0 0), .int tx, .int px, .int mx, .long x] (fI Γ w)) (va_Qi (fun r w1 => a_sign σ tx px mx x = some r ∧ Rc (n_sign σ tx px mx x) w1 ∧ fr w w1) (fI Γ) (fA Γ)) (fXc Γ (fun w1 => a_sign σ tx px mx x = none ∧ Rc (n_sign σ tx px mx x) w1 ∧ fr w w1)) 5 1230 (fA Γ) := by
  refine fw_metX (by decide) (Nat.le_of_ble_eq_true rfl) ?_
  intro p e s m below meth c ls hno hml C hP hS hr hlk hin hl
  have C : fC p s m [.ref (w.1 0 0), .int tx, .int px, .int mx, .long x].toArray c cX4_sign 8 RX4 Γ := C
  have hx := C.1.1
  have hb := C.1.2.1
  have hl : lv_has ls 8 [(0, .ref (w.1 0 0)), (1, .int tx), (2, .int px), (3, .int mx), (4, .long x)] := hl
  obtain ⟨⟨hnp, hnr, hnt, hns, hnw, hck0, hck1⟩, hIr, hIt, hIb, hIn, hIs, hIg, hIw, hIa⟩ := id hI
  obtain ⟨tb, eb, hO1, hO2, hO3, hO4⟩ := id hR.2.2.2.2.2.1
  refine lv_aload_n hx hb dX4_sign_0 rfl (lv_at hl 0 rfl) ?_
  refine lv_iload_n hx hb dX4_sign_1 rfl (lv_at hl 1 rfl) ?_
  refine fw_cq0 (w := w) hS (fw_rV (rest := []) (As := [.int tx]) C hP hS wV_X4_69 (k_X4_thingAt l Γ w σ tx hnt hR.1 hR.2.2.1.1) hR.1 rfl rfl (fRm_mk rfl rfl (Nat.le_of_ble_eq_true rfl) (Nat.le_of_ble_eq_true rfl) (Nat.le_of_ble_eq_true rfl) (Nat.le_of_ble_eq_true rfl) (Nat.le_of_ble_eq_true rfl)) rfl hl.1 rfl dX4_sign_2) (fun H locs hP hS => ?_)
  cases c_2 : fIn tx (s_nt σ) with
  | false =>
    refine fw_Eq (y := .null) rfl ?_
    refine lv_astoreN (lv' := [(6, .null), (0, .ref (w.1 0 0)), (1, .int tx), (2, .int px), (3, .int mx), (4, .long x)]) hx hb dX4_sign_5 hl (by decide) rfl (fun ls hl => ?_)
    refine lv_aloadN hx hb dX4_sign_7 (lv_at hl 0 rfl) ?_
    refine lv_ifnullN (tgt := 27) hx hb dX4_sign_9 (by decide) ?_
    refine lv_iconst (v := (-1)) hx hb dX4_sign_27 (by decide) ?_
    exact vx_ret (fw_reti C hr hlk rfl hP hS (⟨(sg_1 (Or.inl c_2)).1, by rw [(sg_1 (Or.inl c_2)).2]; exact hR, fr_rf w⟩) (Nat.le_of_ble_eq_true rfl) (Nat.le_of_ble_eq_true rfl) dX4_sign_28)
  | true =>
    obtain ⟨tt, htt, rfl⟩ := fIn_t c_2 (by omega)
    refine fw_Eq (y := .ref (w.1 11 tt)) (by rw [n_of_nI (by omega)]; rfl) ?_
    obtain ⟨hln, hcn, hdn, hmk, -⟩ := hIt tt
    obtain ⟨bf, df, cf, nf, zf, e11, e12, e13, e14, e15, hbf, hcf, hnf, hzf⟩ := id (hR.2.2.1.2.1 tt htt)
    refine lv_astore (lv' := [(6, .ref (w.1 11 tt)), (0, .ref (w.1 0 0)), (1, .int (nI tt)), (2, .int px), (3, .int mx), (4, .long x)]) hx hb dX4_sign_5 hl (by decide) rfl (fun ls hl => ?_)
    refine lv_aload hx hb dX4_sign_7 (lv_at hl 0 rfl) ?_
    refine lv_ifnull hx hb dX4_sign_9 ?_
    refine lv_aload_n hx hb dX4_sign_12 rfl (lv_at hl 1 rfl) ?_
    refine lv_iload_n hx hb dX4_sign_13 rfl (lv_at hl 3 rfl) ?_
    refine fw_ci0 (w := w) hS (fw_rV (rest := []) (As := [.int px]) C hP hS wV_X4_48 (k_X4_isPerson l Γ w σ px hnp hR.1) hR.1 rfl rfl (fRm_mk rfl rfl (Nat.le_of_ble_eq_true rfl) (Nat.le_of_ble_eq_true rfl) (Nat.le_of_ble_eq_true rfl) (Nat.le_of_ble_eq_true rfl) (Nat.le_of_ble_eq_true rfl)) rfl hl.1 rfl dX4_sign_14) (fun H locs hP hS => ?_)
    refine fw_ieqB (tgt := 27) hx hb dX4_sign_17 (by decide) (fun c_17 => ?_) (fun c_17 => ?_)
    · refine lv_iconst (v := (-1)) hx hb dX4_sign_27 (by decide) ?_
      exact vx_ret (fw_reti C hr hlk rfl hP hS (⟨(sg_1 (Or.inr (Or.inl c_17))).1, by rw [(sg_1 (Or.inr (Or.inl c_17))).2]; exact hR, fr_rf w⟩) (Nat.le_of_ble_eq_true rfl) (Nat.le_of_ble_eq_true rfl) dX4_sign_28)
    · obtain ⟨pp, hpp, rfl⟩ := fIn_t c_17 (by omega)
      refine lv_iload_n hx hb dX4_sign_20 rfl (lv_at hl 4 rfl) ?_
      refine fw_ci0 (w := w) hS (fw_rS (rest := []) (As := [.int mx]) C hP hS wS_X4_52 (k_X4_isMeaning l Γ w mx) (fRm_mk rfl rfl (Nat.le_of_ble_eq_true rfl) (Nat.le_of_ble_eq_true rfl) (Nat.le_of_ble_eq_true rfl) (Nat.le_of_ble_eq_true rfl) (Nat.le_of_ble_eq_true rfl)) rfl hl.1 rfl dX4_sign_21) (fun H locs hP hS => ?_)
      refine fw_ineB (tgt := 29) hx hb dX4_sign_24 (by decide) (fun c_24 => ?_) (fun c_24 => ?_)
      · obtain ⟨mm, hmm, rfl⟩ := fIn_t c_24 (by omega)
        refine lv_aload_n hx hb dX4_sign_29 rfl (lv_at hl 1 rfl) ?_
        refine lv_lload hx hb dX4_sign_30 (lv_at hl 5 rfl) ?_
        refine fw_ci0 (w := w) hS (fw_rV (rest := []) (As := [.long x]) C hP hS wV_X4_87 (k_X4_isLate l Γ w σ x hR.1) hR.1 rfl rfl (fRm_mk rfl rfl (Nat.le_of_ble_eq_true rfl) (Nat.le_of_ble_eq_true rfl) (Nat.le_of_ble_eq_true rfl) (Nat.le_of_ble_eq_true rfl) (Nat.le_of_ble_eq_true rfl)) rfl hl.1 rfl dX4_sign_32) (fun H locs hP hS => ?_)
        refine fw_ieqB (tgt := 41) hx hb dX4_sign_35 (by decide) (fun c_35 => ?_) (fun c_35 => ?_)
        · refine lv_aload_n hx hb dX4_sign_41 rfl (lv_at hl 1 rfl) ?_
          refine lv_iload_n hx hb dX4_sign_42 rfl (lv_at hl 3 rfl) ?_
          refine lv_iload_n hx hb dX4_sign_43 rfl (lv_at hl 4 rfl) ?_
          refine lv_lload hx hb dX4_sign_44 (lv_at hl 5 rfl) ?_
          refine fw_ci0 (w := w) hS (fw_rV (rest := []) (As := [.int (nI pp), .int (nI mm), .long x]) C hP hS wV_X4_91 (k_X4_hasRole l Γ w σ pp mm x (by omega) (by omega) hnr hIr hR.1 hR.2.1) hR.1 rfl rfl (fRm_mk rfl rfl (Nat.le_of_ble_eq_true rfl) (Nat.le_of_ble_eq_true rfl) (Nat.le_of_ble_eq_true rfl) (Nat.le_of_ble_eq_true rfl) (Nat.le_of_ble_eq_true rfl)) rfl hl.1 rfl dX4_sign_46) (fun H locs hP hS => ?_)
          refine fw_ineB (tgt := 62) hx hb dX4_sign_49 (by decide) (fun c_49 => ?_) (fun c_49 => ?_)
          · refine lv_aload hx hb dX4_sign_62 (lv_at hl 0 rfl) ?_
            refine gf_X4_102 C hP e11 rfl rfl dX4_sign_64 ?_
            refine lv_iload_n hx hb dX4_sign_67 rfl (lv_at hl 3 rfl) ?_
            refine fw_neN (tgt := 74) hx hb (by omega) (by omega) dX4_sign_68 (by decide) (fun c_68 => ?_) (fun c_68 => ?_)
            · refine lv_aload_n hx hb dX4_sign_74 rfl (lv_at hl 1 rfl) ?_
              refine gf_X4_31 C hP hR.1 rfl rfl dX4_sign_75 ?_
              refine lv_iload_n hx hb dX4_sign_78 rfl (lv_at hl 4 rfl) ?_
              refine fw_iald C hP hO1 rfl mm rfl (by omega) (by decide) dX4_sign_79 ?_
              refine fw_E (show tb mm = msk (s_bh σ mm) 10 from hO3 mm (by omega)) ?_
              refine lv_aload_n hx hb dX4_sign_80 rfl (lv_at hl 1 rfl) ?_
              refine lv_aload hx hb dX4_sign_81 (lv_at hl 0 rfl) ?_
              refine fw_ci hS (fw_rV (rest := [.int (msk (s_bh σ mm) 10)]) (As := [.ref (w.1 11 tt)]) C hP hS wV_X4_105 (k_X4_meaningsThatHold l Γ w σ tt hI hR htt) hR.1 rfl rfl (fRm_mk rfl rfl (Nat.le_of_ble_eq_true rfl) (Nat.le_of_ble_eq_true rfl) (Nat.le_of_ble_eq_true rfl) (Nat.le_of_ble_eq_true rfl) (Nat.le_of_ble_eq_true rfl)) rfl hl.1 rfl dX4_sign_83) (fun r1 w1 H locs hp hP hS => ?_)
              obtain ⟨ad1, u1⟩ := w1
              obtain ⟨rfl, hR1, hf1⟩ := hp
              have ha1 : ad1 = w.1 := hf1.1
              subst ha1
              refine lv_iconst (v := (-1)) hx hb dX4_sign_86 (by decide) ?_
              refine lv_ixor hx hb dX4_sign_87 ?_
              refine lv_iand hx hb dX4_sign_88 ?_
              refine lv_if_eq (tgt := 95) hx hb dX4_sign_89 (by decide) (fun c_89 => ?_) (fun c_89 => ?_)
              · refine lv_aload_n hx hb dX4_sign_95 rfl (lv_at hl 1 rfl) ?_
                refine lv_aload hx hb dX4_sign_96 (lv_at hl 0 rfl) ?_
                refine lv_iload_n hx hb dX4_sign_98 rfl (lv_at hl 3 rfl) ?_
                refine lv_iload_n hx hb dX4_sign_99 rfl (lv_at hl 4 rfl) ?_
                refine fw_ci hS (fw_rV (rest := []) (As := [.ref (w.1 11 tt), .int (nI pp), .int (nI mm)]) C hP hS wV_X4_109 (k_X4_isSignedBy l Γ (w.1, u1) σ tt pp mm (by omega) (by omega) hI hR1 htt) hR1.1 rfl rfl (fRm_mk rfl rfl (Nat.le_of_ble_eq_true rfl) (Nat.le_of_ble_eq_true rfl) (Nat.le_of_ble_eq_true rfl) (Nat.le_of_ble_eq_true rfl) (Nat.le_of_ble_eq_true rfl)) rfl hl.1 rfl dX4_sign_100) (fun r1 w1 H locs hp hP hS => ?_)
                obtain ⟨ad2, u2⟩ := w1
                obtain ⟨rfl, hR2, hf2⟩ := hp
                have ha2 : ad2 = w.1 := hf2.1
                subst ha2
                have hf12 : fr w (w.1, u2) := frd_fr (frd_tr hf1 hf2)
                obtain ⟨fS, hS1, hS2⟩ := id hR2.2.2.2.1.1
                obtain ⟨hn16, hn17⟩ := id (hR2.2.2.2.1.2.2 (s_ns σ) (Nat.le_refl _))
                refine fw_ieqB (tgt := 109) hx hb dX4_sign_103 (by decide) (fun c_103 => ?_) (fun c_103 => ?_)
                · refine lv_aload_n hx hb dX4_sign_109 rfl (lv_at hl 1 rfl) ?_
                  refine gf_X4_113 C hP hR2.1 rfl rfl dX4_sign_110 ?_
                  refine lv_sipush (v := nI 400) hx hb dX4_sign_113 (by decide) ?_
                  refine fw_ltN (tgt := 122) hx hb (by omega) (by omega) dX4_sign_116 (by decide) (fun c_116 => ?_) (fun c_116 => ?_)
                  · refine fw_new (ci := 2) (fs := [.null, .int 0, .int 0, .null, .int (b2i false)]) C hP hS 16 (s_ns σ) qy_X2 tyX2 tyX2_ok rfl ⟨ql_X4_21, qx_X2, qn_X2⟩ (by intro j hj; match j, hj with | 0, _ => rfl | 1, _ => rfl | 2, _ => rfl | 3, _ => rfl | 4, _ => rfl | k + 5, hj => exact absurd hj (by omega)) hn16 (Nat.le_of_ble_eq_true rfl) (Nat.le_of_ble_eq_true rfl) dX4_sign_122 (fun q122 H hP hS => ?_)
                    have hP : fP Γ (fnew (w.1, u2) 16 (s_ns σ) (oO 2 [.null, .int 0, .int 0, .null, .int (b2i false)]) q122) H := hP
                    refine lv_dup hx hb dX4_sign_125 rfl ?_
                    refine lv_aload hx hb dX4_sign_126 (lv_at hl 0 rfl) ?_
                    refine lv_iload_n hx hb dX4_sign_128 rfl (lv_at hl 3 rfl) ?_
                    refine lv_iload_n hx hb dX4_sign_129 rfl (lv_at hl 4 rfl) ?_
                    have hm := k_X2_init l Γ (fnew (w.1, u2) 16 (s_ns σ) (oO 2 [.null, .int 0, .int 0, .null, .int (b2i false)]) q122) (s_ns σ) tt pp mm fnew_at ((fnew_ne (by decide)).trans hn17)
                    rw [show (fnew (w.1, u2) 16 (s_ns σ) (oO 2 [.null, .int 0, .int 0, .null, .int (b2i false)]) q122).1 16 (s_ns σ) = q122 from fnew_aat] at hm
                    rw [show (fnew (w.1, u2) 16 (s_ns σ) (oO 2 [.null, .int 0, .int 0, .null, .int (b2i false)]) q122).1 11 tt = w.1 11 tt from ((fnew_ane (by decide)).trans rfl)] at hm
                    refine fw_cv hS (fw_rI (rest := [.ref q122]) (As := [.ref (w.1 11 tt), .int (nI pp), .int (nI mm)]) C hP hS wI_X4_116 (hm) (fRm_mk rfl rfl (Nat.le_of_ble_eq_true rfl) (Nat.le_of_ble_eq_true rfl) (Nat.le_of_ble_eq_true rfl) (Nat.le_of_ble_eq_true rfl) (Nat.le_of_ble_eq_true rfl)) rfl hl.1 rfl dX4_sign_130) (fun w1 H locs hp hP hS => ?_)
                    obtain ⟨q9, hw3⟩ := hp
                    have hA3 : ∀ k i, ¬ ((k = 16 ∨ k = 17) ∧ i = s_ns σ) → w1.1 k i = w.1 k i := by
                      intro k i h
                      rw [hw3]
                      show f2 (f2 w.1 16 (s_ns σ) q122) 17 (s_ns σ) q9 k i = w.1 k i
                      unfold f2
                      by_cases e1 : k = 17
                      · rw [if_pos e1, if_neg (by omega), if_neg (by omega)]
                      · rw [if_neg e1]
                        by_cases e2 : k = 16
                        · rw [if_pos e2, if_neg (by omega)]
                        · rw [if_neg e2]
                    have h3 : ∀ k i, ¬ ((k = 16 ∨ k = 17) ∧ i = s_ns σ) → w1.2 k i = u2 k i := by
                      intro k i h
                      rw [hw3]
                      refine (fset_off (by omega)).trans ?_
                      show f2 (f2 u2 16 (s_ns σ) _) 17 (s_ns σ) _ k i = u2 k i
                      unfold f2
                      by_cases e1 : k = 17
                      · rw [if_pos e1, if_neg (by omega), if_neg (by omega)]
                      · rw [if_neg e1]
                        by_cases e2 : k = 16
                        · rw [if_pos e2, if_neg (by omega)]
                        · rw [if_neg e2]
                    have a16 : w1.1 16 (s_ns σ) = q122 := by rw [hw3]; exact fset_ad.trans ((fnew_ane (by decide)).trans fnew_aat)
                    have a17 : w1.1 17 (s_ns σ) = q9 := by rw [hw3]; exact fset_ad.trans fnew_aat
                    have e16 : w1.2 16 (s_ns σ) = some (oO 2 [.ref (w.1 11 tt), .int (nI pp), .int (nI mm), .ref q9, .int (b2i false)]) := by
                      rw [hw3]
                      exact fset_at
                    have e17 : w1.2 17 (s_ns σ) = some (aI 1 8 (fun _ => 0)) := by rw [hw3]; exact (fset_ne (by decide)).trans fnew_at
                    clear hw3
                    have hH3 : RcH w1 := by
                      have s : ∀ k, k ≠ 16 → k ≠ 17 → sk k (w.1, u2) w1 := fun k g1 g2 i => ⟨h3 k i (by omega), hA3 k i (by omega)⟩
                      exact RcH_c hR2.2.2.2.2.2.2 (s 7 (by decide) (by decide)) (s 8 (by decide) (by decide)) (s 9 (by decide) (by decide))
                    have hT3 : Th σ w1 tt := Th_c (w1 := w1) (hR2.2.2.1.2.1 tt htt) (fun k g1 g2 => ⟨h3 k tt (by omega), hA3 k tt (by omega)⟩)
                    have h03 : Rc0 σ w1 := by
                      show w1.2 0 0 = some (oO 4 [_, .ref (w1.1 1 0), _, .ref (w1.1 2 0), _, .ref (w1.1 3 0), _, .ref (w1.1 4 0), _, .ref (w1.1 5 0), .ref (w1.1 6 0), _, .ref (w1.1 7 0)])
                      rw [hA3 1 0 (by omega), hA3 2 0 (by omega), hA3 3 0 (by omega), hA3 4 0 (by omega), hA3 5 0 (by omega), hA3 6 0 (by omega), hA3 7 0 (by omega), h3 0 0 (by omega)]
                      exact hR2.1
                    have hS3 : w1.2 3 0 = some (aR 5 400 fS) := (h3 3 0 (by omega)).trans hS1
                    have h00 : w1.2 0 0 = some (oSR σ w) := (h3 0 0 (by omega)).trans hR2.1
                    refine lv_astore (lv' := [(7, .ref q122), (6, .ref (w.1 11 tt)), (0, .ref (w.1 0 0)), (1, .int (nI tt)), (2, .int (nI pp)), (3, .int (nI mm)), (4, .long x)]) hx hb dX4_sign_133 hl (by decide) rfl (fun ls hl => ?_)
                    refine lv_aload_n hx hb dX4_sign_135 rfl (lv_at hl 2 rfl) ?_
                    refine lv_aload hx hb dX4_sign_136 (lv_at hl 1 rfl) ?_
                    have hm : Met l _ _ _ (va_Pc [.ref (w1.1 0 0), .ref (w1.1 11 tt)] (fI Γ w1)) _ _ _ _ := k_X4_digestWordsOf l Γ w1 σ tt h03 hH3 hT3 hln
                    rw [hA3 0 0 (by omega), hA3 11 tt (by omega)] at hm
                    refine fw_cq hS (fw_rV (rest := []) (As := [.ref (w.1 11 tt)]) C hP hS wV_X4_119 (hm) h00 (hA3 0 0 (by omega)) rfl (fRm_mk rfl rfl (Nat.le_of_ble_eq_true rfl) (Nat.le_of_ble_eq_true rfl) (Nat.le_of_ble_eq_true rfl) (Nat.le_of_ble_eq_true rfl) (Nat.le_of_ble_eq_true rfl)) rfl hl.1 rfl dX4_sign_138) (fun r1 w4 H locs hp hP hS => ?_)
                    obtain ⟨ad4, u4⟩ := w4
                    obtain ⟨rfl, ha4, hk4, hlv4, hH4, hT4, d4, hd4, hdd4⟩ := hp
                    have ha4 : ad4 = w1.1 := ha4
                    subst ha4
                    refine fw_Eq (y := .ref (w.1 13 tt)) (by rw [hA3 13 tt (by omega)]; rfl) ?_
                    refine lv_aload hx hb dX4_sign_141 (lv_at hl 0 rfl) ?_
                    refine gf_X4_123 C hP ((hk4 16 (s_ns σ) (by omega)).trans e16) a16 rfl dX4_sign_143 ?_
                    have hm := k_X4_copyWords l Γ (w1.1, u4) 13 tt 17 (s_ns σ) d4 (fun _ => 0) (by decide) hd4 ((hk4 17 (s_ns σ) (by omega)).trans e17)
                    rw [show (w1.1, u4).1 13 tt = w.1 13 tt from hA3 13 tt (by omega), show (w1.1, u4).1 17 (s_ns σ) = q9 from a17] at hm
                    refine fw_cv hS (fw_rS (rest := []) (As := [.ref (w.1 13 tt), .ref q9]) C hP hS wS_X4_126 (hm) (fRm_mk rfl rfl (Nat.le_of_ble_eq_true rfl) (Nat.le_of_ble_eq_true rfl) (Nat.le_of_ble_eq_true rfl) (Nat.le_of_ble_eq_true rfl) (Nat.le_of_ble_eq_true rfl)) rfl hl.1 rfl dX4_sign_146) (fun w5 H locs hp hP hS => ?_)
                    obtain ⟨z, rfl, hz⟩ := hp
                    refine lv_aload_n hx hb dX4_sign_149 rfl (lv_at hl 2 rfl) ?_
                    refine gf_X4_23 C hP ((fset_ne (by decide)).trans ((hk4 0 0 (by omega)).trans h00)) (hA3 0 0 (by omega)) rfl dX4_sign_150 ?_
                    refine lv_aload_n hx hb dX4_sign_153 rfl (lv_at hl 2 rfl) ?_
                    refine gf_X4_113 C hP ((fset_ne (by decide)).trans ((hk4 0 0 (by omega)).trans h00)) (hA3 0 0 (by omega)) rfl dX4_sign_154 ?_
                    refine lv_aload hx hb dX4_sign_157 (lv_at hl 0 rfl) ?_
                    refine fw_aast (ci := 2) C hP hS (by decide) rfl rfl ((fset_ne (by decide)).trans ((hk4 3 0 (by omega)).trans hS3)) (hA3 3 0 (by omega)) ((fset_ne (by decide)).trans ((hk4 16 (s_ns σ) (by omega)).trans e16)) a16 (s_ns σ) rfl (by omega) (by decide) dX4_sign_159 (fun H locs hP hS => ?_)
                    have hP : fP Γ (fset (fset (w1.1, u4) 17 (s_ns σ) (aI 1 8 z)) 3 0 (aR 5 400 (va_up fS (s_ns σ) (some q122)))) H := hP
                    refine lv_aload_n hx hb dX4_sign_160 rfl (lv_at hl 2 rfl) ?_
                    refine lv_lload hx hb dX4_sign_161 (lv_at hl 6 rfl) ?_
                    refine pf_X4_130 C hP hS rfl rfl ((fset_ne (by decide)).trans ((fset_ne (by decide)).trans ((hk4 0 0 (by omega)).trans h00))) (hA3 0 0 (by omega)) (Nat.le_of_ble_eq_true rfl) dX4_sign_163 (fun H locs hP hS => ?_)
                    have hP : fP Γ (fset (fset (fset (w1.1, u4) 17 (s_ns σ) (aI 1 8 z)) 3 0 (aR 5 400 (va_up fS (s_ns σ) (some q122)))) 0 0 (oO 4 [.int (nI (s_np σ)), .ref (w.1 1 0), .int (nI (s_nr σ)), .ref (w.1 2 0), .int (nI (s_nt σ)), .ref (w.1 3 0), .int (nI (s_ns σ)), .ref (w.1 4 0), .int (nI (s_nw σ)), .ref (w.1 5 0), .ref (w.1 6 0), .long x, .ref (w.1 7 0)])) H := hP
                    refine lv_aload_n hx hb dX4_sign_166 rfl (lv_at hl 2 rfl) ?_
                    refine lv_dup hx hb dX4_sign_167 rfl ?_
                    refine gf_X4_113 C hP fset_at (hA3 0 0 (by omega)) rfl dX4_sign_168 ?_
                    refine lv_dup_x1 hx hb dX4_sign_171 rfl rfl ?_
                    refine lv_iconst (v := nI 1) hx hb dX4_sign_172 (by decide) ?_
                    refine fw_addN hx hb dX4_sign_173 ?_
                    refine pf_X4_113 C hP hS rfl rfl fset_at (hA3 0 0 (by omega)) (Nat.le_of_ble_eq_true rfl) dX4_sign_174 (fun H locs hP hS => ?_)
                    have hP : fP Γ (fset (fset (fset (fset (w1.1, u4) 17 (s_ns σ) (aI 1 8 z)) 3 0 (aR 5 400 (va_up fS (s_ns σ) (some q122)))) 0 0 (oO 4 [.int (nI (s_np σ)), .ref (w.1 1 0), .int (nI (s_nr σ)), .ref (w.1 2 0), .int (nI (s_nt σ)), .ref (w.1 3 0), .int (nI (s_ns σ)), .ref (w.1 4 0), .int (nI (s_nw σ)), .ref (w.1 5 0), .ref (w.1 6 0), .long x, .ref (w.1 7 0)])) 0 0 (oO 4 [.int (nI (s_np σ)), .ref (w.1 1 0), .int (nI (s_nr σ)), .ref (w.1 2 0), .int (nI (s_nt σ)), .ref (w.1 3 0), .int (nI (s_ns σ + 1)), .ref (w.1 4 0), .int (nI (s_nw σ)), .ref (w.1 5 0), .ref (w.1 6 0), .long x, .ref (w.1 7 0)])) H := hP
                    rw [fset_s] at hP
                    have hok := sg_8 c_2 c_17 c_24 (by omega) (by omega) (by omega) (late_f hck0 c_35) c_49 (by omega) (ob_iff.mp c_89) c_103 (by omega)
                    have hRR := Rc_sign (x := x) hR2 hI htt hA3 h3 a16 a17 hS1 e16 (by rw [e17]; exact fun z => by cases z) hk4 hlv4 hH4 hT4 (fun j hj => (hz j hj).trans (hdd4 j hj)) (rfl : m_sign σ tt pp mm x = _)
                    exact vx_ret (fw_reti C hr hlk rfl hP hS (⟨hok.1, by rw [hok.2]; exact hRR.1, fr_tr hf12 hRR.2⟩) (Nat.le_of_ble_eq_true rfl) (Nat.le_of_ble_eq_true rfl) dX4_sign_177)
                  · refine lv_bipush (v := (-2)) hx hb dX4_sign_119 (by decide) ?_
                    exact vx_ret (fw_reti C hr hlk rfl hP hS (⟨(sg_7 c_2 c_17 c_24 (by omega) (by omega) (by omega) (late_f hck0 c_35) c_49 (by omega) (ob_iff.mp c_89) c_103 (by omega)).1, by rw [(sg_7 c_2 c_17 c_24 (by omega) (by omega) (by omega) (late_f hck0 c_35) c_49 (by omega) (ob_iff.mp c_89) c_103 (by omega)).2]; exact hR2, hf12⟩) (Nat.le_of_ble_eq_true rfl) (Nat.le_of_ble_eq_true rfl) dX4_sign_121)
                · refine lv_bipush (v := (-6)) hx hb dX4_sign_106 (by decide) ?_
                  exact vx_ret (fw_reti C hr hlk rfl hP hS (⟨(sg_6 c_2 c_17 c_24 (by omega) (by omega) (by omega) (late_f hck0 c_35) c_49 (by omega) (ob_iff.mp c_89) c_103).1, by rw [(sg_6 c_2 c_17 c_24 (by omega) (by omega) (by omega) (late_f hck0 c_35) c_49 (by omega) (ob_iff.mp c_89) c_103).2]; exact hR2, hf12⟩) (Nat.le_of_ble_eq_true rfl) (Nat.le_of_ble_eq_true rfl) dX4_sign_108)
              · refine lv_bipush (v := (-5)) hx hb dX4_sign_92 (by decide) ?_
                exact vx_ret (fw_reti C hr hlk rfl hP hS (⟨(sg_5 c_2 c_17 c_24 (by omega) (by omega) (by omega) (late_f hck0 c_35) c_49 (by omega) (ob_ne c_89)).1, by rw [(sg_5 c_2 c_17 c_24 (by omega) (by omega) (by omega) (late_f hck0 c_35) c_49 (by omega) (ob_ne c_89)).2]; exact hR1, frd_fr hf1⟩) (Nat.le_of_ble_eq_true rfl) (Nat.le_of_ble_eq_true rfl) dX4_sign_94)
            · refine lv_bipush (v := (-4)) hx hb dX4_sign_71 (by decide) ?_
              exact vx_ret (fw_reti C hr hlk rfl hP hS (⟨(sg_4 c_2 c_17 c_24 (by omega) (by omega) (by omega) (late_f hck0 c_35) c_49 (by omega)).1, by rw [(sg_4 c_2 c_17 c_24 (by omega) (by omega) (by omega) (late_f hck0 c_35) c_49 (by omega)).2]; exact hR, fr_rf w⟩) (Nat.le_of_ble_eq_true rfl) (Nat.le_of_ble_eq_true rfl) dX4_sign_73)
          · exact fw_throw C hs9 hno hml hP hS hl hlk (by decide) (Nat.le_of_ble_eq_true rfl) (Nat.le_of_ble_eq_true rfl) dX4_sign_52 dX4_sign_55 dX4_sign_56 dX4_sign_58 dX4_sign_61 ⟨(sg_3 c_2 c_17 c_24 (by omega) (by omega) (by omega) (late_f hck0 c_35) c_49).1, by rw [(sg_3 c_2 c_17 c_24 (by omega) (by omega) (by omega) (late_f hck0 c_35) c_49).2]; exact hR, fr_rf w⟩
        · refine lv_bipush (v := (-3)) hx hb dX4_sign_38 (by decide) ?_
          exact vx_ret (fw_reti C hr hlk rfl hP hS (⟨(sg_2 c_2 c_17 c_24 (late_t hck0 c_35)).1, by rw [(sg_2 c_2 c_17 c_24 (late_t hck0 c_35)).2]; exact hR, fr_rf w⟩) (Nat.le_of_ble_eq_true rfl) (Nat.le_of_ble_eq_true rfl) dX4_sign_40)
      · refine lv_iconst (v := (-1)) hx hb dX4_sign_27 (by decide) ?_
        exact vx_ret (fw_reti C hr hlk rfl hP hS (⟨(sg_1 (Or.inr (Or.inr c_24))).1, by rw [(sg_1 (Or.inr (Or.inr c_24))).2]; exact hR, fr_rf w⟩) (Nat.le_of_ble_eq_true rfl) (Nat.le_of_ble_eq_true rfl) dX4_sign_28)
end
