section
-- ===== PART A: goes FIRST, ahead of the names: the tables' words, and 'selects' of the private methods out of them =====
/-- a private method of a class that the tables say can be made, by its rows of tables_1 -/
def lw_okq (q : MethodName × Nat) : Prop := (q.1.cls ≠ "java/lang/invoke/MethodHandle" ∧ q.1.cls ≠ "java/lang/invoke/VarHandle") ∧ Cond.instantiable q.1.cls q.2 ∈ tables_1 ∧ Cond.privateMethod q.1 ∈ tables_1 ∧ Cond.instanceMethod q.1 ∈ tables_1
theorem lw_p0 : lw_okq (⟨"java/lang/Throwable", "fillInStackTrace", "(I)Ljava/lang/Throwable;"⟩, 6) := ⟨⟨by decide +kernel, by decide +kernel⟩, List.mem_of_getElem? (i := 117) (by decide +kernel), List.mem_of_getElem? (i := 115) (by decide +kernel), List.mem_of_getElem? (i := 116) (by decide +kernel)⟩
theorem lw_p1 : lw_okq (⟨"CellRack", "isLive", "(I)Z"⟩, 12) := ⟨⟨by decide +kernel, by decide +kernel⟩, List.mem_of_getElem? (i := 13) (by decide +kernel), List.mem_of_getElem? (i := 182) (by decide +kernel), List.mem_of_getElem? (i := 183) (by decide +kernel)⟩
theorem lw_p2 : lw_okq (⟨"CellRack", "drawPower", "()Z"⟩, 12) := ⟨⟨by decide +kernel, by decide +kernel⟩, List.mem_of_getElem? (i := 13) (by decide +kernel), List.mem_of_getElem? (i := 190) (by decide +kernel), List.mem_of_getElem? (i := 191) (by decide +kernel)⟩
theorem lw_p3 : lw_okq (⟨"CellRack", "putTape", "(II)V"⟩, 12) := ⟨⟨by decide +kernel, by decide +kernel⟩, List.mem_of_getElem? (i := 13) (by decide +kernel), List.mem_of_getElem? (i := 194) (by decide +kernel), List.mem_of_getElem? (i := 195) (by decide +kernel)⟩
theorem lw_p4 : lw_okq (⟨"CellRack", "checkOf", "(I)J"⟩, 12) := ⟨⟨by decide +kernel, by decide +kernel⟩, List.mem_of_getElem? (i := 13) (by decide +kernel), List.mem_of_getElem? (i := 201) (by decide +kernel), List.mem_of_getElem? (i := 202) (by decide +kernel)⟩
theorem lw_p5 : lw_okq (⟨"CellRack", "setKind", "(II)V"⟩, 12) := ⟨⟨by decide +kernel, by decide +kernel⟩, List.mem_of_getElem? (i := 13) (by decide +kernel), List.mem_of_getElem? (i := 210) (by decide +kernel), List.mem_of_getElem? (i := 211) (by decide +kernel)⟩
theorem lw_p6 : lw_okq (⟨"CellRack", "clearTape", "()V"⟩, 12) := ⟨⟨by decide +kernel, by decide +kernel⟩, List.mem_of_getElem? (i := 13) (by decide +kernel), List.mem_of_getElem? (i := 214) (by decide +kernel), List.mem_of_getElem? (i := 215) (by decide +kernel)⟩
theorem lw_p7 : lw_okq (⟨"CellRack", "hasBytes", "(I)Z"⟩, 12) := ⟨⟨by decide +kernel, by decide +kernel⟩, List.mem_of_getElem? (i := 13) (by decide +kernel), List.mem_of_getElem? (i := 281) (by decide +kernel), List.mem_of_getElem? (i := 282) (by decide +kernel)⟩
theorem lw_p8 : lw_okq (⟨"CellRack", "setKindOfAll", "(II)V"⟩, 12) := ⟨⟨by decide +kernel, by decide +kernel⟩, List.mem_of_getElem? (i := 13) (by decide +kernel), List.mem_of_getElem? (i := 297) (by decide +kernel), List.mem_of_getElem? (i := 298) (by decide +kernel)⟩
theorem lw_p9 : lw_okq (⟨"CellRack", "isAsWritten", "(I)Z"⟩, 12) := ⟨⟨by decide +kernel, by decide +kernel⟩, List.mem_of_getElem? (i := 13) (by decide +kernel), List.mem_of_getElem? (i := 316) (by decide +kernel), List.mem_of_getElem? (i := 317) (by decide +kernel)⟩
theorem lw_p10 : lw_okq (⟨"CellRack", "hasItsCheck", "(I)Z"⟩, 12) := ⟨⟨by decide +kernel, by decide +kernel⟩, List.mem_of_getElem? (i := 13) (by decide +kernel), List.mem_of_getElem? (i := 320) (by decide +kernel), List.mem_of_getElem? (i := 321) (by decide +kernel)⟩
theorem lw_p11 : lw_okq (⟨"CellRackModel", "fails", "(ZI)Z"⟩, 13) := ⟨⟨by decide +kernel, by decide +kernel⟩, List.mem_of_getElem? (i := 341) (by decide +kernel), List.mem_of_getElem? (i := 401) (by decide +kernel), List.mem_of_getElem? (i := 402) (by decide +kernel)⟩
theorem lw_p12 : lw_okq (⟨"CellRackModel", "check", "(I)V"⟩, 13) := ⟨⟨by decide +kernel, by decide +kernel⟩, List.mem_of_getElem? (i := 341) (by decide +kernel), List.mem_of_getElem? (i := 417) (by decide +kernel), List.mem_of_getElem? (i := 418) (by decide +kernel)⟩
theorem lw_p13 : lw_okq (⟨"CellRackModel", "spread", "([BII)V"⟩, 13) := ⟨⟨by decide +kernel, by decide +kernel⟩, List.mem_of_getElem? (i := 341) (by decide +kernel), List.mem_of_getElem? (i := 421) (by decide +kernel), List.mem_of_getElem? (i := 422) (by decide +kernel)⟩
theorem lw_p14 : lw_okq (⟨"CellRackModel", "divide", "(I)V"⟩, 13) := ⟨⟨by decide +kernel, by decide +kernel⟩, List.mem_of_getElem? (i := 341) (by decide +kernel), List.mem_of_getElem? (i := 425) (by decide +kernel), List.mem_of_getElem? (i := 426) (by decide +kernel)⟩
theorem lw_p15 : lw_okq (⟨"CellRackModel", "stateOf", "(II)I"⟩, 13) := ⟨⟨by decide +kernel, by decide +kernel⟩, List.mem_of_getElem? (i := 341) (by decide +kernel), List.mem_of_getElem? (i := 434) (by decide +kernel), List.mem_of_getElem? (i := 435) (by decide +kernel)⟩
def lw_privs_1 : List (MethodName × Nat) := [(⟨"java/lang/Throwable", "fillInStackTrace", "(I)Ljava/lang/Throwable;"⟩, 6), (⟨"CellRack", "isLive", "(I)Z"⟩, 12), (⟨"CellRack", "drawPower", "()Z"⟩, 12), (⟨"CellRack", "putTape", "(II)V"⟩, 12), (⟨"CellRack", "checkOf", "(I)J"⟩, 12), (⟨"CellRack", "setKind", "(II)V"⟩, 12), (⟨"CellRack", "clearTape", "()V"⟩, 12), (⟨"CellRack", "hasBytes", "(I)Z"⟩, 12), (⟨"CellRack", "setKindOfAll", "(II)V"⟩, 12), (⟨"CellRack", "isAsWritten", "(I)Z"⟩, 12), (⟨"CellRack", "hasItsCheck", "(I)Z"⟩, 12), (⟨"CellRackModel", "fails", "(ZI)Z"⟩, 13), (⟨"CellRackModel", "check", "(I)V"⟩, 13), (⟨"CellRackModel", "spread", "([BII)V"⟩, 13), (⟨"CellRackModel", "divide", "(I)V"⟩, 13), (⟨"CellRackModel", "stateOf", "(II)I"⟩, 13)]
theorem lw_r1 : ∀ q ∈ lw_privs_1, lw_okq q := List.forall_mem_cons.mpr ⟨lw_p0, List.forall_mem_cons.mpr ⟨lw_p1, List.forall_mem_cons.mpr ⟨lw_p2, List.forall_mem_cons.mpr ⟨lw_p3, List.forall_mem_cons.mpr ⟨lw_p4, List.forall_mem_cons.mpr ⟨lw_p5, List.forall_mem_cons.mpr ⟨lw_p6, List.forall_mem_cons.mpr ⟨lw_p7, List.forall_mem_cons.mpr ⟨lw_p8, List.forall_mem_cons.mpr ⟨lw_p9, List.forall_mem_cons.mpr ⟨lw_p10, List.forall_mem_cons.mpr ⟨lw_p11, List.forall_mem_cons.mpr ⟨lw_p12, List.forall_mem_cons.mpr ⟨lw_p13, List.forall_mem_cons.mpr ⟨lw_p14, List.forall_mem_cons.mpr ⟨lw_p15, fun _ h => absurd h List.not_mem_nil⟩⟩⟩⟩⟩⟩⟩⟩⟩⟩⟩⟩⟩⟩⟩⟩
theorem lw_p16 : lw_okq (⟨"CellRackModel", "isDamaged", "(I)Z"⟩, 13) := ⟨⟨by decide +kernel, by decide +kernel⟩, List.mem_of_getElem? (i := 341) (by decide +kernel), List.mem_of_getElem? (i := 438) (by decide +kernel), List.mem_of_getElem? (i := 439) (by decide +kernel)⟩
theorem lw_p17 : lw_okq (⟨"CellRackModel", "byteAt", "(II)I"⟩, 13) := ⟨⟨by decide +kernel, by decide +kernel⟩, List.mem_of_getElem? (i := 341) (by decide +kernel), List.mem_of_getElem? (i := 442) (by decide +kernel), List.mem_of_getElem? (i := 443) (by decide +kernel)⟩
theorem lw_p18 : lw_okq (⟨"CellRackModel", "strike", "(IIJI)V"⟩, 13) := ⟨⟨by decide +kernel, by decide +kernel⟩, List.mem_of_getElem? (i := 341) (by decide +kernel), List.mem_of_getElem? (i := 477) (by decide +kernel), List.mem_of_getElem? (i := 478) (by decide +kernel)⟩
theorem lw_p19 : lw_okq (⟨"CellRackModel", "isUnseen", "(I)Z"⟩, 13) := ⟨⟨by decide +kernel, by decide +kernel⟩, List.mem_of_getElem? (i := 341) (by decide +kernel), List.mem_of_getElem? (i := 481) (by decide +kernel), List.mem_of_getElem? (i := 482) (by decide +kernel)⟩
theorem lw_p20 : lw_okq (⟨"CellRackModel", "count", "(I)J"⟩, 13) := ⟨⟨by decide +kernel, by decide +kernel⟩, List.mem_of_getElem? (i := 341) (by decide +kernel), List.mem_of_getElem? (i := 497) (by decide +kernel), List.mem_of_getElem? (i := 498) (by decide +kernel)⟩
def lw_privs_2 : List (MethodName × Nat) := [(⟨"CellRackModel", "isDamaged", "(I)Z"⟩, 13), (⟨"CellRackModel", "byteAt", "(II)I"⟩, 13), (⟨"CellRackModel", "strike", "(IIJI)V"⟩, 13), (⟨"CellRackModel", "isUnseen", "(I)Z"⟩, 13), (⟨"CellRackModel", "count", "(I)J"⟩, 13)]
theorem lw_r2 : ∀ q ∈ lw_privs_2, lw_okq q := List.forall_mem_cons.mpr ⟨lw_p16, List.forall_mem_cons.mpr ⟨lw_p17, List.forall_mem_cons.mpr ⟨lw_p18, List.forall_mem_cons.mpr ⟨lw_p19, List.forall_mem_cons.mpr ⟨lw_p20, fun _ h => absurd h List.not_mem_nil⟩⟩⟩⟩⟩
def lw_privs : List (MethodName × Nat) := lw_privs_1 ++ (lw_privs_2)
def lw_tbl : List Cond := k2_sels lw_privs ++ tables_1
theorem lw_privs_ok : ∀ q ∈ lw_privs, lw_okq q := by
  show ∀ q ∈ lw_privs_1 ++ (lw_privs_2), lw_okq q
  exact List.forall_mem_append.mpr ⟨lw_r1, lw_r2⟩
end
section
/-! ===== BEGIN words of one list among another's, by their places ===== -/
theorem goodIn_r {big : List Cond} (ws : List Cond) (ps : List Nat) (hp : ws = ps.filterMap (fun i => big[i]?)) (h : ws.all goodWord = true) : GoodIn big ws := by
  intro w hw
  have h1 := List.all_eq_true.mp h w hw
  rw [hp] at hw
  obtain ⟨i, -, hi⟩ := List.mem_filterMap.mp hw
  have hm : w ∈ big := by first | exact List.mem_of_getElem? hi | exact List.getElem?_mem hi
  exact ⟨hm, good_of_word h1⟩
theorem goodIn_app {big a b : List Cond} (ha : GoodIn big a) (hb : GoodIn big b) : GoodIn big (a ++ b) := fun w h => (List.mem_append.mp h).elim (ha w) (hb w)
theorem goodIn_ca {big a b : List Cond} {c : Cond} (ha : GoodIn big (c :: a)) (hb : GoodIn big b) : GoodIn big (c :: (a ++ b)) := fun w h => (List.mem_cons.mp h).elim (fun e => ha w (List.mem_cons.mpr (Or.inl e))) (fun h => (List.mem_append.mp h).elim (fun h => ha w (List.mem_cons.mpr (Or.inr h))) (hb w))
theorem goodIn_sub {big ws : List Cond} (hm : ∀ w ∈ ws, w ∈ big) (h : ws.all goodWord = true) : GoodIn big ws := fun w hw => ⟨hm w hw, good_of_word (List.all_eq_true.mp h w hw)⟩
/-! ===== END ===== -/

/-! ===== BEGIN exceptions that leave a method, and their catching by the caller (launches without stack traces) ===== -/
section VXA
/-! The laws vx_back, vx_callV, vx_callS, vx_callSW, vx_throw0, vx_throwS follow proofs of the library, with one case more: JvmDerived/Free/Laws.lean (Back.of_free), Shelf42/LK1.lean (callV, callS), Shelf/KitTraced.lean (throwNew0V, throwNewS). -/
/-- where a method has thrown q: the class by its name, the cell, what was written, the world -/
def vx_T (XC : String → State → State → Prop) (st : State) (q : Addr) (t : State) (mc ms : Nat) (free : Addr → Prop) : Prop :=
  ∃ (E : String) (ce : Cell) (L : List Loc), XC E st t ∧ t.heap[q]? = some ce ∧ ce.vm = .none ∧ st.vm.findClass E = some ce.cls ∧ st.WarmedH t.vm ∧ st.sameButNew ({ t with vm := st.vm } : State) L mc ms ∧ ∀ z ∈ L, free z.base
def vx_Q (Qc : Array Value → State → Outcome → State → Prop) (XC : String → State → State → Prop) (mc ms : Nat) (free : Addr → Prop) : Array Value → State → Outcome → State → Prop := fun a st o t =>
  (Qc a st o t ∧ ∃ L, FrameEnd st o t L mc ms ∧ ∀ q ∈ L, free q.base) ∨ ∃ q, o = .threw q ∧ vx_T XC st q t mc ms free
/-- a callee that returns or throws -/
def vx_Met (l : Launch) (y : MethodName) (ws : List Cond) (rm : Room) (Pc : Array Value → State → Prop) (Qc : Array Value → State → Outcome → State → Prop) (XC : String → State → State → Prop) (mc ms : Nat) (free : Addr → Prop) : Prop :=
  MetFree l y (headSpec ws rm) Pc (fun _ _ _ _ _ => True) (vx_Q Qc XC mc ms free)
def vx_Post (XC : String → State → State → Prop) (mc ms : Nat) (free : Addr → Prop) : Pt → Array Value → Addr → Pt → Prop := fun A a q B =>
  ∃ (g : JFrame) (mk : MethodId) (t : State) (L : List Loc) (E : String) (ce : Cell), B.U.heap = t.heap ∧ B.U.vm = t.vm ∧ XC E (A.U.calling g mk a) t ∧ t.heap[q]? = some ce ∧ ce.vm = .none ∧ A.U.vm.findClass E = some ce.cls ∧ B.locs = A.locs ++ L ∧ (∀ z ∈ L, free z.base) ∧ B.cells = A.cells + mc ∧ B.slots = A.slots + ms
def vx_Back (l : Launch) (R : Room) (p : Program) (e : Env) (below : List Frame) (s : State) (sargs : Array Value) (y : MethodName) (len W9 : Nat)
    (Pre : Pt → Array Value → Prop) (Post : Pt → Array Value → Option Value → Pt → Prop) (PostX : Pt → Array Value → Addr → Pt → Prop) : Prop :=
  ∀ (m : MethodId) (meth : Method) (c : Code) (A : Pt) (g : JFrame) (ig : Instr) (mk : MethodId) (a : Array Value),
    Stand p l e R s m sargs below meth c A.U A.locs A.cells A.slots → g.method = m → g.locals.size = c.maxLocals → decode c.code g.pc = .ok (ig, len) →
    2 * g.monitorRoom + (g.stack.map fun v => v.category).sum ≤ W9 → A.U.methodNamed? y = some mk → Pre A a →
    (∃ (v : Option Value) (B : Pt), Stand p l e R s m sargs below meth c B.U B.locs B.cells B.slots ∧ Post A a v B ∧
      Steps p.tables e below (doInvoke e (A.U.setTop g) [] mk a).1 (B.U.setTop { g with pc := g.pc + len, stack := v.toList ++ g.stack })) ∨
    (∃ (q : Addr) (B : Pt), Stand p l e R s m sargs below meth c B.U B.locs B.cells B.slots ∧ PostX A a q B ∧
      Steps p.tables e below (doInvoke e (A.U.setTop g) [] mk a).1 ((B.U.setTop g).pushFrame (.throwing q)))
section Payer
variable {l : Launch} {R : Room} {p : Program} {e : Env} {below : List Frame} {s : State} {sargs : Array Value} {y : MethodName} {len W9 : Nat}
theorem vx_back {ws : List Cond} {rm : Room} {Pc : Array Value → State → Prop} {Qc : Array Value → State → Outcome → State → Prop} {XC : String → State → State → Prop} {mc ms : Nat} {free : Addr → Prop} {bytes : ByteArray} {maxL : Nat} {ret : Option FieldType}
    (hM : vx_Met l y ws rm Pc Qc XC mc ms free) (hblind : FrameBlind Pc) (hrc : rm.cells = mc) (hrs : rm.slots = ms)
    (hframes : rm.frames + 1 ≤ R.frames) (hlocals : W9 + (maxL + 11) + rm.locals ≤ R.locals)
    (hws : ∀ w ∈ ws, ∀ a' U, s.WarmedH U.vm → w.before a' U = true) (hcode : Cond.code y bytes maxL ret ∈ ws) (hinit : ∀ a' U, s.WarmedH U.vm → (Cond.initialized y.cls).before a' U = true) :
    vx_Back l R p e below s sargs y len W9 (PreOf R mc ms Pc) (PostOf Qc mc ms free) (vx_Post XC mc ms free) := by
  intro m meth c A g ig mk a X hg hsize hdg hW hn hp
  have h1 : (headSpec ws rm).pre.before a A.U = true := atoms_intro fun w hw => hws w hw _ _ X.warmed
  have h2 : (Cond.code y bytes maxL ret).before a A.U = true := hws _ hcode _ _ X.warmed
  have h3 : (Cond.initialized y.cls).before a A.U = true := hinit _ _ X.warmed
  have h4 : A.cells + (headSpec ws rm).room.cells ≤ R.cells := by rw [show (headSpec ws rm).room.cells = mc from hrc]; exact hp.1
  have h5 : A.slots + (headSpec ws rm).room.slots ≤ R.slots := by rw [show (headSpec ws rm).room.slots = ms from hrs]; exact hp.2.1
  have hPc : Pc a (A.U.calling g mk a) := hblind _ _ _ _ hp.2.2
  obtain ⟨U, Ls, c0, s0⟩ := A
  dsimp only [Pt.U, Pt.locs, Pt.cells, Pt.slots] at h1 h2 h3 h4 h5 X hn hPc ⊢
  obtain ⟨methY, cY, hmY, hcY, -, hlY, -, -, -, -⟩ := Cond.code_spec hn h2
  obtain ⟨kY, hkY, -⟩ := className_of_methodNamed hn
  have hinitY : kY.init = .initialized := Cond.initialized_spec (findClass_of_methodNamed hn) hkY h3
  have h : At U g.method c below := by rw [hg]; exact X.here
  have hlocals9 : W9 + (maxL + 11) + (headSpec ws rm).room.locals ≤ R.locals := hlocals
  have happ : (headSpec ws rm).appliesLoose y e.platform (U.calling g mk a) = true :=
    Spec.appliesLoose_calling (g := g) h hdg hn hkY hinitY
      (X.room_calling (g := g) (R' := (headSpec ws rm).room) hsize hmY hcY hframes (by rw [hlY]; omega) h4 h5) h1
  obtain ⟨mid, hmid⟩ := h.above
  have hfr : (U.setTop g).frames = (.java g :: mid) ++ below := by rw [State.frames_setTop' g h.top, hmid]; rfl
  obtain ⟨o, s₂, hsteps, -, hend, hq⟩ := Steps.callFree hM p X.admits X.cas X.clock (acts := []) hfr happ hPc trivial
  have hq' : vx_Q Qc XC mc ms free a (U.calling g mk a) o s₂ := hq
  rw [State.frames_setTop' g h.top] at hend
  obtain ⟨g₀, hg0⟩ := Option.isSome_iff_exists.mp h.top
  obtain ⟨r, hr⟩ := State.topJava?_eq_some.mp hg0
  have hr' : (({ U with heap := s₂.heap, slotsUsed := s₂.slotsUsed } : State).setVm s₂.vm).frames = .java g₀ :: r := hr
  rcases hq' with ⟨hqc, L, hfe, hL⟩ | ⟨q, rfl, E, ce, L, hx, hce, hcv, hcl, hW₂, hsm, hL⟩
  · obtain ⟨⟨v, rfl⟩, hW₂, e2, q2, q3, q4, q5, q6⟩ := id hfe
    have e3 : s₂ = ({ (U.calling g mk a).setFrames s₂.frames with heap := s₂.heap, slotsUsed := s₂.slotsUsed } : State).setVm s₂.vm := by
      have : s₂ = ({ s₂ with vm := (U.calling g mk a).vm } : State).setVm s₂.vm := rfl
      rw [e2] at this
      exact this
    obtain ⟨c₂, i₂, len₂, hc₂, hd₂, hf₂⟩ := hend
    have hW' : U.WarmedH s₂.vm := hW₂
    have hcc : c₂ = c := by
      have h1 : s₂.code? g.method = U.code? g.method := by
        rw [State.code?_eq, State.code?_eq, hW'.alike.method?]
      exact Option.some.inj (hc₂.symm.trans (h1.trans h.code))
    subst hcc
    have hlen : len₂ = len := by rw [hdg] at hd₂; cases hd₂; rfl
    subst hlen
    have hs₂ : s₂ = (({ U with heap := s₂.heap, slotsUsed := s₂.slotsUsed } : State).setVm s₂.vm).setTop { g with pc := g.pc + len₂, stack := v.toList ++ g.stack } := by
      refine e3.trans ?_
      rw [hf₂, State.calling_eq h.top, State.setFrames_setFrames, State.setTop_of_frames _ hr', hr]
      rfl
    have hsame : U.sameButNew ({ U with heap := s₂.heap, slotsUsed := s₂.slotsUsed } : State) L mc ms := by
      refine ⟨?_, q2, q3, q4, q5, q6⟩
      obtain ⟨t, ht, -⟩ := State.frames_cons hr
      show ({ U with heap := s₂.heap, slotsUsed := s₂.slotsUsed } : State) = { U.setFrames U.frames with heap := s₂.heap, slotsUsed := s₂.slotsUsed }
      rw [State.setFrames_self ht]
    subst hg
    refine Or.inl ⟨v, ⟨(({ U with heap := s₂.heap, slotsUsed := s₂.slotsUsed } : State).setVm s₂.vm), Ls ++ L, c0 + mc, s0 + ms⟩,
      ⟨X.admits, X.cas, X.clock, X.frames, X.room, X.hears, X.method, X.code, (X.here.setHeapUsed s₂.heap s₂.slotsUsed).setVm hW'.alike, X.tail, State.WarmedH.trans X.warmed hW', X.limits, X.bytes, X.same.trans (hsame.setVm s.vm)⟩,
      ⟨g, mk, s₂, L, rfl, rfl, hqc, rfl, hL, rfl, rfl⟩, ?_⟩
    show Steps p.tables e below _ ((({ U with heap := s₂.heap, slotsUsed := s₂.slotsUsed } : State).setVm s₂.vm).setTop { g with pc := g.pc + len₂, stack := v.toList ++ g.stack })
    rw [← hs₂]
    exact hsteps
  · obtain ⟨e2, q2, q3, q4, q5, q6⟩ := id hsm
    have e3 : s₂ = ({ (U.calling g mk a).setFrames s₂.frames with heap := s₂.heap, slotsUsed := s₂.slotsUsed } : State).setVm s₂.vm := by
      have : s₂ = ({ s₂ with vm := (U.calling g mk a).vm } : State).setVm s₂.vm := rfl
      rw [e2] at this
      exact this
    have hf₂ : s₂.frames = .throwing q :: .java g :: U.frames.tail := hend
    have hW' : U.WarmedH s₂.vm := hW₂
    have hs₂ : s₂ = ((({ U with heap := s₂.heap, slotsUsed := s₂.slotsUsed } : State).setVm s₂.vm).setTop g).pushFrame (.throwing q) := by
      refine e3.trans ?_
      rw [hf₂, State.calling_eq h.top, State.setFrames_setFrames, State.pushFrame, State.frames_setTop _ hr', State.setTop_of_frames _ hr', State.setFrames_setFrames, hr]
      rfl
    have hsame : U.sameButNew ({ U with heap := s₂.heap, slotsUsed := s₂.slotsUsed } : State) L mc ms := by
      refine ⟨?_, q2, q3, q4, q5, q6⟩
      obtain ⟨t, ht, -⟩ := State.frames_cons hr
      show ({ U with heap := s₂.heap, slotsUsed := s₂.slotsUsed } : State) = { U.setFrames U.frames with heap := s₂.heap, slotsUsed := s₂.slotsUsed }
      rw [State.setFrames_self ht]
    subst hg
    refine Or.inr ⟨q, ⟨(({ U with heap := s₂.heap, slotsUsed := s₂.slotsUsed } : State).setVm s₂.vm), Ls ++ L, c0 + mc, s0 + ms⟩,
      ⟨X.admits, X.cas, X.clock, X.frames, X.room, X.hears, X.method, X.code, (X.here.setHeapUsed s₂.heap s₂.slotsUsed).setVm hW'.alike, X.tail, State.WarmedH.trans X.warmed hW', X.limits, X.bytes, X.same.trans (hsame.setVm s.vm)⟩,
      ⟨g, mk, s₂, L, E, ce, rfl, rfl, hx, hce, hcv, hcl, rfl, hL, rfl, rfl⟩, ?_⟩
    show Steps p.tables e below _ (((({ U with heap := s₂.heap, slotsUsed := s₂.slotsUsed } : State).setVm s₂.vm).setTop g).pushFrame (.throwing q))
    rw [← hs₂]
    exact hsteps
end Payer
section Calls
variable {p : Program} {l : Launch} {e : Env} {R : Room} {s : State} {m : MethodId} {args : Array Value} {below : List Frame} {meth : Method} {c : Code} {T : State} {locs : List Loc} {cells slots : Nat}
theorem vx_callV (X : Stand p l e R s m args below meth c T locs cells slots) (hexec : p.tables.exec = Jvm.exec) {own C : String} {index : Nat} {y : MethodName} {bytes : ByteArray} {maxL : Nat} {ret : Option FieldType}
    (hown : s.vm.findClass own = some m.cls) (hlink : (Cond.methodLink own index y).before args s = true) (hinst : (Cond.instanceMethod y).before args s = true) (hsel : (Cond.selects C y y).before args s = true)
    (hcode : (Cond.code y bytes maxL ret).before args s = true) (hy : y.cls ≠ "java/lang/invoke/MethodHandle" ∧ y.cls ≠ "java/lang/invoke/VarHandle")
    {W9 : Nat} {Pre : Pt → Array Value → Prop} {Post : Pt → Array Value → Option Value → Pt → Prop} {PostX : Pt → Array Value → Addr → Pt → Prop} (hK : vx_Back l R p e below s args y 3 W9 Pre Post PostX)
    {b : Addr} {cellB : Cell} (hcell : T.heap[b]? = some cellB) (hobj : cellB.vm.isStatics = false) (hcls : s.vm.findClass C = some cellB.cls)
    {g : JFrame} (hg : g.method = m) (hsize : g.locals.size = c.maxLocals) {argsL rest : List Value} (hlen : ∀ sig, parseMethodDescriptor y.desc = some sig → argsL.length = sig.parameters.length)
    (hstack : g.stack = argsL.reverse ++ .ref b :: rest) (hW : 2 * g.monitorRoom + (rest.map fun v => v.category).sum ≤ W9) (hdg : decode c.code g.pc = .ok (.invokevirtual index, 3))
    (hpre : ∀ vm₁, s.WarmedH vm₁ → Pre ⟨T.setVm vm₁, locs, cells, slots⟩ (Value.ref b :: argsL).toArray) :
    (∃ (v : Option Value) (vm₁ : Vm) (B : Pt), s.WarmedH vm₁ ∧ Stand p l e R s m args below meth c B.U B.locs B.cells B.slots ∧ Post ⟨T.setVm vm₁, locs, cells, slots⟩ (Value.ref b :: argsL).toArray v B ∧
      ∀ target, Steps p.tables e below (B.U.setTop { g with pc := g.pc + 3, stack := v.toList ++ rest }) target → Steps p.tables e below (T.setTop g) target) ∨
    (∃ (q : Addr) (vm₁ : Vm) (B : Pt), s.WarmedH vm₁ ∧ Stand p l e R s m args below meth c B.U B.locs B.cells B.slots ∧ PostX ⟨T.setVm vm₁, locs, cells, slots⟩ (Value.ref b :: argsL).toArray q B ∧
      Steps p.tables e below (T.setTop g) ((B.U.setTop { g with stack := rest }).pushFrame (.throwing q))) := by
  obtain ⟨mk, methM, hnamed, hmethM, hstM, habM⟩ := Cond.instanceMethod_spec hinst
  obtain ⟨methM', cM, hmethM', -, -, -, -, -, -, hsigM⟩ := Cond.code_spec hnamed hcode
  cases hmethM.symm.trans hmethM'
  obtain ⟨c2, r2, m2, q1, q2, q3, q4, kP, hkP, hkPi⟩ := Cond.selects_spec hsel
  cases hcls.symm.trans q1
  cases (State.methodFound?_of_named hnamed hy).symm.trans q2
  cases hnamed.symm.trans q3
  have hselP : selectMethod e.platform s.vm cellB.cls mk = .method mk := by rw [Launch.admits_selectMethod X.admits]; exact q4
  obtain ⟨vm₁, X₁, hstep₁⟩ := X.invokevirtual hexec hown hlink hnamed hmethM hstM hkP hkPi hy (a := b) (cell := cellB) hcell
    (fun z h => by rw [h] at hobj; cases hobj) hselP hmethM habM hkP hkPi (g := g) hg (argsL := argsL) (rest := rest) (hlen _ hsigM) hstack hdg
  rcases hK m meth c ⟨T.setVm vm₁, locs, cells, slots⟩ { g with stack := rest } (.invokevirtual index) mk (Value.ref b :: argsL).toArray X₁ hg hsize hdg hW (X₁.named hnamed) (hpre vm₁ X₁.warmed) with ⟨v, B, X', hpost, hsteps⟩ | ⟨q, B, X', hpost, hsteps⟩
  · exact Or.inl ⟨v, vm₁, B, X₁.warmed, X', hpost, fun target h => hstep₁ _ fun acts => by rw [doInvoke_state]; exact hsteps.trans h⟩
  · exact Or.inr ⟨q, vm₁, B, X₁.warmed, X', hpost, hstep₁ _ fun acts => by rw [doInvoke_state]; exact hsteps⟩
theorem vx_callS (X : Stand p l e R s m args below meth c T locs cells slots) (hexec : p.tables.exec = Jvm.exec) {own : String} {index : Nat} {y : MethodName} {bytes : ByteArray} {maxL : Nat} {ret : Option FieldType}
    (hown : s.vm.findClass own = some m.cls) (hlink : (Cond.methodLink own index y).before args s = true) (hstat : (Cond.static y).before args s = true) (hinit : (Cond.initialized y.cls).before args s = true)
    (hcode : (Cond.code y bytes maxL ret).before args s = true) (hy : y.cls ≠ "java/lang/invoke/MethodHandle" ∧ y.cls ≠ "java/lang/invoke/VarHandle")
    {W9 : Nat} {Pre : Pt → Array Value → Prop} {Post : Pt → Array Value → Option Value → Pt → Prop} {PostX : Pt → Array Value → Addr → Pt → Prop} (hK : vx_Back l R p e below s args y 3 W9 Pre Post PostX)
    {g : JFrame} (hg : g.method = m) (hsize : g.locals.size = c.maxLocals) {argsL rest : List Value} (hlen : ∀ sig, parseMethodDescriptor y.desc = some sig → argsL.length = sig.parameters.length)
    (hstack : g.stack = argsL.reverse ++ rest) (hW : 2 * g.monitorRoom + (rest.map fun v => v.category).sum ≤ W9) (hdg : decode c.code g.pc = .ok (.invokestatic index, 3))
    (hpre : ∀ vm₁, s.WarmedH vm₁ → Pre ⟨T.setVm vm₁, locs, cells, slots⟩ argsL.toArray) :
    (∃ (v : Option Value) (vm₁ : Vm) (B : Pt), s.WarmedH vm₁ ∧ Stand p l e R s m args below meth c B.U B.locs B.cells B.slots ∧ Post ⟨T.setVm vm₁, locs, cells, slots⟩ argsL.toArray v B ∧
      ∀ target, Steps p.tables e below (B.U.setTop { g with pc := g.pc + 3, stack := v.toList ++ rest }) target → Steps p.tables e below (T.setTop g) target) ∨
    (∃ (q : Addr) (vm₁ : Vm) (B : Pt), s.WarmedH vm₁ ∧ Stand p l e R s m args below meth c B.U B.locs B.cells B.slots ∧ PostX ⟨T.setVm vm₁, locs, cells, slots⟩ argsL.toArray q B ∧
      Steps p.tables e below (T.setTop g) ((B.U.setTop { g with stack := rest }).pushFrame (.throwing q))) := by
  obtain ⟨mk, hnamed⟩ := Cond.code_named hcode
  obtain ⟨methM, cM, hmethM, -, -, -, -, -, -, hsigM⟩ := Cond.code_spec hnamed hcode
  have hstatic : methM.isStatic = true := Cond.static_spec hnamed hmethM hstat
  obtain ⟨kP, hkP, -⟩ := className_of_methodNamed hnamed
  have hinitP : kP.init = .initialized := Cond.initialized_spec (findClass_of_methodNamed hnamed) hkP hinit
  obtain ⟨vm₁, X₁, hstep₁⟩ := X.invokestatic hexec hown hlink hnamed hmethM hstatic hkP hinitP hy (g := g) hg (argsL := argsL) (rest := rest) (hlen _ hsigM) hstack hdg
  rcases hK m meth c ⟨T.setVm vm₁, locs, cells, slots⟩ { g with stack := rest } (.invokestatic index) mk argsL.toArray X₁ hg hsize hdg hW (X₁.named hnamed) (hpre vm₁ X₁.warmed) with ⟨v, B, X', hpost, hsteps⟩ | ⟨q, B, X', hpost, hsteps⟩
  · exact Or.inl ⟨v, vm₁, B, X₁.warmed, X', hpost, fun target h => hstep₁ _ fun acts => by rw [doInvoke_state]; exact hsteps.trans h⟩
  · exact Or.inr ⟨q, vm₁, B, X₁.warmed, X', hpost, hstep₁ _ fun acts => by rw [doInvoke_state]; exact hsteps⟩
end Calls
theorem vx_cls {s : State} {T : State} {vm₁ : Vm} {E : String} {k : ClassId} (hW : s.WarmedH vm₁) (h : (T.setVm vm₁).vm.findClass E = some k) : s.vm.findClass E = some k := by
  have h1 : vm₁.findClass E = some k := h
  rw [hW.alike.findClass] at h1
  exact h1
/-- the method's frame g, with q thrown over it -/
def vx_W (p : Program) (l : Launch) (e : Env) (R : Room) (s : State) (m : MethodId) (args : Array Value) (below : List Frame) (meth : Method) (c : Code) (H : Heap) (locs : List Loc) (cells slots : Nat) (Q : State → Prop) (g : JFrame) (q : Addr) : Prop :=
  ∀ T : State, T.heap = H → Stand p l e R s m args below meth c T locs cells slots → ∃ t, Steps p.tables e below ((T.setTop g).pushFrame (.throwing q)) t ∧ Q t
def vx_Run (p : Program) (l : Launch) (e : Env) (R : Room) (s : State) (m : MethodId) (args : Array Value) (below : List Frame) (meth : Method) (c : Code) (H : Heap) (locs : List Loc) (cells slots mc ms : Nat) (g : JFrame) (rest : List Value) (Qa : State → Outcome → State → Prop) (XC : String → State → State → Prop) (free : Addr → Prop) : Prop :=
  ∀ T : State, T.heap = H → Stand p l e R s m args below meth c T locs cells slots →
    (∃ (v : Option Value) (st₀ t T' : State) (L : List Loc), st₀.heap = H ∧ Stand p l e R s m args below meth c T' (locs ++ L) (cells + mc) (slots + ms) ∧ (∀ q ∈ L, free q.base) ∧ T'.heap = t.heap ∧ T'.vm = t.vm ∧ Qa st₀ (.returned v) t ∧
      Goes p e below T g T' { g with pc := g.pc + 3, stack := v.toList ++ rest }) ∨
    (∃ (q : Addr) (st₀ t T' : State) (L : List Loc) (E : String) (ce : Cell), st₀.heap = H ∧ Stand p l e R s m args below meth c T' (locs ++ L) (cells + mc) (slots + ms) ∧ (∀ z ∈ L, free z.base) ∧ T'.heap = t.heap ∧ T'.vm = t.vm ∧ XC E st₀ t ∧ t.heap[q]? = some ce ∧ ce.vm = .none ∧ s.vm.findClass E = some ce.cls ∧
      Steps p.tables e below (T.setTop g) ((T'.setTop { g with stack := rest }).pushFrame (.throwing q)))
def vx_X {S : Type} (px : S → Prop) (B : String → S → State → Prop) (A : Nat → Prop) : String → State → State → Prop := fun E st t => ∃ u : S, px u ∧ B E u t ∧ va_F A st t
section Runs
variable {p : Program} {l : Launch} {e : Env} {R : Room} {s : State} {m : MethodId} {args : Array Value} {below : List Frame} {meth : Method} {c : Code} {H : Heap} {locs : List Loc} {cells slots : Nat}
variable {y : MethodName} {bytes cc : ByteArray} {maxL nL mc ms n index : Nat} {ret : Option FieldType} {ws : List Cond} {rm : Room} {Pc : Array Value → State → Prop} {Qc : Array Value → State → Outcome → State → Prop} {XC : String → State → State → Prop} {free : Addr → Prop} {Ts : List Cond} {own C : String} {b : Addr} {As rest : List Value} {g : JFrame}
theorem vx_callBack (cb : CallB R s args own index y bytes maxL ret ws rm mc ms n) (hM : vx_Met l y ws rm Pc Qc XC mc ms free) (hbl : FrameBlind Pc) : vx_Back l R p e below s args y 3 8 (PreOf R mc ms Pc) (PostOf Qc mc ms free) (vx_Post XC mc ms free) := by
  obtain ⟨hrc, hrs, hfr, hlo, hws, hcw, -, hini, -⟩ := cb
  exact vx_back (bytes := bytes) (maxL := maxL) (ret := ret) hM hbl hrc hrs hfr hlo hws hcw (fun a' U hW => word_at hW (Or.inl (by first | rfl | simp [Cond.onTables, Cond.keeps, Cond.steady])) hini)
theorem vx_runV (S : CallFix p m c cc nL s args Ts own) (hM : vx_Met l y ws rm Pc Qc XC mc ms free) (cw : CallW R s args own C index y bytes maxL ret ws rm mc ms n) (hp : PreV s H C b Pc As)
    (hg : g.method = m) (hn : As.length = n) (hsize : g.locals.size = nL) (hstack : g.stack = As.reverse ++ .ref b :: rest) (hW : 2 * g.monitorRoom + (rest.map fun v => v.category).sum ≤ 8) (hdg : decode cc g.pc = .ok (.invokevirtual index, 3)) (hf : cells + mc ≤ R.cells ∧ slots + ms ≤ R.slots) :
    vx_Run p l e R s m args below meth c H locs cells slots mc ms g rest (Qc (Value.ref b :: As).toArray) XC free := by
  have hK : vx_Back l R p e below s args y 3 8 (PreOf R mc ms Pc) (PostOf Qc mc ms free) (vx_Post XC mc ms free) := vx_callBack cw.1 hM hp.1
  obtain ⟨⟨-, -, -, -, -, -, hcode, -, hy, hlen, hl⟩, hin, hse⟩ := cw
  obtain ⟨hx, hb, hml, ho, -⟩ := S
  obtain ⟨-, ⟨cellB, hcB, hoB, hclB⟩, hPc⟩ := hp
  intro T hT X
  rcases vx_callV X hx (C := C) (bytes := bytes) (maxL := maxL) (ret := ret) ho hl hin hse hcode hy hK (by rw [hT]; exact hcB) hoB hclB hg (hsize.trans hml.symm) (argsL := As) (rest := rest) (fun sig h => hn.trans (hlen sig h)) hstack hW (by rw [hb]; exact hdg)
    (fun vm₁ hW₁ => ⟨hf.1, hf.2, hPc (T.setVm vm₁) hT hW₁⟩) with ⟨v, vm₁, ⟨U', l2, c2, s2⟩, hW₁, X', ⟨g', mk, t, L, e1, e2, hq, h1, hL, h2, h3⟩, st⟩ | ⟨q, vm₁, ⟨U', l2, c2, s2⟩, hW₁, X', ⟨g', mk, t, L, E, ce, e1, e2, hq, hce, hcv, hcl, h1, hL, h2, h3⟩, st⟩
  · dsimp only [Pt.U, Pt.locs, Pt.cells, Pt.slots] at X' e1 e2 h1 h2 h3 st
    subst h1; subst h2; subst h3
    exact Or.inl ⟨v, (T.setVm vm₁).calling g' mk (Value.ref b :: As).toArray, t, U', L, hT, X', hL, e1, e2, hq, st⟩
  · dsimp only [Pt.U, Pt.locs, Pt.cells, Pt.slots] at X' e1 e2 h1 h2 h3 st hcl
    subst h1; subst h2; subst h3
    exact Or.inr ⟨q, (T.setVm vm₁).calling g' mk (Value.ref b :: As).toArray, t, U', L, E, ce, hT, X', hL, e1, e2, hq, hce, hcv, vx_cls hW₁ hcl, st⟩
theorem vx_runS (S : CallFix p m c cc nL s args Ts own) (hM : vx_Met l y ws rm Pc Qc XC mc ms free) (cw : CallB R s args own index y bytes maxL ret ws rm mc ms n ∧ (Cond.static y).before args s = true) (hp : PreS s H Pc As)
    (hg : g.method = m) (hn : As.length = n) (hsize : g.locals.size = nL) (hstack : g.stack = As.reverse ++ rest) (hW : 2 * g.monitorRoom + (rest.map fun v => v.category).sum ≤ 8) (hdg : decode cc g.pc = .ok (.invokestatic index, 3)) (hf : cells + mc ≤ R.cells ∧ slots + ms ≤ R.slots) :
    vx_Run p l e R s m args below meth c H locs cells slots mc ms g rest (Qc As.toArray) XC free := by
  have hK : vx_Back l R p e below s args y 3 8 (PreOf R mc ms Pc) (PostOf Qc mc ms free) (vx_Post XC mc ms free) := vx_callBack cw.1 hM hp.1
  obtain ⟨⟨-, -, -, -, -, -, hcode, hini, hy, hlen, hl⟩, hstt⟩ := cw
  obtain ⟨hx, hb, hml, ho, -⟩ := S
  intro T hT X
  rcases vx_callS X hx (bytes := bytes) (maxL := maxL) (ret := ret) ho hl hstt hini hcode hy hK hg (hsize.trans hml.symm) (argsL := As) (rest := rest) (fun sig h => hn.trans (hlen sig h)) hstack hW (by rw [hb]; exact hdg)
    (fun vm₁ hW₁ => ⟨hf.1, hf.2, hp.2 (T.setVm vm₁) hT hW₁⟩) with ⟨v, vm₁, ⟨U', l2, c2, s2⟩, hW₁, X', ⟨g', mk, t, L, e1, e2, hq, h1, hL, h2, h3⟩, st⟩ | ⟨q, vm₁, ⟨U', l2, c2, s2⟩, hW₁, X', ⟨g', mk, t, L, E, ce, e1, e2, hq, hce, hcv, hcl, h1, hL, h2, h3⟩, st⟩
  · dsimp only [Pt.U, Pt.locs, Pt.cells, Pt.slots] at X' e1 e2 h1 h2 h3 st
    subst h1; subst h2; subst h3
    exact Or.inl ⟨v, (T.setVm vm₁).calling g' mk As.toArray, t, U', L, hT, X', hL, e1, e2, hq, st⟩
  · dsimp only [Pt.U, Pt.locs, Pt.cells, Pt.slots] at X' e1 e2 h1 h2 h3 st hcl
    subst h1; subst h2; subst h3
    exact Or.inr ⟨q, (T.setVm vm₁).calling g' mk As.toArray, t, U', L, E, ce, hT, X', hL, e1, e2, hq, hce, hcv, vx_cls hW₁ hcl, st⟩
end Runs
section Rows
variable {p : Program} {l : Launch} {e : Env} {R : Room} {s : State} {m : MethodId} {args : Array Value} {below : List Frame} {meth : Method} {c : Code} {H : Heap} {locs : List Loc} {cells slots : Nat} {Q : State → Prop}
variable {mc ms : Nat} {free : Addr → Prop} {A0 A1 : Nat → Prop} {H0 : Heap} {a : Array Value} {pc : Nat} {ls : Array Slot} {st0 rest : List Value}
theorem vx_keep {st₀ t T' : State} {L : List Loc} (h0 : st₀.heap = H) (e1 : T'.heap = t.heap) (hS : va_S A0 H0 H locs) (hA : ∀ q, q < H.size → A1 q → A0 q) (hf : ∀ q, free q → A0 q) (hL : ∀ q ∈ L, free q.base) (hF : va_F A1 st₀ t) :
    H.size ≤ T'.heap.size ∧ (∀ q : Nat, q < H.size → ¬ A1 q → T'.heap[q]? = H[q]?) ∧ va_S A0 H0 T'.heap (locs ++ L) := by
  obtain ⟨hz, hk⟩ := hF
  rw [h0] at hz hk
  exact ⟨by rw [e1]; exact hz, fun q h1 h2 => by rw [e1]; exact hk q h1 h2,
    ⟨Nat.le_trans hS.1 (by rw [e1]; exact hz), fun q h1 h2 => by rw [e1, hk q (Nat.lt_of_lt_of_le h1 hS.1) (fun z => h2 (hA q (Nat.lt_of_lt_of_le h1 hS.1) z))]; exact hS.2.1 q h1 h2, fun q hq => by
      rcases List.mem_append.mp hq with h | h
      · exact hS.2.2 q h
      · exact hf _ (hL q h)⟩⟩
theorem vx_calli {S SX : Type} {post : Int32 → S → Prop} {px : SX → Prop} {B : S → State → Prop} {BX : String → SX → State → Prop} {AX : Nat → Prop} (hr : vx_Run p l e R s m args below meth c H locs cells slots mc ms (F0 m pc ls st0) rest (va_Qi post B A1 a) (vx_X px BX AX) free) (hS : va_S A0 H0 H locs) (hA : ∀ q, q < H.size → A1 q → A0 q) (hf : ∀ q, free q → A0 q) (hAX : ∀ q, q < H.size → AX q → A0 q)
    (kx : ∀ (E : String) (ce : Cell) (q9 : Addr) (u : SX) (t : State) (H1 : Heap) (locs1 : List Loc), t.heap = H1 → s.vm.Alike t.vm → px u → BX E u t → H.size ≤ H1.size → (∀ q : Nat, q < H.size → ¬ AX q → H1[q]? = H[q]?) → va_S A0 H0 H1 locs1 → H1[q9]? = some ce → ce.vm = .none → s.vm.findClass E = some ce.cls → vx_W p l e R s m args below meth c H1 locs1 (cells + mc) (slots + ms) Q (F0 m pc ls rest) q9)
    (kk : ∀ (r : Int32) (u : S) (t : State) (H1 : Heap) (locs1 : List Loc), t.heap = H1 → s.vm.Alike t.vm → post r u → B u t → H.size ≤ H1.size → (∀ q : Nat, q < H.size → ¬ A1 q → H1[q]? = H[q]?) → va_S A0 H0 H1 locs1 → W p l e R s m args below meth c H1 locs1 (cells + mc) (slots + ms) Q (F0 m (pc + 3) ls (.int r :: rest))) : W p l e R s m args below meth c H locs cells slots Q (F0 m pc ls st0) := by
  intro T hT X
  rcases hr T hT X with ⟨v, st₀, t, T', L, h0, X', hL, e1, e2, ⟨⟨r, u, hv, hp, hb⟩, hF⟩, st⟩ | ⟨q, st₀, t, T', L, E, ce, h0, X', hL, e1, e2, ⟨u, hp, hb, hF⟩, hce, hcv, hcl, st⟩
  · cases hv
    obtain ⟨k1, k2, k3⟩ := vx_keep h0 e1 hS hA hf hL hF
    obtain ⟨t2, a1, b1⟩ := kk r u t T'.heap (locs ++ L) e1.symm (by rw [← e2]; exact X'.warmed.alike) hp hb k1 k2 k3 T' rfl X'
    exact ⟨t2, st t2 a1, b1⟩
  · obtain ⟨k1, k2, k3⟩ := vx_keep h0 e1 hS hAX hf hL hF
    obtain ⟨t2, a1, b1⟩ := kx E ce q u t T'.heap (locs ++ L) e1.symm (by rw [← e2]; exact X'.warmed.alike) hp hb k1 k2 k3 (by rw [e1]; exact hce) hcv hcl T' rfl X'
    exact ⟨t2, st.trans a1, b1⟩
theorem vx_calll {S SX : Type} {post : Int64 → S → Prop} {px : SX → Prop} {B : S → State → Prop} {BX : String → SX → State → Prop} {AX : Nat → Prop} (hr : vx_Run p l e R s m args below meth c H locs cells slots mc ms (F0 m pc ls st0) rest (va_Ql post B A1 a) (vx_X px BX AX) free) (hS : va_S A0 H0 H locs) (hA : ∀ q, q < H.size → A1 q → A0 q) (hf : ∀ q, free q → A0 q) (hAX : ∀ q, q < H.size → AX q → A0 q)
    (kx : ∀ (E : String) (ce : Cell) (q9 : Addr) (u : SX) (t : State) (H1 : Heap) (locs1 : List Loc), t.heap = H1 → s.vm.Alike t.vm → px u → BX E u t → H.size ≤ H1.size → (∀ q : Nat, q < H.size → ¬ AX q → H1[q]? = H[q]?) → va_S A0 H0 H1 locs1 → H1[q9]? = some ce → ce.vm = .none → s.vm.findClass E = some ce.cls → vx_W p l e R s m args below meth c H1 locs1 (cells + mc) (slots + ms) Q (F0 m pc ls rest) q9)
    (kk : ∀ (r : Int64) (u : S) (t : State) (H1 : Heap) (locs1 : List Loc), t.heap = H1 → s.vm.Alike t.vm → post r u → B u t → H.size ≤ H1.size → (∀ q : Nat, q < H.size → ¬ A1 q → H1[q]? = H[q]?) → va_S A0 H0 H1 locs1 → W p l e R s m args below meth c H1 locs1 (cells + mc) (slots + ms) Q (F0 m (pc + 3) ls (.long r :: rest))) : W p l e R s m args below meth c H locs cells slots Q (F0 m pc ls st0) := by
  intro T hT X
  rcases hr T hT X with ⟨v, st₀, t, T', L, h0, X', hL, e1, e2, ⟨⟨r, u, hv, hp, hb⟩, hF⟩, st⟩ | ⟨q, st₀, t, T', L, E, ce, h0, X', hL, e1, e2, ⟨u, hp, hb, hF⟩, hce, hcv, hcl, st⟩
  · cases hv
    obtain ⟨k1, k2, k3⟩ := vx_keep h0 e1 hS hA hf hL hF
    obtain ⟨t2, a1, b1⟩ := kk r u t T'.heap (locs ++ L) e1.symm (by rw [← e2]; exact X'.warmed.alike) hp hb k1 k2 k3 T' rfl X'
    exact ⟨t2, st t2 a1, b1⟩
  · obtain ⟨k1, k2, k3⟩ := vx_keep h0 e1 hS hAX hf hL hF
    obtain ⟨t2, a1, b1⟩ := kx E ce q u t T'.heap (locs ++ L) e1.symm (by rw [← e2]; exact X'.warmed.alike) hp hb k1 k2 k3 (by rw [e1]; exact hce) hcv hcl T' rfl X'
    exact ⟨t2, st.trans a1, b1⟩
theorem vx_callf {S SX : Type} {post : UInt32 → S → Prop} {px : SX → Prop} {B : S → State → Prop} {BX : String → SX → State → Prop} {AX : Nat → Prop} (hr : vx_Run p l e R s m args below meth c H locs cells slots mc ms (F0 m pc ls st0) rest (va_Qf post B A1 a) (vx_X px BX AX) free) (hS : va_S A0 H0 H locs) (hA : ∀ q, q < H.size → A1 q → A0 q) (hf : ∀ q, free q → A0 q) (hAX : ∀ q, q < H.size → AX q → A0 q)
    (kx : ∀ (E : String) (ce : Cell) (q9 : Addr) (u : SX) (t : State) (H1 : Heap) (locs1 : List Loc), t.heap = H1 → s.vm.Alike t.vm → px u → BX E u t → H.size ≤ H1.size → (∀ q : Nat, q < H.size → ¬ AX q → H1[q]? = H[q]?) → va_S A0 H0 H1 locs1 → H1[q9]? = some ce → ce.vm = .none → s.vm.findClass E = some ce.cls → vx_W p l e R s m args below meth c H1 locs1 (cells + mc) (slots + ms) Q (F0 m pc ls rest) q9)
    (kk : ∀ (r : UInt32) (u : S) (t : State) (H1 : Heap) (locs1 : List Loc), t.heap = H1 → s.vm.Alike t.vm → post r u → B u t → H.size ≤ H1.size → (∀ q : Nat, q < H.size → ¬ A1 q → H1[q]? = H[q]?) → va_S A0 H0 H1 locs1 → W p l e R s m args below meth c H1 locs1 (cells + mc) (slots + ms) Q (F0 m (pc + 3) ls (.float r :: rest))) : W p l e R s m args below meth c H locs cells slots Q (F0 m pc ls st0) := by
  intro T hT X
  rcases hr T hT X with ⟨v, st₀, t, T', L, h0, X', hL, e1, e2, ⟨⟨r, u, hv, hp, hb⟩, hF⟩, st⟩ | ⟨q, st₀, t, T', L, E, ce, h0, X', hL, e1, e2, ⟨u, hp, hb, hF⟩, hce, hcv, hcl, st⟩
  · cases hv
    obtain ⟨k1, k2, k3⟩ := vx_keep h0 e1 hS hA hf hL hF
    obtain ⟨t2, a1, b1⟩ := kk r u t T'.heap (locs ++ L) e1.symm (by rw [← e2]; exact X'.warmed.alike) hp hb k1 k2 k3 T' rfl X'
    exact ⟨t2, st t2 a1, b1⟩
  · obtain ⟨k1, k2, k3⟩ := vx_keep h0 e1 hS hAX hf hL hF
    obtain ⟨t2, a1, b1⟩ := kx E ce q u t T'.heap (locs ++ L) e1.symm (by rw [← e2]; exact X'.warmed.alike) hp hb k1 k2 k3 (by rw [e1]; exact hce) hcv hcl T' rfl X'
    exact ⟨t2, st.trans a1, b1⟩
theorem vx_calld {S SX : Type} {post : UInt64 → S → Prop} {px : SX → Prop} {B : S → State → Prop} {BX : String → SX → State → Prop} {AX : Nat → Prop} (hr : vx_Run p l e R s m args below meth c H locs cells slots mc ms (F0 m pc ls st0) rest (va_Qd post B A1 a) (vx_X px BX AX) free) (hS : va_S A0 H0 H locs) (hA : ∀ q, q < H.size → A1 q → A0 q) (hf : ∀ q, free q → A0 q) (hAX : ∀ q, q < H.size → AX q → A0 q)
    (kx : ∀ (E : String) (ce : Cell) (q9 : Addr) (u : SX) (t : State) (H1 : Heap) (locs1 : List Loc), t.heap = H1 → s.vm.Alike t.vm → px u → BX E u t → H.size ≤ H1.size → (∀ q : Nat, q < H.size → ¬ AX q → H1[q]? = H[q]?) → va_S A0 H0 H1 locs1 → H1[q9]? = some ce → ce.vm = .none → s.vm.findClass E = some ce.cls → vx_W p l e R s m args below meth c H1 locs1 (cells + mc) (slots + ms) Q (F0 m pc ls rest) q9)
    (kk : ∀ (r : UInt64) (u : S) (t : State) (H1 : Heap) (locs1 : List Loc), t.heap = H1 → s.vm.Alike t.vm → post r u → B u t → H.size ≤ H1.size → (∀ q : Nat, q < H.size → ¬ A1 q → H1[q]? = H[q]?) → va_S A0 H0 H1 locs1 → W p l e R s m args below meth c H1 locs1 (cells + mc) (slots + ms) Q (F0 m (pc + 3) ls (.double r :: rest))) : W p l e R s m args below meth c H locs cells slots Q (F0 m pc ls st0) := by
  intro T hT X
  rcases hr T hT X with ⟨v, st₀, t, T', L, h0, X', hL, e1, e2, ⟨⟨r, u, hv, hp, hb⟩, hF⟩, st⟩ | ⟨q, st₀, t, T', L, E, ce, h0, X', hL, e1, e2, ⟨u, hp, hb, hF⟩, hce, hcv, hcl, st⟩
  · cases hv
    obtain ⟨k1, k2, k3⟩ := vx_keep h0 e1 hS hA hf hL hF
    obtain ⟨t2, a1, b1⟩ := kk r u t T'.heap (locs ++ L) e1.symm (by rw [← e2]; exact X'.warmed.alike) hp hb k1 k2 k3 T' rfl X'
    exact ⟨t2, st t2 a1, b1⟩
  · obtain ⟨k1, k2, k3⟩ := vx_keep h0 e1 hS hAX hf hL hF
    obtain ⟨t2, a1, b1⟩ := kx E ce q u t T'.heap (locs ++ L) e1.symm (by rw [← e2]; exact X'.warmed.alike) hp hb k1 k2 k3 (by rw [e1]; exact hce) hcv hcl T' rfl X'
    exact ⟨t2, st.trans a1, b1⟩
theorem vx_callv {S SX : Type} {post : S → Prop} {px : SX → Prop} {B : S → State → Prop} {BX : String → SX → State → Prop} {AX : Nat → Prop} (hr : vx_Run p l e R s m args below meth c H locs cells slots mc ms (F0 m pc ls st0) rest (va_Qv post B A1 a) (vx_X px BX AX) free) (hS : va_S A0 H0 H locs) (hA : ∀ q, q < H.size → A1 q → A0 q) (hf : ∀ q, free q → A0 q) (hAX : ∀ q, q < H.size → AX q → A0 q)
    (kx : ∀ (E : String) (ce : Cell) (q9 : Addr) (u : SX) (t : State) (H1 : Heap) (locs1 : List Loc), t.heap = H1 → s.vm.Alike t.vm → px u → BX E u t → H.size ≤ H1.size → (∀ q : Nat, q < H.size → ¬ AX q → H1[q]? = H[q]?) → va_S A0 H0 H1 locs1 → H1[q9]? = some ce → ce.vm = .none → s.vm.findClass E = some ce.cls → vx_W p l e R s m args below meth c H1 locs1 (cells + mc) (slots + ms) Q (F0 m pc ls rest) q9)
    (kk : ∀ (u : S) (t : State) (H1 : Heap) (locs1 : List Loc), t.heap = H1 → s.vm.Alike t.vm → post u → B u t → H.size ≤ H1.size → (∀ q : Nat, q < H.size → ¬ A1 q → H1[q]? = H[q]?) → va_S A0 H0 H1 locs1 → W p l e R s m args below meth c H1 locs1 (cells + mc) (slots + ms) Q (F0 m (pc + 3) ls (rest))) : W p l e R s m args below meth c H locs cells slots Q (F0 m pc ls st0) := by
  intro T hT X
  rcases hr T hT X with ⟨v, st₀, t, T', L, h0, X', hL, e1, e2, ⟨⟨u, hv, hp, hb⟩, hF⟩, st⟩ | ⟨q, st₀, t, T', L, E, ce, h0, X', hL, e1, e2, ⟨u, hp, hb, hF⟩, hce, hcv, hcl, st⟩
  · cases hv
    obtain ⟨k1, k2, k3⟩ := vx_keep h0 e1 hS hA hf hL hF
    obtain ⟨t2, a1, b1⟩ := kk u t T'.heap (locs ++ L) e1.symm (by rw [← e2]; exact X'.warmed.alike) hp hb k1 k2 k3 T' rfl X'
    exact ⟨t2, st t2 a1, b1⟩
  · obtain ⟨k1, k2, k3⟩ := vx_keep h0 e1 hS hAX hf hL hF
    obtain ⟨t2, a1, b1⟩ := kx E ce q u t T'.heap (locs ++ L) e1.symm (by rw [← e2]; exact X'.warmed.alike) hp hb k1 k2 k3 (by rw [e1]; exact hce) hcv hcl T' rfl X'
    exact ⟨t2, st.trans a1, b1⟩
end Rows
section Ends
variable {p : Program} {l : Launch} {e : Env} {R : Room} {s : State} {m : MethodId} {args : Array Value} {below : List Frame} {meth : Method} {c : Code} {H : Heap} {locs : List Loc} {cells slots : Nat} {Q : State → Prop}
variable {mc ms : Nat} {free : Addr → Prop} {A0 A1 : Nat → Prop} {H0 : Heap} {a : Array Value} {ls : Array Slot} {st0 rest : List Value}
variable {Qc : Array Value → State → Outcome → State → Prop} {XC : String → State → State → Prop}
/-- what a body that may throw owes at its end -/
def vx_MQ (below : List Frame) (Qc : Array Value → State → Outcome → State → Prop) (XC : String → State → State → Prop) (a : Array Value) (s : State) (mc ms : Nat) (free : Addr → Prop) : State → Prop := fun t =>
  ∃ o, t.status = .running ∧ Ended t below o ∧ vx_Q Qc XC mc ms free a s o t
theorem vx_ret {g : JFrame} {mc ms : Nat} (k : W p l e R s m args below meth c H locs cells slots (MQ below Qc args s mc ms free) g) : W p l e R s m args below meth c H locs cells slots (vx_MQ below Qc XC args s mc ms free) g := by
  intro T hT X
  obtain ⟨t, a1, o, b1, b2, b3, b4⟩ := k T hT X
  exact ⟨t, a1, o, b1, b2, Or.inl ⟨b3, b4⟩⟩
/-- not caught here: it goes on to the caller -/
theorem vx_widen {g : JFrame} {q : Addr} {k n : Nat} (h1 : cells ≤ k) (h2 : slots ≤ n) (kk : vx_W p l e R s m args below meth c H locs k n Q g q) : vx_W p l e R s m args below meth c H locs cells slots Q g q := fun T hT X => kk T hT (stand_widen X h1 h2)
theorem vx_out {pc : Nat} {E : String} {ce : Cell} {q : Addr} {mc ms : Nat} (hout : ∀ x ∈ c.exceptionTable.toList, covers x pc = false) (hlocks : meth.locks = false) (hcell : H[q]? = some ce) (hv : ce.vm = .none) (hcl : s.vm.findClass E = some ce.cls)
    (hx : ∀ t : State, t.heap = H → s.vm.Alike t.vm → XC E s t) (hf : ∀ z ∈ locs, free z.base) (hc : cells ≤ mc) (hs : slots ≤ ms) :
    vx_W p l e R s m args below meth c H locs cells slots (vx_MQ below Qc XC args s mc ms free) (F0 m pc ls rest) q := by
  intro T hT X
  obtain ⟨st1, hrun, hend, hW, hsm⟩ := X.leaveThrown q (g := F0 m pc ls rest) rfl rfl rfl hout hlocks
  have hcell9 : (T.setFrames (.throwing q :: below)).heap[q]? = some ce := by
    show T.heap[q]? = some ce
    rw [hT]; exact hcell
  exact ⟨_, st1, .threw q, hrun, hend, Or.inr ⟨q, rfl, E, ce, locs, hx _ hT hW.alike, hcell9, hv, hcl, hW, hsm.mono hc hs, hf⟩⟩
theorem vx_frame {U : State} {k n : Nat} (h : s.sameButNew ({ U with vm := s.vm } : State) locs k n) : s.heap.size ≤ U.heap.size ∧ ∀ q : Nat, q < s.heap.size → (∀ z ∈ locs, z.base ≠ q) → U.heap[q]? = s.heap[q]? := by
  obtain ⟨-, h2, -, -, -, h6⟩ := h
  refine ⟨h2, fun q hq hz => ?_⟩
  obtain ⟨c9, e1, e2, e3, e4⟩ := h6 q _ (Array.getElem?_eq_getElem hq)
  have hs : c9.slots = (s.heap[q]).slots := Array.ext_getElem? fun i => e4 i fun hm => hz _ hm rfl
  have h9 : c9 = s.heap[q] := by
    rw [hs] at e2
    exact e2
  have e5 : U.heap[q]? = some c9 := e1
  rw [e5, h9, Array.getElem?_eq_getElem hq]
/-- the words of a throw but the four that speak of the heap -/
def vx_no (w : Cond) : Bool := decide (w ≠ .isRef (.static Bundle.tN "UNASSIGNED_STACK" Bundle.steD)) && decide (w ≠ .isRef (.static Bundle.tN "SUPPRESSED_SENTINEL" Bundle.listD)) && decide (w ≠ .laysStatic Bundle.tN "UNASSIGNED_STACK" Bundle.steD) && decide (w ≠ .laysStatic Bundle.tN "SUPPRESSED_SENTINEL" Bundle.listD)
def vx_at0 (own : String) (ic : Nat) (X : String) (names : List String) : List Cond := (Bundle.ownAtoms0 own ic X names).filter vx_no
def vx_atS (own : String) (ic : Nat) (X : String) (names : List String) : List Cond := (Bundle.ownAtoms own ic X names).filter vx_no
/-- a word that the tables alone decide, or a good one -/
def vx_ot (w : Cond) : Bool := w.onTables || goodWord w
theorem vx_ot_at {args a' : Array Value} {s U : State} {w : Cond} (hW : s.WarmedH U.vm) (hvm : s.vm = U.vm) (hg : vx_ot w = true) (h : w.before args s = true) : w.before a' U = true := by
  simp only [vx_ot, Bool.or_eq_true] at hg
  rcases hg with hg | hg
  · exact va_tabs hg hvm h
  · exact word_at hW (good_of_word hg) h
/-- a list's words: the good ones out of the method's own list, the others by premises of their own -/
theorem vx_hat {args : Array Value} {s : State} {L B : List Cond} (h1 : ∀ w ∈ L.filter goodWord, w.before args s = true) (h2 : ∀ w ∈ L.filter (fun w => !goodWord w), w ∈ B) (h3 : ∀ w ∈ B, w.before args s = true) : ∀ w ∈ L, w.before args s = true := by
  intro w hw
  by_cases g : goodWord w = true
  · exact h1 w (List.mem_filter.mpr ⟨hw, g⟩)
  · refine h3 w (h2 w (List.mem_filter.mpr ⟨hw, ?_⟩))
    show (!goodWord w) = true
    cases hgw : goodWord w
    · rfl
    · exact absurd hgw g
theorem vx_c {args : Array Value} {s : State} {w : Cond} {B : List Cond} (h : w.before args s = true) (t : ∀ w ∈ B, w.before args s = true) : ∀ w' ∈ w :: B, w'.before args s = true := fun w' h' => (List.mem_cons.mp h').elim (fun e => by rw [e]; exact h) (t w')
theorem vx_n {args : Array Value} {s : State} : ∀ w ∈ ([] : List Cond), w.before args s = true := fun _ h => nomatch h
theorem vx_own {args : Array Value} {s : State} {L : List Cond} (h1 : ∀ w ∈ L.filter vx_no, w.before args s = true)
    (hU : (Cond.isRef (.static Bundle.tN "UNASSIGNED_STACK" Bundle.steD)).before args s = true) (hN : (Cond.isRef (.static Bundle.tN "SUPPRESSED_SENTINEL" Bundle.listD)).before args s = true)
    (lU : (Cond.laysStatic Bundle.tN "UNASSIGNED_STACK" Bundle.steD).before args s = true) (lN : (Cond.laysStatic Bundle.tN "SUPPRESSED_SENTINEL" Bundle.listD).before args s = true) : ∀ w ∈ L, w.before args s = true := by
  intro w hw
  by_cases e1 : w = .isRef (.static Bundle.tN "UNASSIGNED_STACK" Bundle.steD)
  · rw [e1]; exact hU
  · by_cases e2 : w = .isRef (.static Bundle.tN "SUPPRESSED_SENTINEL" Bundle.listD)
    · rw [e2]; exact hN
    · by_cases e3 : w = .laysStatic Bundle.tN "UNASSIGNED_STACK" Bundle.steD
      · rw [e3]; exact lU
      · by_cases e4 : w = .laysStatic Bundle.tN "SUPPRESSED_SENTINEL" Bundle.listD
        · rw [e4]; exact lN
        · exact h1 w (List.mem_filter.mpr ⟨hw, by unfold vx_no; rw [decide_eq_true e1, decide_eq_true e2, decide_eq_true e3, decide_eq_true e4]; rfl⟩)
/-- where a static field lies, its class's statics cell in H -/
def vx_L (C n d : String) (A : Nat → Prop) (U : State) (H : Heap) : Prop := ∃ (c : ClassId) (k : Class) (i : Nat) (f : Field) (a : Nat) (cell : Cell), U.vm.findClass C = some c ∧ U.fieldFound? C n d = some (c, k, i, f) ∧ f.isStatic = true ∧ k.statics = some a ∧ H[a]? = some cell ∧ cell.vm.isStatics = true ∧ cell.cls = c ∧ f.slot < cell.slots.size ∧ k.staticTypes[f.slot]? = some f.type ∧ ¬ A a
theorem vx_L.moved {C n d : String} {A : Nat → Prop} {u U : State} {H : Heap} (hvm : u.vm.Alike U.vm) (h : vx_L C n d A u H) : vx_L C n d A U H := by
  obtain ⟨c, k, i, f, a, cell, h1, h2, h3, h4, h5, h6, h7, h8, h9, h10⟩ := h
  obtain ⟨k', hi', he⟩ := State.fieldFound?_setVm hvm h2
  exact ⟨c, k', i, f, a, cell, by rw [hvm.findClass]; exact h1, hi', h3, by rw [he]; exact h4, h5, h6, h7, h8, by rw [he]; exact h9, h10⟩
theorem vx_L.kept {C n d : String} {A : Nat → Prop} {U : State} {H H1 : Heap} (h : vx_L C n d A U H) (hq : ∀ a : Nat, a < H.size → ¬ A a → H1[a]? = H[a]?) : vx_L C n d A U H1 := by
  obtain ⟨c, k, i, f, a, cell, h1, h2, h3, h4, h5, h6, h7, h8, h9, h10⟩ := h
  exact ⟨c, k, i, f, a, cell, h1, h2, h3, h4, by rw [hq a (Array.getElem?_eq_some_iff.mp h5).1 h10]; exact h5, h6, h7, h8, h9, h10⟩
theorem vx_L.narrow {C n d : String} {A B : Nat → Prop} {U : State} {H : Heap} (h : vx_L C n d A U H) (hAB : ∀ q, B q → A q) : vx_L C n d B U H := by
  obtain ⟨c, k, i, f, a, cell, h1, h2, h3, h4, h5, h6, h7, h8, h9, h10⟩ := h
  exact ⟨c, k, i, f, a, cell, h1, h2, h3, h4, h5, h6, h7, h8, h9, fun z => h10 (hAB _ z)⟩
theorem vx_L.word {C n d : String} {A : Nat → Prop} {s : State} {args : Array Value} (h : vx_L C n d A s s.heap) : (Cond.laysStatic C n d).before args s = true := by
  obtain ⟨c, k, i, f, a, cell, h1, h2, h3, h4, h5, h6, h7, h8, h9, -⟩ := h
  show (Cond.laysStatic C n d).holds args s none s [] = true
  exact Cond.laysStatic_of h1 h2 h3 h4 h5 h6 h7 h8 h9
/-- .. and what it holds: null or some reference -/
def vx_Zq (C n d : String) (A : Nat → Prop) (U : State) (H : Heap) : Prop := va_Zq C n d A U H ∧ vx_L C n d A U H
theorem vx_Zq.moved {C n d : String} {A : Nat → Prop} {u U : State} {H : Heap} (hvm : u.vm.Alike U.vm) (h : vx_Zq C n d A u H) : vx_Zq C n d A U H := ⟨va_Zq.moved hvm h.1, vx_L.moved hvm h.2⟩
theorem vx_Zq.kept {C n d : String} {A : Nat → Prop} {U : State} {H H1 : Heap} (h : vx_Zq C n d A U H) (hq : ∀ a : Nat, a < H.size → ¬ A a → H1[a]? = H[a]?) : vx_Zq C n d A U H1 := ⟨va_Zq.kept h.1 hq, vx_L.kept h.2 hq⟩
theorem vx_Zq.narrow {C n d : String} {A B : Nat → Prop} {U : State} {H : Heap} (h : vx_Zq C n d A U H) (hAB : ∀ q, B q → A q) : vx_Zq C n d B U H := ⟨va_Zq.narrow h.1 hAB, vx_L.narrow h.2 hAB⟩
theorem vx_Zqof {args : Array Value} {s : State} {C n d : String} {A : Nat → Prop} (hl : (Cond.laysStatic C n d).before args s = true) (hini : (Cond.initialized C).before args s = true) (h : (Cond.isRef (.static C n d)).before args s = true) (hA : ∀ a : Nat, a < s.heap.size → ¬ A a) : vx_Zq C n d A s s.heap := by
  refine ⟨va_Zqof hl hini h hA, ?_⟩
  obtain ⟨c, k, i, f, a, cell, h1, h2, h3, h4, h5, h6, h7, h8, h9⟩ := Cond.laysStatic_spec hl
  exact ⟨c, k, i, f, a, cell, h1, h2, h3, h4, h5, h6, h7, h8, h9, hA a (Array.getElem?_eq_some_iff.mp h5).1⟩
theorem vx_isRef {C n d : String} {v : Value} {A : Nat → Prop} {s : State} {args : Array Value} (h : va_Z C n d v A s s.heap) (hv : v.isRef = true) : (Cond.isRef (.static C n d)).before args s = true := by
  obtain ⟨cf, kf, fi, f, a, cell, h1, h2, h3, h4, h5, h6, h7, -⟩ := h
  have he : (Term.static C n d).eval args s none [] s = some v := by
    simp [Term.eval, State.fieldNamed?, h1, h2, h4, h5, h6, h7]
  simp only [Cond.before, Cond.holds, Cond.value, he]
  cases v <;> simp_all [Value.isRef]
theorem vx_isRefq {C n d : String} {A : Nat → Prop} {s : State} {args : Array Value} (h : va_Zq C n d A s s.heap) : (Cond.isRef (.static C n d)).before args s = true := by
  rcases h with h | ⟨t, h⟩
  · exact vx_isRef h rfl
  · exact vx_isRef h rfl
/-- the same frame, seen from here: as if the method were called anew in this heap -/
theorem vx_rebase {T : State} (X : Stand p l e R s m args below meth c T locs cells slots) {R' : Room} (hf : R'.frames ≤ R.frames) (hl : R'.locals ≤ R.locals) (hc : cells + R'.cells ≤ R.cells) (hs : slots + R'.slots ≤ R.slots) :
    Stand p l e R' ((T.setVm s.vm).setFrames (.invoking m args :: below)) m args below meth c T [] 0 0 := by
  have htop : (T.setVm s.vm).topJava?.isSome := X.here.top
  have hF : ((T.setVm s.vm).setFrames (.invoking m args :: below)).frames = .invoking m args :: below := State.frames_setFrames _ (State.cur_lt_of_top htop)
  obtain ⟨g₀, hg0⟩ := Option.isSome_iff_exists.mp htop
  obtain ⟨r, hr⟩ := State.topJava?_eq_some.mp hg0
  have hl9 : e.platform.stackLimits (T.setVm s.vm).me = e.platform.stackLimits s.me := X.limits
  have hb9 : (T.setVm s.vm).me.stackBytes = s.me.stackBytes := X.bytes
  refine ⟨X.admits, X.cas, X.clock, hF, ?_, X.hears, X.method, X.code, X.here, X.tail, X.warmed, ?_, ?_, ?_⟩
  · have h := X.room
    have hU : ((T.setVm s.vm).setFrames (.invoking m args :: below)).localsInUse = s.localsInUse := by
      rw [State.localsInUse_invoking hF (meth := meth) (c := c) X.method X.code, State.localsInUse_invoking X.frames X.method X.code]
    simp only [State.hasRoom, Bool.and_eq_true, decide_eq_true_eq] at h ⊢
    obtain ⟨⟨⟨⟨h1, h2, h3, h4, h5, h6⟩, h7⟩, h8⟩, h9⟩ := h
    rw [X.frames, List.length_cons] at h2 h3
    have q1 := X.heapSize
    have q2 := X.used
    simp only [hF, hU, List.length_cons, State.stackLimits_setFrames, State.stackBytes_setFrames, hl9, hb9]
    refine ⟨⟨⟨⟨by omega, by omega, by omega, by omega, by omega, h6⟩, ?_⟩, ?_⟩, X.book⟩
    · show T.heap.size + R'.cells ≤ e.platform.maxCells
      omega
    · show T.slotsUsed + R'.slots ≤ e.platform.maxSlots
      omega
  · rw [State.stackLimits_setFrames]; rfl
  · rw [State.stackBytes_setFrames]; rfl
  · refine ⟨?_, Nat.le_refl _, Nat.le_refl _, ?_, ?_, fun a c9 h9 => ⟨c9, h9, rfl, rfl, fun _ _ => rfl⟩⟩
    · obtain ⟨t, ht, -⟩ := State.frames_cons hr
      show T.setVm s.vm = { ((T.setVm s.vm).setFrames (.invoking m args :: below)).setFrames (T.setVm s.vm).frames with heap := T.heap, slotsUsed := T.slotsUsed }
      rw [State.setFrames_setFrames, State.setFrames_self ht]
      rfl
    · show T.slotsUsed = T.slotsUsed + ((T.heap.toList.drop T.heap.size).map (·.slots.size)).sum
      rw [List.drop_eq_nil_of_le (Nat.le_of_eq Array.length_toList)]
      rfl
    · show ((T.heap.toList.drop T.heap.size).map (·.slots.size)).sum ≤ 0
      rw [List.drop_eq_nil_of_le (Nat.le_of_eq Array.length_toList)]
      exact Nat.le_refl _
/-- 'throw new E()': new; dup; invokespecial; athrow -/
theorem vx_throw0 {cc : ByteArray} {pc : Nat} (hexec : p.tables.exec = Jvm.exec) (hb : c.code = cc) (hl : l.stackTraces = false) {own cls : String} {names : List String} {ik ic mc ms : Nat} {A : Nat → Prop}
    (hown : s.vm.findClass own = some m.cls) (hcls : Bundle.fit cls = true) (hnames : ∀ n ∈ names, Bundle.fit n = true)
    (hk : (Cond.classLink own ik cls).before args s = true) (hini : (Cond.initialized cls).before args s = true) (hat : ∀ w ∈ vx_at0 own ic cls names, w.before args s = true)
    (hgood : ∀ w ∈ Cond.classLink own ik cls :: Cond.initialized cls :: vx_at0 own ic cls names, vx_ot w = true)
    (hU : vx_Zq Bundle.tN "UNASSIGNED_STACK" Bundle.steD A s s.heap) (hN : vx_Zq Bundle.tN "SUPPRESSED_SENTINEL" Bundle.listD A s s.heap) (hS : va_S A s.heap H locs) (hsize : ls.size = c.maxLocals)
    (d0 : decode cc pc = .ok (.new ik, 3)) (d3 : decode cc (pc + 3) = .ok (.dup, 1)) (d4 : decode cc (pc + 4) = .ok (.invokespecial ic, 3)) (d7 : decode cc (pc + 7) = .ok (.athrow, 1))
    (hout : ∀ x ∈ c.exceptionTable.toList, covers x (pc + 7) = false)
    (hRframes : names.length + 3 < R.frames) (hRlocals : (rest.map fun v => v.category).sum + (13 * (names.length + 1) + 42) ≤ R.locals) (hRcells : cells + 1 ≤ R.cells) (hRslots : slots + 6 ≤ R.slots) (hlocks : meth.locks = false)
    (hx : ∀ t : State, s.vm.Alike t.vm → H.size ≤ t.heap.size → (∀ q : Nat, q < H.size → t.heap[q]? = H[q]?) → XC cls s t)
    (hf : ∀ z ∈ locs, free z.base) (hc : cells + 1 ≤ mc) (hs : slots + 6 ≤ ms) :
    W p l e R s m args below meth c H locs cells slots (vx_MQ below Qc XC args s mc ms free) (F0 m pc ls rest) := by
  intro T hT X
  have htr : e.platform.stackTraces = false := (show e.platform.stackTraces = l.stackTraces by rw [X.admits.platform]).trans hl
  have Y := vx_rebase X (R' := { frames := R.frames, locals := R.locals, cells := 1, slots := 6 }) (Nat.le_refl _) (Nat.le_refl _) hRcells hRslots
  obtain ⟨s', hA⟩ : ∃ z, z = (T.setVm s.vm).setFrames (.invoking m args :: below) := ⟨_, rfl⟩
  rw [← hA] at Y
  have hvm : s'.vm = s.vm := by rw [hA]; rfl
  have hhp : s'.heap = H := by rw [hA]; exact hT
  have hW0 : s.WarmedH s'.vm := by rw [hvm]; exact State.WarmedH.refl s
  have hat' : ∀ w ∈ vx_at0 own ic cls names, w.before args s' = true := fun w hw => vx_ot_at hW0 hvm.symm (hgood w (List.mem_cons_of_mem _ (List.mem_cons_of_mem _ hw))) (hat w hw)
  have hk' : (Cond.classLink own ik cls).before args s' = true := vx_ot_at hW0 hvm.symm (hgood _ List.mem_cons_self) hk
  have hini' : (Cond.initialized cls).before args s' = true := vx_ot_at hW0 hvm.symm (hgood _ (List.mem_cons_of_mem _ List.mem_cons_self)) hini
  have hU' : vx_Zq Bundle.tN "UNASSIGNED_STACK" Bundle.steD A s' s'.heap := by rw [hhp]; exact vx_Zq.moved hW0.alike (hU.kept hS.2.1)
  have hN' : vx_Zq Bundle.tN "SUPPRESSED_SENTINEL" Bundle.listD A s' s'.heap := by rw [hhp]; exact vx_Zq.moved hW0.alike (hN.kept hS.2.1)
  have h : ∀ w ∈ Bundle.ownAtoms0 own ic cls names, w.before args s' = true := vx_own hat' (vx_isRefq hU'.1) (vx_isRefq hN'.1) hU'.2.word hN'.2.word
  have hown' : s'.vm.findClass own = some m.cls := by rw [hvm]; exact hown
  have hins : (Cond.instantiable cls 6).before args s' = true := h _ (by simp [Bundle.ownAtoms0])
  obtain ⟨vm₁, cX, kX, hfX, hkX, -, -, X₁, st1⟩ := Y.newCold hexec (own := own) (C := cls) (index := ik) (n := 6) hown' hk' hins hini'
    (g := F0 m pc ls rest) rfl (by rw [hb]; exact d0) (Nat.le_refl _) (Nat.le_refl _)
  generalize hT1 : (T.setVm vm₁).pushCell { cls := cX, slots := kX.instanceTypes.map defaultValue, vm := .none } = T1 at X₁ st1
  have hcat : (Value.ref T.heap.size).category = 1 := rfl
  have hcellA : T1.heap[T.heap.size]? = some (freshCell cX kX) := by rw [← hT1]; exact State.heap_pushCell_size _ _
  have d3' : decode c.code (pc + 3) = .ok (.dup, 1) := by rw [hb]; exact d3
  obtain ⟨U, hsteps, hrun, hend, hW, hsame, ce, hce, hO⟩ := X₁.ctorThrow0 hexec htr (own := own) (cls := cls) (names := names) (ic := ic) hown' hcls hnames h (fun x hx => nomatch hx) hfX hkX hcellA (by rw [hhp, hT]; exact Nat.le_refl _)
    (g := { method := m, pc := pc + 4, locals := ls, stack := .ref T.heap.size :: .ref T.heap.size :: rest, locked := none }) rfl hsize rfl rfl (rest := rest) rfl
    (by rw [hb]; exact d4) (by rw [hb]; exact d7) hout hRframes (by simp only [List.map_cons, List.sum_cons, hcat]; omega) hlocks
  obtain ⟨f1, f2⟩ := vx_frame hsame
  rw [hhp] at f1 f2
  have hWs : s.WarmedH U.vm := State.WarmedH.trans hW0 hW
  have hcl : s.vm.findClass cls = some ce.cls := by
    have h9 := hO.cls
    rw [hvm] at h9
    exact h9
  have hall : s.sameButNew ({ U with vm := s.vm } : State) locs mc ms := by
    subst hA
    obtain ⟨e1, e2⟩ := hsame
    rw [State.setFrames_setFrames] at e1
    have h2 : (T.setVm s.vm).sameButNew ({ U with vm := s.vm } : State) [] (0 + 1) (0 + 6) := ⟨e1, e2⟩
    have h3 := X.same.trans h2
    rw [List.append_nil] at h3
    exact h3.mono hc hs
  refine ⟨U, ?_, .threw T.heap.size, hrun, hend, Or.inr ⟨T.heap.size, rfl, cls, ce, locs, hx U hWs.alike f1 (fun q hq => f2 q hq (fun z hz => nomatch hz)), hce, hO.vm, hcl, hWs, hall, hf⟩⟩
  refine st1 _ ?_
  show Steps p.tables e below (T1.setTop { method := m, pc := pc + 3, locals := ls, stack := .ref T.heap.size :: rest, locked := none }) _
  jvm_step X₁.here [X₁.here.top, hexec, d3', Value.category]
  exact hsteps
/-- 'throw new E("text")': new; dup; ldc; invokespecial; athrow -/
theorem vx_throwS {cc : ByteArray} {pc : Nat} (hexec : p.tables.exec = Jvm.exec) (hb : c.code = cc) (hl : l.stackTraces = false) {own cls text : String} {names : List String} {ik is ic mc ms sa : Nat} {A : Nat → Prop}
    (hown : s.vm.findClass own = some m.cls) (hcls : Bundle.fit cls = true) (hnames : ∀ n ∈ names, Bundle.fit n = true)
    (hk : (Cond.classLink own ik cls).before args s = true) (hini : (Cond.initialized cls).before args s = true) (hstr : vk_R own is text sa s) (hat : ∀ w ∈ vx_atS own ic cls names, w.before args s = true)
    (hgood : ∀ w ∈ Cond.classLink own ik cls :: Cond.initialized cls :: vx_atS own ic cls names, vx_ot w = true)
    (hU : vx_Zq Bundle.tN "UNASSIGNED_STACK" Bundle.steD A s s.heap) (hN : vx_Zq Bundle.tN "SUPPRESSED_SENTINEL" Bundle.listD A s s.heap) (hS : va_S A s.heap H locs) (hsize : ls.size = c.maxLocals)
    (d0 : decode cc pc = .ok (.new ik, 3)) (d3 : decode cc (pc + 3) = .ok (.dup, 1)) (d4 : decode cc (pc + 4) = .ok (.ldc is, 2)) (d6 : decode cc (pc + 6) = .ok (.invokespecial ic, 3)) (d9 : decode cc (pc + 9) = .ok (.athrow, 1))
    (hout : ∀ x ∈ c.exceptionTable.toList, covers x (pc + 9) = false)
    (hRframes : names.length + 3 < R.frames) (hRlocals : (rest.map fun v => v.category).sum + (13 * (names.length + 1) + 43) ≤ R.locals) (hRcells : cells + 1 ≤ R.cells) (hRslots : slots + 6 ≤ R.slots) (hlocks : meth.locks = false)
    (hx : ∀ t : State, s.vm.Alike t.vm → H.size ≤ t.heap.size → (∀ q : Nat, q < H.size → t.heap[q]? = H[q]?) → XC cls s t)
    (hf : ∀ z ∈ locs, free z.base) (hc : cells + 1 ≤ mc) (hs : slots + 6 ≤ ms) :
    W p l e R s m args below meth c H locs cells slots (vx_MQ below Qc XC args s mc ms free) (F0 m pc ls rest) := by
  intro T hT X
  have htr : e.platform.stackTraces = false := (show e.platform.stackTraces = l.stackTraces by rw [X.admits.platform]).trans hl
  have Y := vx_rebase X (R' := { frames := R.frames, locals := R.locals, cells := 1, slots := 6 }) (Nat.le_refl _) (Nat.le_refl _) hRcells hRslots
  obtain ⟨s', hA⟩ : ∃ z, z = (T.setVm s.vm).setFrames (.invoking m args :: below) := ⟨_, rfl⟩
  rw [← hA] at Y
  have hvm : s'.vm = s.vm := by rw [hA]; rfl
  have hhp : s'.heap = H := by rw [hA]; exact hT
  have hW0 : s.WarmedH s'.vm := by rw [hvm]; exact State.WarmedH.refl s
  have hat' : ∀ w ∈ vx_atS own ic cls names, w.before args s' = true := fun w hw => vx_ot_at hW0 hvm.symm (hgood w (List.mem_cons_of_mem _ (List.mem_cons_of_mem _ hw))) (hat w hw)
  have hk' : (Cond.classLink own ik cls).before args s' = true := vx_ot_at hW0 hvm.symm (hgood _ List.mem_cons_self) hk
  have hini' : (Cond.initialized cls).before args s' = true := vx_ot_at hW0 hvm.symm (hgood _ (List.mem_cons_of_mem _ List.mem_cons_self)) hini
  have hU' : vx_Zq Bundle.tN "UNASSIGNED_STACK" Bundle.steD A s' s'.heap := by rw [hhp]; exact vx_Zq.moved hW0.alike (hU.kept hS.2.1)
  have hN' : vx_Zq Bundle.tN "SUPPRESSED_SENTINEL" Bundle.listD A s' s'.heap := by rw [hhp]; exact vx_Zq.moved hW0.alike (hN.kept hS.2.1)
  have h : ∀ w ∈ Bundle.ownAtoms own ic cls names, w.before args s' = true := vx_own hat' (vx_isRefq hU'.1) (vx_isRefq hN'.1) hU'.2.word hN'.2.word
  have hown' : s'.vm.findClass own = some m.cls := by rw [hvm]; exact hown
  have hins : (Cond.instantiable cls 6).before args s' = true := h _ (by simp [Bundle.ownAtoms])
  obtain ⟨vm₁, cX, kX, hfX, hkX, -, -, X₁, st1⟩ := Y.newCold hexec (own := own) (C := cls) (index := ik) (n := 6) hown' hk' hins hini'
    (g := F0 m pc ls rest) rfl (by rw [hb]; exact d0) (Nat.le_refl _) (Nat.le_refl _)
  generalize hT1 : (T.setVm vm₁).pushCell { cls := cX, slots := kX.instanceTypes.map defaultValue, vm := .none } = T1 at X₁ st1
  have hcat : (Value.ref T.heap.size).category = 1 := rfl
  have hcellA : T1.heap[T.heap.size]? = some (freshCell cX kX) := by rw [← hT1]; exact State.heap_pushCell_size _ _
  have d3' : decode c.code (pc + 3) = .ok (.dup, 1) := by rw [hb]; exact d3
  have d4' : decode c.code (pc + 4) = .ok (.ldc is, 2) := by rw [hb]; exact d4
  have hstr' : vk_R own is text sa s' := vk_R.warm hW0 hstr
  obtain ⟨U, hsteps, hrun, hend, hW, hsame, ce, hce, hO⟩ := X₁.ctorThrowS hexec htr (own := own) (cls := cls) (names := names) (ic := ic) hown' hcls hnames h (fun x hx => nomatch hx) hfX hkX hcellA (by rw [hhp, hT]; exact Nat.le_refl _) (msg := .ref sa) rfl
    (g := { method := m, pc := pc + 6, locals := ls, stack := .ref sa :: .ref T.heap.size :: .ref T.heap.size :: rest, locked := none }) rfl hsize rfl rfl (rest := rest) rfl
    (by rw [hb]; exact d6) (by rw [hb]; exact d9) hout hRframes (by simp only [List.map_cons, List.sum_cons, hcat]; omega) hlocks
  obtain ⟨f1, f2⟩ := vx_frame hsame
  rw [hhp] at f1 f2
  have hWs : s.WarmedH U.vm := State.WarmedH.trans hW0 hW
  have hcl : s.vm.findClass cls = some ce.cls := by
    have h9 := hO.cls
    rw [hvm] at h9
    exact h9
  have hall : s.sameButNew ({ U with vm := s.vm } : State) locs mc ms := by
    subst hA
    obtain ⟨e1, e2⟩ := hsame
    rw [State.setFrames_setFrames] at e1
    have h2 : (T.setVm s.vm).sameButNew ({ U with vm := s.vm } : State) [] (0 + 1) (0 + 6) := ⟨e1, e2⟩
    have h3 := X.same.trans h2
    rw [List.append_nil] at h3
    exact h3.mono hc hs
  refine ⟨U, ?_, .threw T.heap.size, hrun, hend, Or.inr ⟨T.heap.size, rfl, cls, ce, locs, hx U hWs.alike f1 (fun q hq => f2 q hq (fun z hz => nomatch hz)), hce, hO.vm, hcl, hWs, hall, hf⟩⟩
  refine st1 _ ?_
  show Steps p.tables e below (T1.setTop { method := m, pc := pc + 3, locals := ls, stack := .ref T.heap.size :: rest, locked := none }) _
  jvm_step X₁.here [X₁.here.top, hexec, d3', Value.category]
  exact X₁.ldcString hexec (own := own) (text := text) (index := is) (a := sa) hown' hstr'.1 hstr'.2
    (g := { method := m, pc := pc + 4, locals := ls, stack := .ref T.heap.size :: .ref T.heap.size :: rest, locked := none }) rfl d4' _ hsteps
/-- 'throw new E("text")', the text by a wide index -/
theorem vx_throwSW {cc : ByteArray} {pc : Nat} (hexec : p.tables.exec = Jvm.exec) (hb : c.code = cc) (hl : l.stackTraces = false) {own cls text : String} {names : List String} {ik is ic mc ms sa : Nat} {A : Nat → Prop}
    (hown : s.vm.findClass own = some m.cls) (hcls : Bundle.fit cls = true) (hnames : ∀ n ∈ names, Bundle.fit n = true)
    (hk : (Cond.classLink own ik cls).before args s = true) (hini : (Cond.initialized cls).before args s = true) (hstr : vk_R own is text sa s) (hat : ∀ w ∈ vx_atS own ic cls names, w.before args s = true)
    (hgood : ∀ w ∈ Cond.classLink own ik cls :: Cond.initialized cls :: vx_atS own ic cls names, vx_ot w = true)
    (hU : vx_Zq Bundle.tN "UNASSIGNED_STACK" Bundle.steD A s s.heap) (hN : vx_Zq Bundle.tN "SUPPRESSED_SENTINEL" Bundle.listD A s s.heap) (hS : va_S A s.heap H locs) (hsize : ls.size = c.maxLocals)
    (d0 : decode cc pc = .ok (.new ik, 3)) (d3 : decode cc (pc + 3) = .ok (.dup, 1)) (d4 : decode cc (pc + 4) = .ok (.ldc_w is, 3)) (d7 : decode cc (pc + 7) = .ok (.invokespecial ic, 3)) (d10 : decode cc (pc + 10) = .ok (.athrow, 1))
    (hout : ∀ x ∈ c.exceptionTable.toList, covers x (pc + 10) = false)
    (hRframes : names.length + 3 < R.frames) (hRlocals : (rest.map fun v => v.category).sum + (13 * (names.length + 1) + 43) ≤ R.locals) (hRcells : cells + 1 ≤ R.cells) (hRslots : slots + 6 ≤ R.slots) (hlocks : meth.locks = false)
    (hx : ∀ t : State, s.vm.Alike t.vm → H.size ≤ t.heap.size → (∀ q : Nat, q < H.size → t.heap[q]? = H[q]?) → XC cls s t)
    (hf : ∀ z ∈ locs, free z.base) (hc : cells + 1 ≤ mc) (hs : slots + 6 ≤ ms) :
    W p l e R s m args below meth c H locs cells slots (vx_MQ below Qc XC args s mc ms free) (F0 m pc ls rest) := by
  intro T hT X
  have htr : e.platform.stackTraces = false := (show e.platform.stackTraces = l.stackTraces by rw [X.admits.platform]).trans hl
  have Y := vx_rebase X (R' := { frames := R.frames, locals := R.locals, cells := 1, slots := 6 }) (Nat.le_refl _) (Nat.le_refl _) hRcells hRslots
  obtain ⟨s', hA⟩ : ∃ z, z = (T.setVm s.vm).setFrames (.invoking m args :: below) := ⟨_, rfl⟩
  rw [← hA] at Y
  have hvm : s'.vm = s.vm := by rw [hA]; rfl
  have hhp : s'.heap = H := by rw [hA]; exact hT
  have hW0 : s.WarmedH s'.vm := by rw [hvm]; exact State.WarmedH.refl s
  have hat' : ∀ w ∈ vx_atS own ic cls names, w.before args s' = true := fun w hw => vx_ot_at hW0 hvm.symm (hgood w (List.mem_cons_of_mem _ (List.mem_cons_of_mem _ hw))) (hat w hw)
  have hk' : (Cond.classLink own ik cls).before args s' = true := vx_ot_at hW0 hvm.symm (hgood _ List.mem_cons_self) hk
  have hini' : (Cond.initialized cls).before args s' = true := vx_ot_at hW0 hvm.symm (hgood _ (List.mem_cons_of_mem _ List.mem_cons_self)) hini
  have hU' : vx_Zq Bundle.tN "UNASSIGNED_STACK" Bundle.steD A s' s'.heap := by rw [hhp]; exact vx_Zq.moved hW0.alike (hU.kept hS.2.1)
  have hN' : vx_Zq Bundle.tN "SUPPRESSED_SENTINEL" Bundle.listD A s' s'.heap := by rw [hhp]; exact vx_Zq.moved hW0.alike (hN.kept hS.2.1)
  have h : ∀ w ∈ Bundle.ownAtoms own ic cls names, w.before args s' = true := vx_own hat' (vx_isRefq hU'.1) (vx_isRefq hN'.1) hU'.2.word hN'.2.word
  have hown' : s'.vm.findClass own = some m.cls := by rw [hvm]; exact hown
  have hins : (Cond.instantiable cls 6).before args s' = true := h _ (by simp [Bundle.ownAtoms])
  obtain ⟨vm₁, cX, kX, hfX, hkX, -, -, X₁, st1⟩ := Y.newCold hexec (own := own) (C := cls) (index := ik) (n := 6) hown' hk' hins hini'
    (g := F0 m pc ls rest) rfl (by rw [hb]; exact d0) (Nat.le_refl _) (Nat.le_refl _)
  generalize hT1 : (T.setVm vm₁).pushCell { cls := cX, slots := kX.instanceTypes.map defaultValue, vm := .none } = T1 at X₁ st1
  have hcat : (Value.ref T.heap.size).category = 1 := rfl
  have hcellA : T1.heap[T.heap.size]? = some (freshCell cX kX) := by rw [← hT1]; exact State.heap_pushCell_size _ _
  have d3' : decode c.code (pc + 3) = .ok (.dup, 1) := by rw [hb]; exact d3
  have d4' : decode c.code (pc + 4) = .ok (.ldc_w is, 3) := by rw [hb]; exact d4
  have hstr' : vk_R own is text sa s' := vk_R.warm hW0 hstr
  obtain ⟨U, hsteps, hrun, hend, hW, hsame, ce, hce, hO⟩ := X₁.ctorThrowS hexec htr (own := own) (cls := cls) (names := names) (ic := ic) hown' hcls hnames h (fun x hx => nomatch hx) hfX hkX hcellA (by rw [hhp, hT]; exact Nat.le_refl _) (msg := .ref sa) rfl
    (g := { method := m, pc := pc + 7, locals := ls, stack := .ref sa :: .ref T.heap.size :: .ref T.heap.size :: rest, locked := none }) rfl hsize rfl rfl (rest := rest) rfl
    (by rw [hb]; exact d7) (by rw [hb]; exact d10) hout hRframes (by simp only [List.map_cons, List.sum_cons, hcat]; omega) hlocks
  obtain ⟨f1, f2⟩ := vx_frame hsame
  rw [hhp] at f1 f2
  have hWs : s.WarmedH U.vm := State.WarmedH.trans hW0 hW
  have hcl : s.vm.findClass cls = some ce.cls := by
    have h9 := hO.cls
    rw [hvm] at h9
    exact h9
  have hall : s.sameButNew ({ U with vm := s.vm } : State) locs mc ms := by
    subst hA
    obtain ⟨e1, e2⟩ := hsame
    rw [State.setFrames_setFrames] at e1
    have h2 : (T.setVm s.vm).sameButNew ({ U with vm := s.vm } : State) [] (0 + 1) (0 + 6) := ⟨e1, e2⟩
    have h3 := X.same.trans h2
    rw [List.append_nil] at h3
    exact h3.mono hc hs
  refine ⟨U, ?_, .threw T.heap.size, hrun, hend, Or.inr ⟨T.heap.size, rfl, cls, ce, locs, hx U hWs.alike f1 (fun q hq => f2 q hq (fun z hz => nomatch hz)), hce, hO.vm, hcl, hWs, hall, hf⟩⟩
  refine st1 _ ?_
  show Steps p.tables e below (T1.setTop { method := m, pc := pc + 3, locals := ls, stack := .ref T.heap.size :: rest, locked := none }) _
  jvm_step X₁.here [X₁.here.top, hexec, d3', Value.category]
  exact X₁.ldcStringW hexec (own := own) (text := text) (index := is) (a := sa) hown' hstr'.1 hstr'.2
    (g := { method := m, pc := pc + 4, locals := ls, stack := .ref T.heap.size :: .ref T.heap.size :: rest, locked := none }) rfl d4' _ hsteps
end Ends
section Bodies
variable {l : Launch}
theorem vx_ofW {y : MethodName} {ws ws' : List Cond} {rm : Room} {Pc : Array Value → State → Prop} {Qc : Array Value → State → Outcome → State → Prop} {XC : String → State → State → Prop} {mc ms : Nat} {free : Addr → Prop} {cc : ByteArray} {maxL : Nat} {ret : Option FieldType}
    (hy : plainName y.cls = true) (hw : ws = Cond.code y cc maxL ret :: ws')
    (body : ∀ p e s m args below meth c s₁, BodyLoose p l y (headSpec ws rm) cc maxL ret e s m args below meth c s₁ → c.maxLocals = maxL → (∀ x ∈ c.exceptionTable.toList, False) → Pc args s →
      W p l e (headSpec ws rm).room s m args below meth c s.heap [] 0 0 (vx_MQ below Qc XC args s mc ms free) (entryFrame m args maxL)) : vx_Met l y ws rm Pc Qc XC mc ms free := by
  refine MetFree.of_bodyS (code := cc) (maxLocals := maxL) (ret := ret) hy ?_ ?_
  · intro args s m h hn
    obtain ⟨meth, c, h1, h2, h3, h4, h5, h6, -, -⟩ := Cond.code_spec hn (atoms_spec (ws := ws) h _ (by rw [hw]; exact List.mem_cons_self))
    exact ⟨meth, c, h1, h2, h3, h4, h5, h6⟩
  · intro p e s m args below meth c s₁ B hml hP _
    have hh0 : s₁.heap = s.heap := by rw [B.state]; rfl
    have ht : ∀ x ∈ c.exceptionTable.toList, False := by
      obtain ⟨meth9, c9, h1, h2, -, -, -, -, h7, -⟩ := Cond.code_spec B.named (atoms_spec (ws := ws) B.pre _ (by rw [hw]; exact List.mem_cons_self))
      cases Option.some.inj (h1.symm.trans B.method)
      cases Option.some.inj (h2.symm.trans (Stand.of_body B).code)
      intro x hx
      rw [Array.isEmpty_iff.mp h7] at hx
      cases hx
    obtain ⟨t, a1, o, b1, b2, b3⟩ := body p e s m args below meth c s₁ B hml ht hP s₁ hh0 (Stand.of_body B)
    exact ⟨t, o, a1, b1, b2, b3⟩
/-- the table of a body with handlers -/
theorem vx_table {p : Program} {x y : MethodName} {S : Spec} {cc bytes : ByteArray} {maxL maxL' : Nat} {ret ret' : Option FieldType} {e : Env} {s s₁ : State} {m : MethodId} {args : Array Value} {below : List Frame} {meth : Method} {c : Code} {hh : List (Nat × Nat × Nat × Nat)}
    (B : BodyLoose p l y S cc maxL ret e s m args below meth c s₁) (h : (Cond.codeWith y bytes maxL' ret' hh).before args s = true) : c.exceptionTable.toList = tableOf hh := by
  obtain ⟨m9, meth9, c9, hn9, h1, h2, -, -, h6, -⟩ := Cond.codeWith_spec h
  cases Option.some.inj (hn9.symm.trans B.named)
  cases Option.some.inj (h1.symm.trans B.method)
  cases Option.some.inj (h2.symm.trans (Stand.of_body B).code)
  rw [← h6, table_eq]
end Bodies
end VXA
/-! ===== END ===== -/
/-! ===== BEGIN a static call of a method with an exception table ===== -/
section VXS
variable {p : Program} {l : Launch} {e : Env} {R : Room} {s : State} {m : MethodId} {args : Array Value} {below : List Frame} {meth : Method} {c : Code} {T : State} {H : Heap} {locs : List Loc} {cells slots : Nat}
abbrev vx_CSW (R : Room) (s : State) (args : Array Value) (own : String) (index : Nat) (y : MethodName) (bytes : ByteArray) (maxL : Nat) (ret : Option FieldType) (hh : List (Nat × Nat × Nat × Nat)) (ws : List Cond) (rm : Room) (mc ms n : Nat) : Prop :=
  (rm.cells = mc ∧ rm.slots = ms ∧ rm.frames + 1 ≤ R.frames ∧ 8 + (maxL + 11) + rm.locals ≤ R.locals ∧ (∀ w ∈ ws, ∀ (a' : Array Value) (U : State), s.WarmedH U.vm → w.before a' U = true) ∧ Cond.codeWith y bytes maxL ret hh ∈ ws) ∧
  (Cond.codeWith y bytes maxL ret hh).before args s = true ∧ (Cond.initialized y.cls).before args s = true ∧ (y.cls ≠ "java/lang/invoke/MethodHandle" ∧ y.cls ≠ "java/lang/invoke/VarHandle") ∧
  (∀ sig, parseMethodDescriptor y.desc = some sig → n = sig.parameters.length) ∧ (Cond.methodLink own index y).before args s = true ∧ (Cond.static y).before args s = true
theorem vx_cwSW {own : String} {index maxL mc ms : Nat} {y : MethodName} {bytes : ByteArray} {ret : Option FieldType} {hh : List (Nat × Nat × Nat × Nat)} {Ts ws ws' : List Cond} {rm : Room} (n : Nat) (ht : ∀ w ∈ Ts, w.before args s = true) (hT : GoodIn Ts (va_wsS own index y ws)) (hw : ws = Cond.codeWith y bytes maxL ret hh :: ws') (hrc : rm.cells = mc) (hrs : rm.slots = ms)
    (hd : y.cls ≠ "java/lang/invoke/MethodHandle" ∧ y.cls ≠ "java/lang/invoke/VarHandle" ∧ (parseMethodDescriptor y.desc).map (fun d => d.parameters.length) = some n) (hR : rm.frames + 1 ≤ R.frames ∧ 8 + (maxL + 11) + rm.locals ≤ R.locals) :
    vx_CSW R s args own index y bytes maxL ret hh ws rm mc ms n := by
  have ok : ∀ w ∈ va_wsS own index y ws, w.before args s = true := fun w h => ht w (hT w h).1
  have hG : GoodIn Ts ws := fun w h => hT w (by unfold va_wsS; exact List.mem_append_right _ h)
  have hc : Cond.codeWith y bytes maxL ret hh ∈ ws := by rw [hw]; exact List.mem_cons_self
  refine ⟨⟨hrc, hrs, hR.1, hR.2, pay_in ht hG, hc⟩, ht _ (hG _ hc).1, ok _ (by simp [va_wsS]), ⟨hd.1, hd.2.1⟩, fun sig h => ?_, ok _ (by simp [va_wsS]), ok _ (by simp [va_wsS])⟩
  have h2 := hd.2.2
  rw [h] at h2
  exact (Option.some.inj h2).symm
theorem vx_callSW (X : Stand p l e R s m args below meth c T locs cells slots) (hexec : p.tables.exec = Jvm.exec) {own : String} {index : Nat} {y : MethodName} {bytes : ByteArray} {maxL : Nat} {ret : Option FieldType} {hh : List (Nat × Nat × Nat × Nat)}
    (hown : s.vm.findClass own = some m.cls) (hlink : (Cond.methodLink own index y).before args s = true) (hstat : (Cond.static y).before args s = true) (hinit : (Cond.initialized y.cls).before args s = true)
    (hcode : (Cond.codeWith y bytes maxL ret hh).before args s = true) (hy : y.cls ≠ "java/lang/invoke/MethodHandle" ∧ y.cls ≠ "java/lang/invoke/VarHandle")
    {W9 : Nat} {Pre : Pt → Array Value → Prop} {Post : Pt → Array Value → Option Value → Pt → Prop} (hK : Back l R p e below s args y 3 W9 Pre Post)
    {g : JFrame} (hg : g.method = m) (hsize : g.locals.size = c.maxLocals) {argsL rest : List Value} (hlen : ∀ sig, parseMethodDescriptor y.desc = some sig → argsL.length = sig.parameters.length)
    (hstack : g.stack = argsL.reverse ++ rest) (hW : 2 * g.monitorRoom + (rest.map fun v => v.category).sum ≤ W9) (hdg : decode c.code g.pc = .ok (.invokestatic index, 3))
    (hpre : ∀ vm₁, s.WarmedH vm₁ → Pre ⟨T.setVm vm₁, locs, cells, slots⟩ argsL.toArray) :
    ∃ (v : Option Value) (vm₁ : Vm) (B : Pt), s.WarmedH vm₁ ∧ Stand p l e R s m args below meth c B.U B.locs B.cells B.slots ∧ Post ⟨T.setVm vm₁, locs, cells, slots⟩ argsL.toArray v B ∧
      ∀ target, Steps p.tables e below (B.U.setTop { g with pc := g.pc + 3, stack := v.toList ++ rest }) target → Steps p.tables e below (T.setTop g) target := by
  obtain ⟨mk, methM, cM, hnamed, hmethM, -, -, -, -, -, -, hsigM⟩ := Cond.codeWith_spec hcode
  have hstatic : methM.isStatic = true := Cond.static_spec hnamed hmethM hstat
  obtain ⟨kP, hkP, -⟩ := className_of_methodNamed hnamed
  have hinitP : kP.init = .initialized := Cond.initialized_spec (findClass_of_methodNamed hnamed) hkP hinit
  obtain ⟨vm₁, X₁, hstep₁⟩ := X.invokestatic hexec hown hlink hnamed hmethM hstatic hkP hinitP hy (g := g) hg (argsL := argsL) (rest := rest) (hlen _ hsigM) hstack hdg
  obtain ⟨v, B, X', hpost, hsteps⟩ := hK m meth c ⟨T.setVm vm₁, locs, cells, slots⟩ { g with stack := rest } (.invokestatic index) mk argsL.toArray X₁ hg hsize hdg hW (X₁.named hnamed) (hpre vm₁ X₁.warmed)
  exact ⟨v, vm₁, B, X₁.warmed, X', hpost, fun target h => hstep₁ _ fun acts => by rw [doInvoke_state]; exact hsteps.trans h⟩
theorem vx_runSW {y : MethodName} {bytes cc : ByteArray} {maxL nL mc ms n index : Nat} {ret : Option FieldType} {hh : List (Nat × Nat × Nat × Nat)} {ws : List Cond} {rm : Room} {Pc : Array Value → State → Prop} {Qc : Array Value → State → Outcome → State → Prop} {free : Addr → Prop} {Ts : List Cond} {own : String} {As rest : List Value} {g : JFrame}
    (S : CallFix p m c cc nL s args Ts own) (hM : Met l y ws rm Pc Qc mc ms free) (cw : vx_CSW R s args own index y bytes maxL ret hh ws rm mc ms n) (hp : PreS s H Pc As)
    (hg : g.method = m) (hn : As.length = n) (hsize : g.locals.size = nL) (hstack : g.stack = As.reverse ++ rest) (hW : 2 * g.monitorRoom + (rest.map fun v => v.category).sum ≤ 8) (hdg : decode cc g.pc = .ok (.invokestatic index, 3)) (hf : cells + mc ≤ R.cells ∧ slots + ms ≤ R.slots) :
    va_Run p l e R s m args below meth c H locs cells slots mc ms g rest (Qc As.toArray) (free) := by
  obtain ⟨⟨hrc, hrs, hfr, hlo, hws, hcw⟩, hcode, hini, hy, hlen, hl, hstt⟩ := cw
  have hK : Back l R p e below s args y 3 8 (PreOf R mc ms Pc) (PostOf Qc mc ms free) := va_backW (hh := hh) (bytes := bytes) (maxL := maxL) (ret := ret) hM hp.1 hrc hrs hfr hlo hws hcw (fun a' U hW => word_at hW (Or.inl (by first | rfl | simp [Cond.onTables, Cond.keeps, Cond.steady])) hini)
  obtain ⟨hx, hb, hml, ho, -⟩ := S
  intro T hT X
  obtain ⟨v, vm₁, ⟨U', l2, c2, s2⟩, hW₁, X', ⟨g', mk, t, L, e1, e2, hq, h1, hL, h2, h3⟩, st⟩ := vx_callSW X hx (hh := hh) (bytes := bytes) (maxL := maxL) (ret := ret) ho hl hstt hini hcode hy hK hg (hsize.trans hml.symm) (argsL := As) (rest := rest) (fun sig h => hn.trans (hlen sig h)) hstack hW (by rw [hb]; exact hdg)
    (fun vm₁ hW₁ => ⟨hf.1, hf.2, hp.2 (T.setVm vm₁) hT hW₁⟩)
  dsimp only [Pt.U, Pt.locs, Pt.cells, Pt.slots] at X' e1 e2 h1 h2 h3 st
  subst h1; subst h2; subst h3
  exact ⟨v, (T.setVm vm₁).calling g' mk As.toArray, t, U', L, hT, X', hL, e1, e2, hq, st⟩
/-- a thing of a world lies in the heap -/
theorem vx_lt {D : va_G} {cl : List vw_C} {ws : va_W} {H1 : Heap} (h : va_P D cl ws H1) {k : Nat} {q : Nat × va_E} (hk : ws[k]? = some q) : q.1 < H1.size := (h k q hk).lt
end VXS
/-! ===== END ===== -/
/-! ===== BEGIN methods with a table of their own: called by a name, returning or throwing ===== -/
section VXH
/-! vx_backW, vx_callVX, vx_callSX, vx_callVW, vx_runVW, vx_runVX, vx_runSX, vx_ofWH follow the same proofs as their sisters above (Free/Laws.lean, Shelf42/LK1.lean); vx_outP calls Shelf42/NT130.lean (outThrough). -/
section
variable {l : Launch} {R : Room} {p : Program} {e : Env} {below : List Frame} {s : State} {sargs : Array Value} {y : MethodName} {len W9 : Nat}
theorem vx_backW {ws : List Cond} {rm : Room} {Pc : Array Value → State → Prop} {Qc : Array Value → State → Outcome → State → Prop} {XC : String → State → State → Prop} {mc ms : Nat} {free : Addr → Prop} {bytes : ByteArray} {maxL : Nat} {ret : Option FieldType} {hh : List (Nat × Nat × Nat × Nat)}
    (hM : vx_Met l y ws rm Pc Qc XC mc ms free) (hblind : FrameBlind Pc) (hrc : rm.cells = mc) (hrs : rm.slots = ms)
    (hframes : rm.frames + 1 ≤ R.frames) (hlocals : W9 + (maxL + 11) + rm.locals ≤ R.locals)
    (hws : ∀ w ∈ ws, ∀ a' U, s.WarmedH U.vm → w.before a' U = true) (hcode : Cond.codeWith y bytes maxL ret hh ∈ ws) (hinit : ∀ a' U, s.WarmedH U.vm → (Cond.initialized y.cls).before a' U = true) :
    vx_Back l R p e below s sargs y len W9 (PreOf R mc ms Pc) (PostOf Qc mc ms free) (vx_Post XC mc ms free) := by
  intro m meth c A g ig mk a X hg hsize hdg hW hn hp
  have h1 : (headSpec ws rm).pre.before a A.U = true := atoms_intro fun w hw => hws w hw _ _ X.warmed
  have h2 : (Cond.codeWith y bytes maxL ret hh).before a A.U = true := hws _ hcode _ _ X.warmed
  have h3 : (Cond.initialized y.cls).before a A.U = true := hinit _ _ X.warmed
  have h4 : A.cells + (headSpec ws rm).room.cells ≤ R.cells := by rw [show (headSpec ws rm).room.cells = mc from hrc]; exact hp.1
  have h5 : A.slots + (headSpec ws rm).room.slots ≤ R.slots := by rw [show (headSpec ws rm).room.slots = ms from hrs]; exact hp.2.1
  have hPc : Pc a (A.U.calling g mk a) := hblind _ _ _ _ hp.2.2
  obtain ⟨U, Ls, c0, s0⟩ := A
  dsimp only [Pt.U, Pt.locs, Pt.cells, Pt.slots] at h1 h2 h3 h4 h5 X hn hPc ⊢
  obtain ⟨m9, methY, cY, hn9, hmY, hcY, -, hlY, -⟩ := Cond.codeWith_spec h2
  cases Option.some.inj (hn9.symm.trans hn)
  obtain ⟨kY, hkY, -⟩ := className_of_methodNamed hn
  have hinitY : kY.init = .initialized := Cond.initialized_spec (findClass_of_methodNamed hn) hkY h3
  have h : At U g.method c below := by rw [hg]; exact X.here
  have hlocals9 : W9 + (maxL + 11) + (headSpec ws rm).room.locals ≤ R.locals := hlocals
  have happ : (headSpec ws rm).appliesLoose y e.platform (U.calling g mk a) = true :=
    Spec.appliesLoose_calling (g := g) h hdg hn hkY hinitY
      (X.room_calling (g := g) (R' := (headSpec ws rm).room) hsize hmY hcY hframes (by rw [hlY]; omega) h4 h5) h1
  obtain ⟨mid, hmid⟩ := h.above
  have hfr : (U.setTop g).frames = (.java g :: mid) ++ below := by rw [State.frames_setTop' g h.top, hmid]; rfl
  obtain ⟨o, s₂, hsteps, -, hend, hq⟩ := Steps.callFree hM p X.admits X.cas X.clock (acts := []) hfr happ hPc trivial
  have hq' : vx_Q Qc XC mc ms free a (U.calling g mk a) o s₂ := hq
  rw [State.frames_setTop' g h.top] at hend
  obtain ⟨g₀, hg0⟩ := Option.isSome_iff_exists.mp h.top
  obtain ⟨r, hr⟩ := State.topJava?_eq_some.mp hg0
  have hr' : (({ U with heap := s₂.heap, slotsUsed := s₂.slotsUsed } : State).setVm s₂.vm).frames = .java g₀ :: r := hr
  rcases hq' with ⟨hqc, L, hfe, hL⟩ | ⟨q, rfl, E, ce, L, hx, hce, hcv, hcl, hW₂, hsm, hL⟩
  · obtain ⟨⟨v, rfl⟩, hW₂, e2, q2, q3, q4, q5, q6⟩ := id hfe
    have e3 : s₂ = ({ (U.calling g mk a).setFrames s₂.frames with heap := s₂.heap, slotsUsed := s₂.slotsUsed } : State).setVm s₂.vm := by
      have : s₂ = ({ s₂ with vm := (U.calling g mk a).vm } : State).setVm s₂.vm := rfl
      rw [e2] at this
      exact this
    obtain ⟨c₂, i₂, len₂, hc₂, hd₂, hf₂⟩ := hend
    have hW' : U.WarmedH s₂.vm := hW₂
    have hcc : c₂ = c := by
      have h1 : s₂.code? g.method = U.code? g.method := by
        rw [State.code?_eq, State.code?_eq, hW'.alike.method?]
      exact Option.some.inj (hc₂.symm.trans (h1.trans h.code))
    subst hcc
    have hlen : len₂ = len := by rw [hdg] at hd₂; cases hd₂; rfl
    subst hlen
    have hs₂ : s₂ = (({ U with heap := s₂.heap, slotsUsed := s₂.slotsUsed } : State).setVm s₂.vm).setTop { g with pc := g.pc + len₂, stack := v.toList ++ g.stack } := by
      refine e3.trans ?_
      rw [hf₂, State.calling_eq h.top, State.setFrames_setFrames, State.setTop_of_frames _ hr', hr]
      rfl
    have hsame : U.sameButNew ({ U with heap := s₂.heap, slotsUsed := s₂.slotsUsed } : State) L mc ms := by
      refine ⟨?_, q2, q3, q4, q5, q6⟩
      obtain ⟨t, ht, -⟩ := State.frames_cons hr
      show ({ U with heap := s₂.heap, slotsUsed := s₂.slotsUsed } : State) = { U.setFrames U.frames with heap := s₂.heap, slotsUsed := s₂.slotsUsed }
      rw [State.setFrames_self ht]
    subst hg
    refine Or.inl ⟨v, ⟨(({ U with heap := s₂.heap, slotsUsed := s₂.slotsUsed } : State).setVm s₂.vm), Ls ++ L, c0 + mc, s0 + ms⟩,
      ⟨X.admits, X.cas, X.clock, X.frames, X.room, X.hears, X.method, X.code, (X.here.setHeapUsed s₂.heap s₂.slotsUsed).setVm hW'.alike, X.tail, State.WarmedH.trans X.warmed hW', X.limits, X.bytes, X.same.trans (hsame.setVm s.vm)⟩,
      ⟨g, mk, s₂, L, rfl, rfl, hqc, rfl, hL, rfl, rfl⟩, ?_⟩
    show Steps p.tables e below _ ((({ U with heap := s₂.heap, slotsUsed := s₂.slotsUsed } : State).setVm s₂.vm).setTop { g with pc := g.pc + len₂, stack := v.toList ++ g.stack })
    rw [← hs₂]
    exact hsteps
  · obtain ⟨e2, q2, q3, q4, q5, q6⟩ := id hsm
    have e3 : s₂ = ({ (U.calling g mk a).setFrames s₂.frames with heap := s₂.heap, slotsUsed := s₂.slotsUsed } : State).setVm s₂.vm := by
      have : s₂ = ({ s₂ with vm := (U.calling g mk a).vm } : State).setVm s₂.vm := rfl
      rw [e2] at this
      exact this
    have hf₂ : s₂.frames = .throwing q :: .java g :: U.frames.tail := hend
    have hW' : U.WarmedH s₂.vm := hW₂
    have hs₂ : s₂ = ((({ U with heap := s₂.heap, slotsUsed := s₂.slotsUsed } : State).setVm s₂.vm).setTop g).pushFrame (.throwing q) := by
      refine e3.trans ?_
      rw [hf₂, State.calling_eq h.top, State.setFrames_setFrames, State.pushFrame, State.frames_setTop _ hr', State.setTop_of_frames _ hr', State.setFrames_setFrames, hr]
      rfl
    have hsame : U.sameButNew ({ U with heap := s₂.heap, slotsUsed := s₂.slotsUsed } : State) L mc ms := by
      refine ⟨?_, q2, q3, q4, q5, q6⟩
      obtain ⟨t, ht, -⟩ := State.frames_cons hr
      show ({ U with heap := s₂.heap, slotsUsed := s₂.slotsUsed } : State) = { U.setFrames U.frames with heap := s₂.heap, slotsUsed := s₂.slotsUsed }
      rw [State.setFrames_self ht]
    subst hg
    refine Or.inr ⟨q, ⟨(({ U with heap := s₂.heap, slotsUsed := s₂.slotsUsed } : State).setVm s₂.vm), Ls ++ L, c0 + mc, s0 + ms⟩,
      ⟨X.admits, X.cas, X.clock, X.frames, X.room, X.hears, X.method, X.code, (X.here.setHeapUsed s₂.heap s₂.slotsUsed).setVm hW'.alike, X.tail, State.WarmedH.trans X.warmed hW', X.limits, X.bytes, X.same.trans (hsame.setVm s.vm)⟩,
      ⟨g, mk, s₂, L, E, ce, rfl, rfl, hx, hce, hcv, hcl, rfl, hL, rfl, rfl⟩, ?_⟩
    show Steps p.tables e below _ (((({ U with heap := s₂.heap, slotsUsed := s₂.slotsUsed } : State).setVm s₂.vm).setTop g).pushFrame (.throwing q))
    rw [← hs₂]
    exact hsteps
end
variable {p : Program} {l : Launch} {e : Env} {R : Room} {s : State} {m : MethodId} {args : Array Value} {below : List Frame} {meth : Method} {c : Code} {T : State} {H : Heap} {locs : List Loc} {cells slots : Nat}
theorem vx_callVX (X : Stand p l e R s m args below meth c T locs cells slots) (hexec : p.tables.exec = Jvm.exec) {own C : String} {index : Nat} {y : MethodName} {bytes : ByteArray} {maxL : Nat} {ret : Option FieldType} {hh : List (Nat × Nat × Nat × Nat)}
    (hown : s.vm.findClass own = some m.cls) (hlink : (Cond.methodLink own index y).before args s = true) (hinst : (Cond.instanceMethod y).before args s = true) (hsel : (Cond.selects C y y).before args s = true)
    (hcode : (Cond.codeWith y bytes maxL ret hh).before args s = true) (hy : y.cls ≠ "java/lang/invoke/MethodHandle" ∧ y.cls ≠ "java/lang/invoke/VarHandle")
    {W9 : Nat} {Pre : Pt → Array Value → Prop} {Post : Pt → Array Value → Option Value → Pt → Prop} {PostX : Pt → Array Value → Addr → Pt → Prop} (hK : vx_Back l R p e below s args y 3 W9 Pre Post PostX)
    {b : Addr} {cellB : Cell} (hcell : T.heap[b]? = some cellB) (hobj : cellB.vm.isStatics = false) (hcls : s.vm.findClass C = some cellB.cls)
    {g : JFrame} (hg : g.method = m) (hsize : g.locals.size = c.maxLocals) {argsL rest : List Value} (hlen : ∀ sig, parseMethodDescriptor y.desc = some sig → argsL.length = sig.parameters.length)
    (hstack : g.stack = argsL.reverse ++ .ref b :: rest) (hW : 2 * g.monitorRoom + (rest.map fun v => v.category).sum ≤ W9) (hdg : decode c.code g.pc = .ok (.invokevirtual index, 3))
    (hpre : ∀ vm₁, s.WarmedH vm₁ → Pre ⟨T.setVm vm₁, locs, cells, slots⟩ (Value.ref b :: argsL).toArray) :
    (∃ (v : Option Value) (vm₁ : Vm) (B : Pt), s.WarmedH vm₁ ∧ Stand p l e R s m args below meth c B.U B.locs B.cells B.slots ∧ Post ⟨T.setVm vm₁, locs, cells, slots⟩ (Value.ref b :: argsL).toArray v B ∧
      ∀ target, Steps p.tables e below (B.U.setTop { g with pc := g.pc + 3, stack := v.toList ++ rest }) target → Steps p.tables e below (T.setTop g) target) ∨
    (∃ (q : Addr) (vm₁ : Vm) (B : Pt), s.WarmedH vm₁ ∧ Stand p l e R s m args below meth c B.U B.locs B.cells B.slots ∧ PostX ⟨T.setVm vm₁, locs, cells, slots⟩ (Value.ref b :: argsL).toArray q B ∧
      Steps p.tables e below (T.setTop g) ((B.U.setTop { g with stack := rest }).pushFrame (.throwing q))) := by
  obtain ⟨mk, methM, hnamed, hmethM, hstM, habM⟩ := Cond.instanceMethod_spec hinst
  obtain ⟨m8, methM', cM, hn8, hmethM', -, -, -, -, -, -, hsigM⟩ := Cond.codeWith_spec hcode
  cases Option.some.inj (hn8.symm.trans hnamed)
  cases hmethM.symm.trans hmethM'
  obtain ⟨c2, r2, m2, q1, q2, q3, q4, kP, hkP, hkPi⟩ := Cond.selects_spec hsel
  cases hcls.symm.trans q1
  cases (State.methodFound?_of_named hnamed hy).symm.trans q2
  cases hnamed.symm.trans q3
  have hselP : selectMethod e.platform s.vm cellB.cls mk = .method mk := by rw [Launch.admits_selectMethod X.admits]; exact q4
  obtain ⟨vm₁, X₁, hstep₁⟩ := X.invokevirtual hexec hown hlink hnamed hmethM hstM hkP hkPi hy (a := b) (cell := cellB) hcell
    (fun z h => by rw [h] at hobj; cases hobj) hselP hmethM habM hkP hkPi (g := g) hg (argsL := argsL) (rest := rest) (hlen _ hsigM) hstack hdg
  rcases hK m meth c ⟨T.setVm vm₁, locs, cells, slots⟩ { g with stack := rest } (.invokevirtual index) mk (Value.ref b :: argsL).toArray X₁ hg hsize hdg hW (X₁.named hnamed) (hpre vm₁ X₁.warmed) with ⟨v, B, X', hpost, hsteps⟩ | ⟨q, B, X', hpost, hsteps⟩
  · exact Or.inl ⟨v, vm₁, B, X₁.warmed, X', hpost, fun target h => hstep₁ _ fun acts => by rw [doInvoke_state]; exact hsteps.trans h⟩
  · exact Or.inr ⟨q, vm₁, B, X₁.warmed, X', hpost, hstep₁ _ fun acts => by rw [doInvoke_state]; exact hsteps⟩
theorem vx_callSX (X : Stand p l e R s m args below meth c T locs cells slots) (hexec : p.tables.exec = Jvm.exec) {own : String} {index : Nat} {y : MethodName} {bytes : ByteArray} {maxL : Nat} {ret : Option FieldType} {hh : List (Nat × Nat × Nat × Nat)}
    (hown : s.vm.findClass own = some m.cls) (hlink : (Cond.methodLink own index y).before args s = true) (hstat : (Cond.static y).before args s = true) (hinit : (Cond.initialized y.cls).before args s = true)
    (hcode : (Cond.codeWith y bytes maxL ret hh).before args s = true) (hy : y.cls ≠ "java/lang/invoke/MethodHandle" ∧ y.cls ≠ "java/lang/invoke/VarHandle")
    {W9 : Nat} {Pre : Pt → Array Value → Prop} {Post : Pt → Array Value → Option Value → Pt → Prop} {PostX : Pt → Array Value → Addr → Pt → Prop} (hK : vx_Back l R p e below s args y 3 W9 Pre Post PostX)
    {g : JFrame} (hg : g.method = m) (hsize : g.locals.size = c.maxLocals) {argsL rest : List Value} (hlen : ∀ sig, parseMethodDescriptor y.desc = some sig → argsL.length = sig.parameters.length)
    (hstack : g.stack = argsL.reverse ++ rest) (hW : 2 * g.monitorRoom + (rest.map fun v => v.category).sum ≤ W9) (hdg : decode c.code g.pc = .ok (.invokestatic index, 3))
    (hpre : ∀ vm₁, s.WarmedH vm₁ → Pre ⟨T.setVm vm₁, locs, cells, slots⟩ argsL.toArray) :
    (∃ (v : Option Value) (vm₁ : Vm) (B : Pt), s.WarmedH vm₁ ∧ Stand p l e R s m args below meth c B.U B.locs B.cells B.slots ∧ Post ⟨T.setVm vm₁, locs, cells, slots⟩ argsL.toArray v B ∧
      ∀ target, Steps p.tables e below (B.U.setTop { g with pc := g.pc + 3, stack := v.toList ++ rest }) target → Steps p.tables e below (T.setTop g) target) ∨
    (∃ (q : Addr) (vm₁ : Vm) (B : Pt), s.WarmedH vm₁ ∧ Stand p l e R s m args below meth c B.U B.locs B.cells B.slots ∧ PostX ⟨T.setVm vm₁, locs, cells, slots⟩ argsL.toArray q B ∧
      Steps p.tables e below (T.setTop g) ((B.U.setTop { g with stack := rest }).pushFrame (.throwing q))) := by
  obtain ⟨mk, methM, cM, hnamed, hmethM, -, -, -, -, -, -, hsigM⟩ := Cond.codeWith_spec hcode
  have hstatic : methM.isStatic = true := Cond.static_spec hnamed hmethM hstat
  obtain ⟨kP, hkP, -⟩ := className_of_methodNamed hnamed
  have hinitP : kP.init = .initialized := Cond.initialized_spec (findClass_of_methodNamed hnamed) hkP hinit
  obtain ⟨vm₁, X₁, hstep₁⟩ := X.invokestatic hexec hown hlink hnamed hmethM hstatic hkP hinitP hy (g := g) hg (argsL := argsL) (rest := rest) (hlen _ hsigM) hstack hdg
  rcases hK m meth c ⟨T.setVm vm₁, locs, cells, slots⟩ { g with stack := rest } (.invokestatic index) mk argsL.toArray X₁ hg hsize hdg hW (X₁.named hnamed) (hpre vm₁ X₁.warmed) with ⟨v, B, X', hpost, hsteps⟩ | ⟨q, B, X', hpost, hsteps⟩
  · exact Or.inl ⟨v, vm₁, B, X₁.warmed, X', hpost, fun target h => hstep₁ _ fun acts => by rw [doInvoke_state]; exact hsteps.trans h⟩
  · exact Or.inr ⟨q, vm₁, B, X₁.warmed, X', hpost, hstep₁ _ fun acts => by rw [doInvoke_state]; exact hsteps⟩
theorem vx_callVW (X : Stand p l e R s m args below meth c T locs cells slots) (hexec : p.tables.exec = Jvm.exec) {own C : String} {index : Nat} {y : MethodName} {bytes : ByteArray} {maxL : Nat} {ret : Option FieldType} {hh : List (Nat × Nat × Nat × Nat)}
    (hown : s.vm.findClass own = some m.cls) (hlink : (Cond.methodLink own index y).before args s = true) (hinst : (Cond.instanceMethod y).before args s = true) (hsel : (Cond.selects C y y).before args s = true)
    (hcode : (Cond.codeWith y bytes maxL ret hh).before args s = true) (hy : y.cls ≠ "java/lang/invoke/MethodHandle" ∧ y.cls ≠ "java/lang/invoke/VarHandle")
    {W9 : Nat} {Pre : Pt → Array Value → Prop} {Post : Pt → Array Value → Option Value → Pt → Prop} (hK : Back l R p e below s args y 3 W9 Pre Post)
    {b : Addr} {cellB : Cell} (hcell : T.heap[b]? = some cellB) (hobj : cellB.vm.isStatics = false) (hcls : s.vm.findClass C = some cellB.cls)
    {g : JFrame} (hg : g.method = m) (hsize : g.locals.size = c.maxLocals) {argsL rest : List Value} (hlen : ∀ sig, parseMethodDescriptor y.desc = some sig → argsL.length = sig.parameters.length)
    (hstack : g.stack = argsL.reverse ++ .ref b :: rest) (hW : 2 * g.monitorRoom + (rest.map fun v => v.category).sum ≤ W9) (hdg : decode c.code g.pc = .ok (.invokevirtual index, 3))
    (hpre : ∀ vm₁, s.WarmedH vm₁ → Pre ⟨T.setVm vm₁, locs, cells, slots⟩ (Value.ref b :: argsL).toArray) :
    ∃ (v : Option Value) (vm₁ : Vm) (B : Pt), s.WarmedH vm₁ ∧ Stand p l e R s m args below meth c B.U B.locs B.cells B.slots ∧ Post ⟨T.setVm vm₁, locs, cells, slots⟩ (Value.ref b :: argsL).toArray v B ∧
      ∀ target, Steps p.tables e below (B.U.setTop { g with pc := g.pc + 3, stack := v.toList ++ rest }) target → Steps p.tables e below (T.setTop g) target := by
  obtain ⟨mk, methM, hnamed, hmethM, hstM, habM⟩ := Cond.instanceMethod_spec hinst
  obtain ⟨m8, methM', cM, hn8, hmethM', -, -, -, -, -, -, hsigM⟩ := Cond.codeWith_spec hcode
  cases Option.some.inj (hn8.symm.trans hnamed)
  cases hmethM.symm.trans hmethM'
  obtain ⟨c2, r2, m2, q1, q2, q3, q4, kP, hkP, hkPi⟩ := Cond.selects_spec hsel
  cases hcls.symm.trans q1
  cases (State.methodFound?_of_named hnamed hy).symm.trans q2
  cases hnamed.symm.trans q3
  have hselP : selectMethod e.platform s.vm cellB.cls mk = .method mk := by rw [Launch.admits_selectMethod X.admits]; exact q4
  obtain ⟨vm₁, X₁, hstep₁⟩ := X.invokevirtual hexec hown hlink hnamed hmethM hstM hkP hkPi hy (a := b) (cell := cellB) hcell
    (fun z h => by rw [h] at hobj; cases hobj) hselP hmethM habM hkP hkPi (g := g) hg (argsL := argsL) (rest := rest) (hlen _ hsigM) hstack hdg
  obtain ⟨v, B, X', hpost, hsteps⟩ := hK m meth c ⟨T.setVm vm₁, locs, cells, slots⟩ { g with stack := rest } (.invokevirtual index) mk (Value.ref b :: argsL).toArray X₁ hg hsize hdg hW (X₁.named hnamed) (hpre vm₁ X₁.warmed)
  exact ⟨v, vm₁, B, X₁.warmed, X', hpost, fun target h => hstep₁ _ fun acts => by rw [doInvoke_state]; exact hsteps.trans h⟩
abbrev vx_CVW (R : Room) (s : State) (args : Array Value) (own C : String) (index : Nat) (y : MethodName) (bytes : ByteArray) (maxL : Nat) (ret : Option FieldType) (hh : List (Nat × Nat × Nat × Nat)) (ws : List Cond) (rm : Room) (mc ms n : Nat) : Prop :=
  (rm.cells = mc ∧ rm.slots = ms ∧ rm.frames + 1 ≤ R.frames ∧ 8 + (maxL + 11) + rm.locals ≤ R.locals ∧ (∀ w ∈ ws, ∀ (a' : Array Value) (U : State), s.WarmedH U.vm → w.before a' U = true) ∧ Cond.codeWith y bytes maxL ret hh ∈ ws) ∧
  (Cond.codeWith y bytes maxL ret hh).before args s = true ∧ (Cond.initialized y.cls).before args s = true ∧ (y.cls ≠ "java/lang/invoke/MethodHandle" ∧ y.cls ≠ "java/lang/invoke/VarHandle") ∧
  (∀ sig, parseMethodDescriptor y.desc = some sig → n = sig.parameters.length) ∧ (Cond.methodLink own index y).before args s = true ∧ (Cond.instanceMethod y).before args s = true ∧ (Cond.selects C y y).before args s = true
theorem vx_cwVW {own C : String} {index maxL mc ms : Nat} {y : MethodName} {bytes : ByteArray} {ret : Option FieldType} {hh : List (Nat × Nat × Nat × Nat)} {Ts ws ws' : List Cond} {rm : Room} (n : Nat) (ht : ∀ w ∈ Ts, w.before args s = true) (hT : GoodIn Ts (wsV own index C y ws)) (hw : ws = Cond.codeWith y bytes maxL ret hh :: ws') (hrc : rm.cells = mc) (hrs : rm.slots = ms)
    (hd : y.cls = C ∧ y.cls ≠ "java/lang/invoke/MethodHandle" ∧ y.cls ≠ "java/lang/invoke/VarHandle" ∧ (parseMethodDescriptor y.desc).map (fun d => d.parameters.length) = some n) (hR : rm.frames + 1 ≤ R.frames ∧ 8 + (maxL + 11) + rm.locals ≤ R.locals) :
    vx_CVW R s args own C index y bytes maxL ret hh ws rm mc ms n := by
  obtain ⟨hC, hd⟩ := hd
  subst hC
  have ok : ∀ w ∈ wsV own index y.cls y ws, w.before args s = true := fun w h => ht w (hT w h).1
  have hG : GoodIn Ts ws := fun w h => hT w (by unfold wsV; exact List.mem_append_right _ h)
  have hc : Cond.codeWith y bytes maxL ret hh ∈ ws := by rw [hw]; exact List.mem_cons_self
  refine ⟨⟨hrc, hrs, hR.1, hR.2, pay_in ht hG, hc⟩, ht _ (hG _ hc).1, ok _ (by simp [wsV]), ⟨hd.1, hd.2.1⟩, fun sig h => ?_, ok _ (by simp [wsV]), ok _ (by simp [wsV]), ok _ (by simp [wsV])⟩
  have h2 := hd.2.2
  rw [h] at h2
  exact (Option.some.inj h2).symm
theorem vx_runVW {y : MethodName} {bytes cc : ByteArray} {maxL nL mc ms n index : Nat} {ret : Option FieldType} {hh : List (Nat × Nat × Nat × Nat)} {ws : List Cond} {rm : Room} {Pc : Array Value → State → Prop} {Qc : Array Value → State → Outcome → State → Prop} {free : Addr → Prop} {Ts : List Cond} {own C : String} {b : Addr} {As rest : List Value} {g : JFrame}
    (S : CallFix p m c cc nL s args Ts own) (hM : Met l y ws rm Pc Qc mc ms free) (cw : vx_CVW R s args own C index y bytes maxL ret hh ws rm mc ms n) (hp : PreV s H C b Pc As)
    (hg : g.method = m) (hn : As.length = n) (hsize : g.locals.size = nL) (hstack : g.stack = As.reverse ++ .ref b :: rest) (hW : 2 * g.monitorRoom + (rest.map fun v => v.category).sum ≤ 8) (hdg : decode cc g.pc = .ok (.invokevirtual index, 3)) (hf : cells + mc ≤ R.cells ∧ slots + ms ≤ R.slots) :
    va_Run p l e R s m args below meth c H locs cells slots mc ms g rest (Qc (Value.ref b :: As).toArray) free := by
  obtain ⟨⟨hrc, hrs, hfr, hlo, hws, hcw⟩, hcode, hini, hy, hlen, hl, hin, hse⟩ := cw
  have hK : Back l R p e below s args y 3 8 (PreOf R mc ms Pc) (PostOf Qc mc ms free) := va_backW (hh := hh) (bytes := bytes) (maxL := maxL) (ret := ret) hM hp.1 hrc hrs hfr hlo hws hcw (fun a' U hW => word_at hW (Or.inl (by first | rfl | simp [Cond.onTables, Cond.keeps, Cond.steady])) hini)
  obtain ⟨hx, hb, hml, ho, -⟩ := S
  obtain ⟨-, ⟨cellB, hcB, hoB, hclB⟩, hPc⟩ := hp
  intro T hT X
  obtain ⟨v, vm₁, ⟨U', l2, c2, s2⟩, hW₁, X', ⟨g', mk, t, L, e1, e2, hq, h1, hL, h2, h3⟩, st⟩ := vx_callVW X hx (C := C) (hh := hh) (bytes := bytes) (maxL := maxL) (ret := ret) ho hl hin hse hcode hy hK (by rw [hT]; exact hcB) hoB hclB hg (hsize.trans hml.symm) (argsL := As) (rest := rest) (fun sig h => hn.trans (hlen sig h)) hstack hW (by rw [hb]; exact hdg)
    (fun vm₁ hW₁ => ⟨hf.1, hf.2, hPc (T.setVm vm₁) hT hW₁⟩)
  dsimp only [Pt.U, Pt.locs, Pt.cells, Pt.slots] at X' e1 e2 h1 h2 h3 st
  subst h1; subst h2; subst h3
  exact ⟨v, (T.setVm vm₁).calling g' mk (Value.ref b :: As).toArray, t, U', L, hT, X', hL, e1, e2, hq, st⟩
section
variable {y : MethodName} {bytes cc : ByteArray} {maxL nL mc ms n index : Nat} {ret : Option FieldType} {ws : List Cond} {rm : Room} {Pc : Array Value → State → Prop} {Qc : Array Value → State → Outcome → State → Prop} {XC : String → State → State → Prop} {free : Addr → Prop} {Ts : List Cond} {own C : String} {b : Addr} {As rest : List Value} {g : JFrame}
theorem vx_runVX {hh : List (Nat × Nat × Nat × Nat)} (S : CallFix p m c cc nL s args Ts own) (hM : vx_Met l y ws rm Pc Qc XC mc ms free) (cw : vx_CVW R s args own C index y bytes maxL ret hh ws rm mc ms n) (hp : PreV s H C b Pc As)
    (hg : g.method = m) (hn : As.length = n) (hsize : g.locals.size = nL) (hstack : g.stack = As.reverse ++ .ref b :: rest) (hW : 2 * g.monitorRoom + (rest.map fun v => v.category).sum ≤ 8) (hdg : decode cc g.pc = .ok (.invokevirtual index, 3)) (hf : cells + mc ≤ R.cells ∧ slots + ms ≤ R.slots) :
    vx_Run p l e R s m args below meth c H locs cells slots mc ms g rest (Qc (Value.ref b :: As).toArray) XC free := by
  obtain ⟨⟨hrc, hrs, hfr, hlo, hws, hcw⟩, hcode, hini, hy, hlen, hl, hin, hse⟩ := cw
  have hK : vx_Back l R p e below s args y 3 8 (PreOf R mc ms Pc) (PostOf Qc mc ms free) (vx_Post XC mc ms free) := vx_backW (hh := hh) (bytes := bytes) (maxL := maxL) (ret := ret) hM hp.1 hrc hrs hfr hlo hws hcw (fun a' U hW => word_at hW (Or.inl (by first | rfl | simp [Cond.onTables, Cond.keeps, Cond.steady])) hini)
  obtain ⟨hx, hb, hml, ho, -⟩ := S
  obtain ⟨-, ⟨cellB, hcB, hoB, hclB⟩, hPc⟩ := hp
  intro T hT X
  rcases vx_callVX X hx (C := C) (hh := hh) (bytes := bytes) (maxL := maxL) (ret := ret) ho hl hin hse hcode hy hK (by rw [hT]; exact hcB) hoB hclB hg (hsize.trans hml.symm) (argsL := As) (rest := rest) (fun sig h => hn.trans (hlen sig h)) hstack hW (by rw [hb]; exact hdg)
    (fun vm₁ hW₁ => ⟨hf.1, hf.2, hPc (T.setVm vm₁) hT hW₁⟩) with ⟨v, vm₁, ⟨U', l2, c2, s2⟩, hW₁, X', ⟨g', mk, t, L, e1, e2, hq, h1, hL, h2, h3⟩, st⟩ | ⟨q, vm₁, ⟨U', l2, c2, s2⟩, hW₁, X', ⟨g', mk, t, L, E, ce, e1, e2, hq, hce, hcv, hcl, h1, hL, h2, h3⟩, st⟩
  · dsimp only [Pt.U, Pt.locs, Pt.cells, Pt.slots] at X' e1 e2 h1 h2 h3 st
    subst h1; subst h2; subst h3
    exact Or.inl ⟨v, (T.setVm vm₁).calling g' mk (Value.ref b :: As).toArray, t, U', L, hT, X', hL, e1, e2, hq, st⟩
  · dsimp only [Pt.U, Pt.locs, Pt.cells, Pt.slots] at X' e1 e2 h1 h2 h3 st hcl
    subst h1; subst h2; subst h3
    exact Or.inr ⟨q, (T.setVm vm₁).calling g' mk (Value.ref b :: As).toArray, t, U', L, E, ce, hT, X', hL, e1, e2, hq, hce, hcv, vx_cls hW₁ hcl, st⟩
theorem vx_runSX {hh : List (Nat × Nat × Nat × Nat)} (S : CallFix p m c cc nL s args Ts own) (hM : vx_Met l y ws rm Pc Qc XC mc ms free) (cw : vx_CSW R s args own index y bytes maxL ret hh ws rm mc ms n) (hp : PreS s H Pc As)
    (hg : g.method = m) (hn : As.length = n) (hsize : g.locals.size = nL) (hstack : g.stack = As.reverse ++ rest) (hW : 2 * g.monitorRoom + (rest.map fun v => v.category).sum ≤ 8) (hdg : decode cc g.pc = .ok (.invokestatic index, 3)) (hf : cells + mc ≤ R.cells ∧ slots + ms ≤ R.slots) :
    vx_Run p l e R s m args below meth c H locs cells slots mc ms g rest (Qc As.toArray) XC free := by
  obtain ⟨⟨hrc, hrs, hfr, hlo, hws, hcw⟩, hcode, hini, hy, hlen, hl, hstt⟩ := cw
  have hK : vx_Back l R p e below s args y 3 8 (PreOf R mc ms Pc) (PostOf Qc mc ms free) (vx_Post XC mc ms free) := vx_backW (hh := hh) (bytes := bytes) (maxL := maxL) (ret := ret) hM hp.1 hrc hrs hfr hlo hws hcw (fun a' U hW => word_at hW (Or.inl (by first | rfl | simp [Cond.onTables, Cond.keeps, Cond.steady])) hini)
  obtain ⟨hx, hb, hml, ho, -⟩ := S
  intro T hT X
  rcases vx_callSX X hx (hh := hh) (bytes := bytes) (maxL := maxL) (ret := ret) ho hl hstt hini hcode hy hK hg (hsize.trans hml.symm) (argsL := As) (rest := rest) (fun sig h => hn.trans (hlen sig h)) hstack hW (by rw [hb]; exact hdg)
    (fun vm₁ hW₁ => ⟨hf.1, hf.2, hp.2 (T.setVm vm₁) hT hW₁⟩) with ⟨v, vm₁, ⟨U', l2, c2, s2⟩, hW₁, X', ⟨g', mk, t, L, e1, e2, hq, h1, hL, h2, h3⟩, st⟩ | ⟨q, vm₁, ⟨U', l2, c2, s2⟩, hW₁, X', ⟨g', mk, t, L, E, ce, e1, e2, hq, hce, hcv, hcl, h1, hL, h2, h3⟩, st⟩
  · dsimp only [Pt.U, Pt.locs, Pt.cells, Pt.slots] at X' e1 e2 h1 h2 h3 st
    subst h1; subst h2; subst h3
    exact Or.inl ⟨v, (T.setVm vm₁).calling g' mk As.toArray, t, U', L, hT, X', hL, e1, e2, hq, st⟩
  · dsimp only [Pt.U, Pt.locs, Pt.cells, Pt.slots] at X' e1 e2 h1 h2 h3 st hcl
    subst h1; subst h2; subst h3
    exact Or.inr ⟨q, (T.setVm vm₁).calling g' mk As.toArray, t, U', L, E, ce, hT, X', hL, e1, e2, hq, hce, hcv, vx_cls hW₁ hcl, st⟩
end
end VXH
theorem vx_ofWH {l : Launch} {y : MethodName} {ws ws' : List Cond} {rm : Room} {Pc : Array Value → State → Prop} {Qc : Array Value → State → Outcome → State → Prop} {XC : String → State → State → Prop} {mc ms : Nat} {free : Addr → Prop} {cc : ByteArray} {maxL : Nat} {ret : Option FieldType} {hh : List (Nat × Nat × Nat × Nat)}
    (hy : plainName y.cls = true) (hw : ws = Cond.codeWith y cc maxL ret hh :: ws')
    (body : ∀ p e s m args below meth c s₁, BodyLoose p l y (headSpec ws rm) cc maxL ret e s m args below meth c s₁ → c.maxLocals = maxL → Pc args s →
      W p l e (headSpec ws rm).room s m args below meth c s.heap [] 0 0 (vx_MQ below Qc XC args s mc ms free) (entryFrame m args maxL)) : vx_Met l y ws rm Pc Qc XC mc ms free := by
  refine MetFree.of_bodyS (code := cc) (maxLocals := maxL) (ret := ret) hy ?_ ?_
  · intro args s m h hn
    obtain ⟨m9, meth, c, hn9, h1, h2, h3, h4, -, h5, h6, -⟩ := Cond.codeWith_spec (atoms_spec (ws := ws) h _ (by rw [hw]; exact List.mem_cons_self))
    cases hn.symm.trans hn9
    exact ⟨meth, c, h1, h2, h3, h4, h5, h6⟩
  · intro p e s m args below meth c s₁ B hml hP _
    have hh0 : s₁.heap = s.heap := by rw [B.state]; rfl
    obtain ⟨t, a1, o, b1, b2, b3⟩ := body p e s m args below meth c s₁ B hml hP s₁ hh0 (Stand.of_body B)
    exact ⟨t, o, a1, b1, b2, b3⟩
/-! ===== END ===== -/
end
section
/-! NoSuchElementException(String) calls its superclass by entry 13 of its pool (the others: 7): its words, by that entry. -/
def zr_six : ByteArray := ⟨#[0x2a, 0x2b, 0xb7, 0x00, 0x0d, 0xb1]⟩
theorem zr_six_0 : decode zr_six 0 = .ok (.aload_n 0, 1) := by decide +kernel
theorem zr_six_1 : decode zr_six 1 = .ok (.aload_n 1, 1) := by decide +kernel
theorem zr_six_2 : decode zr_six 2 = .ok (.invokespecial 13, 3) := by decide +kernel
theorem zr_six_5 : decode zr_six 5 = .ok (.return_, 1) := by decide +kernel
def zr_chain (X : String) : List String → List Cond
  | [] => Bundle.passSAtoms X Bundle.tN 13 zr_six
  | Y :: r => Bundle.passSAtoms X Y 13 zr_six ++ Bundle.chainSAtoms Y r
def zr_own (own : String) (ic : Nat) (X : String) (names : List String) : List Cond :=
  Bundle.throwableAtoms ++ Bundle.throwableSAtoms ++ zr_chain X names ++
  [.methodLink own ic (Bundle.initS X), .instantiable X 6, .castable X X, .selects X Bundle.tFill0 Bundle.tFill0, .selects X Bundle.tFill Bundle.tFill,
   .lays X Bundle.tN "cause" "Ljava/lang/Throwable;", .lays X Bundle.tN "stackTrace" Bundle.steD, .lays X Bundle.tN "suppressedExceptions" Bundle.listD, .lays X Bundle.tN "detailMessage" "Ljava/lang/String;",
   .isRef (.static Bundle.tN "UNASSIGNED_STACK" Bundle.steD), .isRef (.static Bundle.tN "SUPPRESSED_SENTINEL" Bundle.listD),
   .fieldLink Bundle.tN 198 Bundle.tN "backtrace" "Ljava/lang/Object;", .lays Bundle.tN Bundle.tN "backtrace" "Ljava/lang/Object;", .lays X Bundle.tN "backtrace" "Ljava/lang/Object;"]
def zr_atS (own : String) (ic : Nat) (X : String) (names : List String) : List Cond := (zr_own own ic X names).filter vx_no
end
section
/-! ===== BEGIN printed: names, fields, word lists, decode rows ===== -/
def RX0 : String := "CellRack"
def TX0 : u_T := fun k => match k with
  | 0 => ("CellRack", "now", "[J", true)
  | 1 => ("CellRack", "latest", "[J", true)
  | 2 => ("CellRack", "kinds", "[I", true)
  | 3 => ("CellRack", "cellsOfKind", "[I", true)
  | 4 => ("CellRack", "liveDisks", "I", false)
  | 5 => ("CellRack", "tape", "[J", true)
  | 6 => ("CellRack", "tapeBytes", "I", false)
  | 7 => ("CellRack", "out", "[J", true)
  | 8 => ("CellRack", "outBytes", "I", false)
  | 9 => ("CellRack", "off", "Z", false)
  | 10 => ("CellRack", "writesLeft", "I", false)
  | _ => ("CellRack", "writesDone", "J", false)
def tyX0 : Nat → FieldType := fun k => match k with
  | 0 => .array .long
  | 1 => .array .long
  | 2 => .array .int
  | 3 => .array .int
  | 4 => .int
  | 5 => .array .long
  | 6 => .int
  | 7 => .array .long
  | 8 => .int
  | 9 => .boolean
  | 10 => .int
  | _ => .long
abbrev wsX00 : List Cond := u_ws RX0 TX0 12
theorem nmX0 : ∀ a, a < 12 → ∀ b, b < 12 → a ≠ b → (TX0 a).2.1 ≠ (TX0 b).2.1 := by decide +kernel
theorem tyX0_ok : ∀ k, k < 12 → parseFieldDescriptor (TX0 k).2.2.1 = some (tyX0 k) := by decide +kernel
abbrev cX0_init : ByteArray := prog_1_method_1_code
def yX0_init : MethodName := ⟨RX0, "<init>", "()V"⟩
abbrev cX0_feed : ByteArray := prog_1_method_2_code
def yX0_feed : MethodName := ⟨RX0, "feed", "(IJ)I"⟩
abbrev cX0_write : ByteArray := prog_1_method_3_code
def yX0_write : MethodName := ⟨RX0, "write", "(III)Z"⟩
abbrev cX0_read : ByteArray := prog_1_method_4_code
def yX0_read : MethodName := ⟨RX0, "read", "(II)Z"⟩
abbrev cX0_outs : ByteArray := prog_1_method_5_code
def yX0_outs : MethodName := ⟨RX0, "outs", "(I)J"⟩
abbrev cX0_tag : ByteArray := prog_1_method_6_code
def yX0_tag : MethodName := ⟨RX0, "tag", "(II)I"⟩
abbrev cX0_cell : ByteArray := prog_1_method_7_code
def yX0_cell : MethodName := ⟨RX0, "cell", "(II)I"⟩
abbrev cX0_at : ByteArray := prog_1_method_8_code
def yX0_at : MethodName := ⟨RX0, "at", "(III)I"⟩
abbrev cX0_fail : ByteArray := prog_1_method_9_code
def yX0_fail : MethodName := ⟨RX0, "fail", "(I)Z"⟩
abbrev cX0_replace : ByteArray := prog_1_method_10_code
def yX0_replace : MethodName := ⟨RX0, "replace", "(I)Z"⟩
abbrev cX0_corrupt : ByteArray := prog_1_method_11_code
def yX0_corrupt : MethodName := ⟨RX0, "corrupt", "(IIIJI)Z"⟩
abbrev cX0_lose : ByteArray := prog_1_method_12_code
def yX0_lose : MethodName := ⟨RX0, "lose", "(I)V"⟩
abbrev cX0_power : ByteArray := prog_1_method_13_code
def yX0_power : MethodName := ⟨RX0, "power", "()Z"⟩
abbrev cX0_look : ByteArray := prog_1_method_14_code
def yX0_look : MethodName := ⟨RX0, "look", "(I)J"⟩
abbrev cX0_isDisk : ByteArray := prog_1_method_15_code
def yX0_isDisk : MethodName := ⟨RX0, "isDisk", "(I)Z"⟩
abbrev cX0_isCell : ByteArray := prog_1_method_16_code
def yX0_isCell : MethodName := ⟨RX0, "isCell", "(II)Z"⟩
abbrev cX0_isCount : ByteArray := prog_1_method_17_code
def yX0_isCount : MethodName := ⟨RX0, "isCount", "(I)Z"⟩
abbrev cX0_needDisk : ByteArray := prog_1_method_18_code
def yX0_needDisk : MethodName := ⟨RX0, "needDisk", "(I)V"⟩
abbrev cX0_needCell : ByteArray := prog_1_method_19_code
def yX0_needCell : MethodName := ⟨RX0, "needCell", "(II)V"⟩
abbrev cX0_spotOf : ByteArray := prog_1_method_20_code
def yX0_spotOf : MethodName := ⟨RX0, "spotOf", "(II)I"⟩
abbrev cX0_isLive : ByteArray := prog_1_method_21_code
def yX0_isLive : MethodName := ⟨RX0, "isLive", "(I)Z"⟩
abbrev cX0_hasBytes : ByteArray := prog_1_method_22_code
def yX0_hasBytes : MethodName := ⟨RX0, "hasBytes", "(I)Z"⟩
abbrev cX0_setKind : ByteArray := prog_1_method_23_code
def yX0_setKind : MethodName := ⟨RX0, "setKind", "(II)V"⟩
abbrev cX0_setKindOfAll : ByteArray := prog_1_method_24_code
def yX0_setKindOfAll : MethodName := ⟨RX0, "setKindOfAll", "(II)V"⟩
abbrev cX0_drawPower : ByteArray := prog_1_method_25_code
def yX0_drawPower : MethodName := ⟨RX0, "drawPower", "()Z"⟩
abbrev cX0_putTape : ByteArray := prog_1_method_26_code
def yX0_putTape : MethodName := ⟨RX0, "putTape", "(II)V"⟩
abbrev cX0_clearTape : ByteArray := prog_1_method_27_code
def yX0_clearTape : MethodName := ⟨RX0, "clearTape", "()V"⟩
abbrev cX0_isAsWritten : ByteArray := prog_1_method_28_code
def yX0_isAsWritten : MethodName := ⟨RX0, "isAsWritten", "(I)Z"⟩
abbrev cX0_hasItsCheck : ByteArray := prog_1_method_29_code
def yX0_hasItsCheck : MethodName := ⟨RX0, "hasItsCheck", "(I)Z"⟩
abbrev cX0_checkOf : ByteArray := prog_1_method_30_code
def yX0_checkOf : MethodName := ⟨RX0, "checkOf", "(I)J"⟩
abbrev cX0_byteOf : ByteArray := prog_1_method_31_code
def yX0_byteOf : MethodName := ⟨RX0, "byteOf", "([JII)I"⟩
abbrev cX0_turnBytes : ByteArray := prog_1_method_32_code
def yX0_turnBytes : MethodName := ⟨RX0, "turnBytes", "([JIIJI)V"⟩
def RX1 : String := "CellRackModel"
def TX1 : u_T := fun k => match k with
  | 0 => ("CellRackModel", "thrown", "I", false)
  | 1 => ("CellRackModel", "tape", "[I", true)
  | 2 => ("CellRackModel", "taped", "I", false)
  | 3 => ("CellRackModel", "out", "[I", true)
  | 4 => ("CellRackModel", "outs", "I", false)
  | 5 => ("CellRackModel", "live", "[Z", true)
  | 6 => ("CellRackModel", "written", "[Z", true)
  | 7 => ("CellRackModel", "bytes", "[B", true)
  | 8 => ("CellRackModel", "damage", "[B", true)
  | 9 => ("CellRackModel", "done", "J", false)
  | 10 => ("CellRackModel", "left", "J", false)
  | 11 => ("CellRackModel", "off", "Z", false)
  | _ => ("CellRackModel", "bits", "[Z", true)
def tyX1 : Nat → FieldType := fun k => match k with
  | 0 => .int
  | 1 => .array .int
  | 2 => .int
  | 3 => .array .int
  | 4 => .int
  | 5 => .array .boolean
  | 6 => .array .boolean
  | 7 => .array .byte
  | 8 => .array .byte
  | 9 => .long
  | 10 => .long
  | 11 => .boolean
  | _ => .array .boolean
abbrev wsX10 : List Cond := u_ws RX1 TX1 13
theorem nmX1 : ∀ a, a < 13 → ∀ b, b < 13 → a ≠ b → (TX1 a).2.1 ≠ (TX1 b).2.1 := by decide +kernel
theorem tyX1_ok : ∀ k, k < 13 → parseFieldDescriptor (TX1 k).2.2.1 = some (tyX1 k) := by decide +kernel
abbrev cX1_init : ByteArray := prog_3_method_1_code
def yX1_init : MethodName := ⟨RX1, "<init>", "()V"⟩
abbrev cX1_thrown : ByteArray := prog_3_method_2_code
def yX1_thrown : MethodName := ⟨RX1, "thrown", "()I"⟩
abbrev cX1_fails : ByteArray := prog_3_method_3_code
def yX1_fails : MethodName := ⟨RX1, "fails", "(ZI)Z"⟩
abbrev cX1_within : ByteArray := prog_3_method_4_code
def yX1_within : MethodName := ⟨RX1, "within", "(III)Z"⟩
abbrev cX1_none : ByteArray := prog_3_method_5_code
def yX1_none : MethodName := ⟨RX1, "none", "(II)Z"⟩
abbrev cX1_spot : ByteArray := prog_3_method_6_code
def yX1_spot : MethodName := ⟨RX1, "spot", "(II)I"⟩
abbrev cX1_divide : ByteArray := prog_3_method_7_code
def yX1_divide : MethodName := ⟨RX1, "divide", "(I)V"⟩
abbrev cX1_spread : ByteArray := prog_3_method_8_code
def yX1_spread : MethodName := ⟨RX1, "spread", "([BII)V"⟩
abbrev cX1_check : ByteArray := prog_3_method_9_code
def yX1_check : MethodName := ⟨RX1, "check", "(I)V"⟩
abbrev cX1_isDamaged : ByteArray := prog_3_method_10_code
def yX1_isDamaged : MethodName := ⟨RX1, "isDamaged", "(I)Z"⟩
abbrev cX1_isUnseen : ByteArray := prog_3_method_11_code
def yX1_isUnseen : MethodName := ⟨RX1, "isUnseen", "(I)Z"⟩
abbrev cX1_stateOf : ByteArray := prog_3_method_12_code
def yX1_stateOf : MethodName := ⟨RX1, "stateOf", "(II)I"⟩
abbrev cX1_feed : ByteArray := prog_3_method_13_code
def yX1_feed : MethodName := ⟨RX1, "feed", "(IJ)I"⟩
abbrev cX1_write : ByteArray := prog_3_method_14_code
def yX1_write : MethodName := ⟨RX1, "write", "(III)Z"⟩
abbrev cX1_byteAt : ByteArray := prog_3_method_15_code
def yX1_byteAt : MethodName := ⟨RX1, "byteAt", "(II)I"⟩
abbrev cX1_read : ByteArray := prog_3_method_16_code
def yX1_read : MethodName := ⟨RX1, "read", "(II)Z"⟩
abbrev cX1_outs : ByteArray := prog_3_method_17_code
def yX1_outs : MethodName := ⟨RX1, "outs", "(I)J"⟩
abbrev cX1_tag : ByteArray := prog_3_method_18_code
def yX1_tag : MethodName := ⟨RX1, "tag", "(II)I"⟩
abbrev cX1_cell : ByteArray := prog_3_method_19_code
def yX1_cell : MethodName := ⟨RX1, "cell", "(II)I"⟩
abbrev cX1_at : ByteArray := prog_3_method_20_code
def yX1_at : MethodName := ⟨RX1, "at", "(III)I"⟩
abbrev cX1_noDisk : ByteArray := prog_3_method_21_code
def yX1_noDisk : MethodName := ⟨RX1, "noDisk", "(I)Z"⟩
abbrev cX1_fail : ByteArray := prog_3_method_22_code
def yX1_fail : MethodName := ⟨RX1, "fail", "(I)Z"⟩
abbrev cX1_replace : ByteArray := prog_3_method_23_code
def yX1_replace : MethodName := ⟨RX1, "replace", "(I)Z"⟩
abbrev cX1_corrupt : ByteArray := prog_3_method_24_code
def yX1_corrupt : MethodName := ⟨RX1, "corrupt", "(IIIJI)Z"⟩
abbrev cX1_strike : ByteArray := prog_3_method_25_code
def yX1_strike : MethodName := ⟨RX1, "strike", "(IIJI)V"⟩
abbrev cX1_lose : ByteArray := prog_3_method_26_code
def yX1_lose : MethodName := ⟨RX1, "lose", "(I)V"⟩
abbrev cX1_power : ByteArray := prog_3_method_27_code
def yX1_power : MethodName := ⟨RX1, "power", "()Z"⟩
abbrev cX1_count : ByteArray := prog_3_method_28_code
def yX1_count : MethodName := ⟨RX1, "count", "(I)J"⟩
abbrev cX1_look : ByteArray := prog_3_method_29_code
def yX1_look : MethodName := ⟨RX1, "look", "(I)J"⟩
def RJ9 : String := "java/lang/Math"
def TJ9 : u_T := fun k => match k with
  | _ => ("", "", "", false)
def tyJ9 : Nat → FieldType := fun k => match k with
  | _ => .int
abbrev wsJ90 : List Cond := u_ws RJ9 TJ9 0
theorem nmJ9 : ∀ a, a < 0 → ∀ b, b < 0 → a ≠ b → (TJ9 a).2.1 ≠ (TJ9 b).2.1 := by decide +kernel
theorem tyJ9_ok : ∀ k, k < 0 → parseFieldDescriptor (TJ9 k).2.2.1 = some (tyJ9 k) := by decide +kernel
abbrev cJ9_min_7cf53 : ByteArray := prog_7_method_69_code
def yJ9_min_7cf53 : MethodName := ⟨RJ9, "min", "(II)I"⟩
def RJ0 : String := "java/lang/String"
def TJ0 : u_T := fun k => match k with
  | _ => ("", "", "", false)
def tyJ0 : Nat → FieldType := fun k => match k with
  | _ => .int
abbrev wsJ00 : List Cond := u_ws RJ0 TJ0 0
theorem nmJ0 : ∀ a, a < 0 → ∀ b, b < 0 → a ≠ b → (TJ0 a).2.1 ≠ (TJ0 b).2.1 := by decide +kernel
theorem tyJ0_ok : ∀ k, k < 0 → parseFieldDescriptor (TJ0 k).2.2.1 = some (tyJ0 k) := by decide +kernel
def RJ10 : String := "java/lang/System"
def TJ10 : u_T := fun k => match k with
  | _ => ("", "", "", false)
def tyJ10 : Nat → FieldType := fun k => match k with
  | _ => .int
abbrev wsJ100 : List Cond := u_ws RJ10 TJ10 0
theorem nmJ10 : ∀ a, a < 0 → ∀ b, b < 0 → a ≠ b → (TJ10 a).2.1 ≠ (TJ10 b).2.1 := by decide +kernel
theorem tyJ10_ok : ∀ k, k < 0 → parseFieldDescriptor (TJ10 k).2.2.1 = some (tyJ10 k) := by decide +kernel
def RJ7 : String := "java/util/Arrays"
def TJ7 : u_T := fun k => match k with
  | _ => ("", "", "", false)
def tyJ7 : Nat → FieldType := fun k => match k with
  | _ => .int
abbrev wsJ70 : List Cond := u_ws RJ7 TJ7 0
theorem nmJ7 : ∀ a, a < 0 → ∀ b, b < 0 → a ≠ b → (TJ7 a).2.1 ≠ (TJ7 b).2.1 := by decide +kernel
theorem tyJ7_ok : ∀ k, k < 0 → parseFieldDescriptor (TJ7 k).2.2.1 = some (tyJ7 k) := by decide +kernel
abbrev cJ7_fill_d0a16 : ByteArray := prog_12_method_101_code
def yJ7_fill_d0a16 : MethodName := ⟨RJ7, "fill", "([JJ)V"⟩
abbrev cJ7_fill_53178 : ByteArray := prog_12_method_103_code
def yJ7_fill_53178 : MethodName := ⟨RJ7, "fill", "([II)V"⟩
def RL : String := "CellRackLaw"
abbrev cL_feed : ByteArray := method_3_code
def yL_feed : MethodName := ⟨RL, "feed", "(LCellRack;IJ[J)I"⟩
abbrev cL_write : ByteArray := method_4_code
def yL_write : MethodName := ⟨RL, "write", "(LCellRack;III[J)I"⟩
abbrev cL_read : ByteArray := method_5_code
def yL_read : MethodName := ⟨RL, "read", "(LCellRack;II[J)I"⟩
abbrev cL_outs : ByteArray := method_6_code
def yL_outs : MethodName := ⟨RL, "outs", "(LCellRack;I[J)I"⟩
abbrev cL_tag : ByteArray := method_7_code
def yL_tag : MethodName := ⟨RL, "tag", "(LCellRack;II[J)I"⟩
abbrev cL_cell : ByteArray := method_8_code
def yL_cell : MethodName := ⟨RL, "cell", "(LCellRack;II[J)I"⟩
abbrev cL_at : ByteArray := method_9_code
def yL_at : MethodName := ⟨RL, "at", "(LCellRack;III[J)I"⟩
abbrev cL_fail : ByteArray := method_10_code
def yL_fail : MethodName := ⟨RL, "fail", "(LCellRack;I[J)I"⟩
abbrev cL_replace : ByteArray := method_11_code
def yL_replace : MethodName := ⟨RL, "replace", "(LCellRack;I[J)I"⟩
abbrev cL_corrupt : ByteArray := method_12_code
def yL_corrupt : MethodName := ⟨RL, "corrupt", "(LCellRack;IIIJI[J)I"⟩
abbrev cL_lose : ByteArray := method_13_code
def yL_lose : MethodName := ⟨RL, "lose", "(LCellRack;I)I"⟩
abbrev cL_look : ByteArray := method_14_code
def yL_look : MethodName := ⟨RL, "look", "(LCellRack;I[J)I"⟩
abbrev cL_law : ByteArray := code
def yL_law : MethodName := ⟨RL, "law", "([I)Z"⟩
def wsJ7_fill_53178 : List Cond := .code yJ7_fill_53178 cJ7_fill_53178 4 none :: ([])
def wsX0_init : List Cond := .code yX0_init cX0_init 1 none :: ([.methodLink RX0 3 objectInit, .instanceMethod objectInit, .code objectInit ⟨#[0xb1]⟩ 1 none, .arrayClass .long, .fieldLink RX0 9 "CellRack" "now" "[J", .fieldLink RX0 13 "CellRack" "latest" "[J", .arrayClass .int, .fieldLink RX0 16 "CellRack" "kinds" "[I", .fieldLink RX0 26 "CellRack" "cellsOfKind" "[I", .fieldLink RX0 29 "CellRack" "liveDisks" "I", .fieldLink RX0 33 "CellRack" "tape" "[J", .fieldLink RX0 36 "CellRack" "tapeBytes" "I", .fieldLink RX0 39 "CellRack" "out" "[J", .fieldLink RX0 42 "CellRack" "outBytes" "I", .fieldLink RX0 45 "CellRack" "off" "Z", .fieldLink RX0 49 "CellRack" "writesLeft" "I", .fieldLink RX0 52 "CellRack" "writesDone" "J", .methodLink RX0 20 yJ7_fill_53178, .static yJ7_fill_53178, .initialized RJ7, .code yJ7_fill_53178 cJ7_fill_53178 4 none] ++ wsX00)
def wsX0_isCount : List Cond := .code yX0_isCount cX0_isCount 1 (some .boolean) :: ([])
def wsX0_turnBytes : List Cond := .code yX0_turnBytes cX0_turnBytes 8 none :: ([.constantLong RX0 175 (255)])
def wsX0_feed : List Cond := .code yX0_feed cX0_feed 4 (some .int) :: ([.classLink RX0 60 "java/lang/IllegalArgumentException", .initialized "java/lang/IllegalArgumentException", .classLink RX0 67 "java/lang/IllegalStateException", .initialized "java/lang/IllegalStateException", .fieldLink RX0 36 "CellRack" "tapeBytes" "I", .fieldLink RX0 33 "CellRack" "tape" "[J", .methodLink RX0 56 yX0_isCount, .static yX0_isCount, .initialized RX0, .code yX0_isCount cX0_isCount 1 (some .boolean), .methodLink RX0 72 yX0_turnBytes, .static yX0_turnBytes, .code yX0_turnBytes cX0_turnBytes 8 none, .constantLong RX0 175 (255)] ++ wsX00 ++ (vx_atS RX0 64 "java/lang/IllegalArgumentException" ["java/lang/RuntimeException", "java/lang/Exception"]).filter goodWord ++ (vx_atS RX0 71 "java/lang/IllegalStateException" ["java/lang/RuntimeException", "java/lang/Exception"]).filter goodWord)
def wsX0_isDisk : List Cond := .code yX0_isDisk cX0_isDisk 1 (some .boolean) :: ([])
def wsX0_isCell : List Cond := .code yX0_isCell cX0_isCell 2 (some .boolean) :: ([.methodLink RX0 157 yX0_isDisk, .static yX0_isDisk, .initialized RX0, .code yX0_isDisk cX0_isDisk 1 (some .boolean)])
def wsX0_spotOf : List Cond := .code yX0_spotOf cX0_spotOf 2 (some .int) :: ([])
def wsX0_isLive : List Cond := .code yX0_isLive cX0_isLive 2 (some .boolean) :: ([.fieldLink RX0 16 "CellRack" "kinds" "[I", .methodLink RX0 92 yX0_spotOf, .static yX0_spotOf, .initialized RX0, .code yX0_spotOf cX0_spotOf 2 (some .int)] ++ wsX00)
def wsX0_drawPower : List Cond := .code yX0_drawPower cX0_drawPower 1 (some .boolean) :: ([.fieldLink RX0 49 "CellRack" "writesLeft" "I", .fieldLink RX0 45 "CellRack" "off" "Z"] ++ wsX00)
def wsX0_byteOf : List Cond := .code yX0_byteOf cX0_byteOf 3 (some .int) :: ([])
def wsX0_checkOf : List Cond := .code yX0_checkOf cX0_checkOf 6 (some .long) :: ([.constantLong RX0 171 (4294967295), .fieldLink RX0 9 "CellRack" "now" "[J", .constantLong RX0 173 (2197175160), .methodLink RX0 122 yX0_byteOf, .static yX0_byteOf, .initialized RX0, .code yX0_byteOf cX0_byteOf 3 (some .int)] ++ wsX00)
def wsX0_setKind : List Cond := .code yX0_setKind cX0_setKind 3 none :: ([.fieldLink RX0 26 "CellRack" "cellsOfKind" "[I", .fieldLink RX0 16 "CellRack" "kinds" "[I"] ++ wsX00)
def wsX0_putTape : List Cond := .code yX0_putTape cX0_putTape 4 none :: ([.fieldLink RX0 33 "CellRack" "tape" "[J", .fieldLink RX0 9 "CellRack" "now" "[J", .methodLink RX0 106 arraycopyName, .native arraycopyName, .static arraycopyName, .initialized "java/lang/System", .fieldLink RX0 13 "CellRack" "latest" "[J", .methodLink RX0 164 yX0_checkOf, .instanceMethod yX0_checkOf, .selects RX0 yX0_checkOf yX0_checkOf, .initialized RX0, .code yX0_checkOf cX0_checkOf 6 (some .long), .constantLong RX0 171 (4294967295), .constantLong RX0 173 (2197175160), .methodLink RX0 122 yX0_byteOf, .static yX0_byteOf, .code yX0_byteOf cX0_byteOf 3 (some .int), .methodLink RX0 145 yX0_setKind, .instanceMethod yX0_setKind, .selects RX0 yX0_setKind yX0_setKind, .code yX0_setKind cX0_setKind 3 none, .fieldLink RX0 26 "CellRack" "cellsOfKind" "[I", .fieldLink RX0 16 "CellRack" "kinds" "[I"] ++ wsX00)
def wsJ7_fill_d0a16 : List Cond := .code yJ7_fill_d0a16 cJ7_fill_d0a16 5 none :: ([])
def wsX0_clearTape : List Cond := .code yX0_clearTape cX0_clearTape 1 none :: ([.fieldLink RX0 33 "CellRack" "tape" "[J", .fieldLink RX0 36 "CellRack" "tapeBytes" "I", .methodLink RX0 168 yJ7_fill_d0a16, .static yJ7_fill_d0a16, .initialized RJ7, .code yJ7_fill_d0a16 cJ7_fill_d0a16 5 none] ++ wsX00)
def wsX0_write_r1 : List Cond := [Cond.classLink RX0 60 "java/lang/IllegalArgumentException", Cond.initialized "java/lang/IllegalArgumentException", Cond.classLink RX0 67 "java/lang/IllegalStateException", Cond.initialized "java/lang/IllegalStateException", Cond.constant RX0 80 (65535), Cond.fieldLink RX0 52 "CellRack" "writesDone" "J", Cond.methodLink RX0 76 yX0_isCell, Cond.static yX0_isCell, Cond.initialized RX0, Cond.code yX0_isCell cX0_isCell 2 (some .boolean), Cond.methodLink RX0 157 yX0_isDisk, Cond.static yX0_isDisk, Cond.code yX0_isDisk cX0_isDisk 1 (some .boolean), Cond.methodLink RX0 83 yX0_isLive, Cond.instanceMethod yX0_isLive, Cond.selects RX0 yX0_isLive yX0_isLive, Cond.code yX0_isLive cX0_isLive 2 (some .boolean), Cond.fieldLink RX0 16 "CellRack" "kinds" "[I", Cond.methodLink RX0 92 yX0_spotOf, Cond.static yX0_spotOf, Cond.code yX0_spotOf cX0_spotOf 2 (some .int), Cond.methodLink RX0 88 yX0_drawPower, Cond.instanceMethod yX0_drawPower, Cond.selects RX0 yX0_drawPower yX0_drawPower]
def wsX0_write_r2 : List Cond := [Cond.code yX0_drawPower cX0_drawPower 1 (some .boolean), Cond.fieldLink RX0 49 "CellRack" "writesLeft" "I", Cond.fieldLink RX0 45 "CellRack" "off" "Z", Cond.methodLink RX0 96 yX0_putTape, Cond.instanceMethod yX0_putTape, Cond.selects RX0 yX0_putTape yX0_putTape, Cond.code yX0_putTape cX0_putTape 4 none, Cond.fieldLink RX0 33 "CellRack" "tape" "[J", Cond.fieldLink RX0 9 "CellRack" "now" "[J", Cond.methodLink RX0 106 arraycopyName, Cond.native arraycopyName, Cond.static arraycopyName, Cond.initialized "java/lang/System", Cond.fieldLink RX0 13 "CellRack" "latest" "[J", Cond.methodLink RX0 164 yX0_checkOf, Cond.instanceMethod yX0_checkOf, Cond.selects RX0 yX0_checkOf yX0_checkOf, Cond.code yX0_checkOf cX0_checkOf 6 (some .long), Cond.constantLong RX0 171 (4294967295), Cond.constantLong RX0 173 (2197175160), Cond.methodLink RX0 122 yX0_byteOf, Cond.static yX0_byteOf, Cond.code yX0_byteOf cX0_byteOf 3 (some .int), Cond.methodLink RX0 145 yX0_setKind]
def wsX0_write_r3 : List Cond := [Cond.instanceMethod yX0_setKind, Cond.selects RX0 yX0_setKind yX0_setKind, Cond.code yX0_setKind cX0_setKind 3 none, Cond.fieldLink RX0 26 "CellRack" "cellsOfKind" "[I", Cond.methodLink RX0 100 yX0_clearTape, Cond.instanceMethod yX0_clearTape, Cond.selects RX0 yX0_clearTape yX0_clearTape, Cond.code yX0_clearTape cX0_clearTape 1 none, Cond.fieldLink RX0 36 "CellRack" "tapeBytes" "I", Cond.methodLink RX0 168 yJ7_fill_d0a16, Cond.static yJ7_fill_d0a16, Cond.initialized RJ7, Cond.code yJ7_fill_d0a16 cJ7_fill_d0a16 5 none]
def wsX0_write : List Cond := .code yX0_write cX0_write 5 (some .boolean) :: ((wsX0_write_r1 ++ (wsX0_write_r2 ++ wsX0_write_r3)) ++ wsX00 ++ (vx_atS RX0 64 "java/lang/IllegalArgumentException" ["java/lang/RuntimeException", "java/lang/Exception"]).filter goodWord ++ (vx_atS RX0 71 "java/lang/IllegalStateException" ["java/lang/RuntimeException", "java/lang/Exception"]).filter goodWord)
def wsX0_needCell : List Cond := .code yX0_needCell cX0_needCell 2 none :: ([.classLink RX0 60 "java/lang/IllegalArgumentException", .initialized "java/lang/IllegalArgumentException", .methodLink RX0 76 yX0_isCell, .static yX0_isCell, .initialized RX0, .code yX0_isCell cX0_isCell 2 (some .boolean), .methodLink RX0 157 yX0_isDisk, .static yX0_isDisk, .code yX0_isDisk cX0_isDisk 1 (some .boolean)] ++ (vx_atS RX0 64 "java/lang/IllegalArgumentException" ["java/lang/RuntimeException", "java/lang/Exception"]).filter goodWord)
def wsX0_read : List Cond := .code yX0_read cX0_read 5 (some .boolean) :: ([.fieldLink RX0 16 "CellRack" "kinds" "[I", .fieldLink RX0 9 "CellRack" "now" "[J", .fieldLink RX0 39 "CellRack" "out" "[J", .methodLink RX0 106 arraycopyName, .native arraycopyName, .static arraycopyName, .initialized "java/lang/System", .fieldLink RX0 42 "CellRack" "outBytes" "I", .methodLink RX0 103 yX0_needCell, .static yX0_needCell, .initialized RX0, .code yX0_needCell cX0_needCell 2 none, .classLink RX0 60 "java/lang/IllegalArgumentException", .initialized "java/lang/IllegalArgumentException", .methodLink RX0 76 yX0_isCell, .static yX0_isCell, .code yX0_isCell cX0_isCell 2 (some .boolean), .methodLink RX0 157 yX0_isDisk, .static yX0_isDisk, .code yX0_isDisk cX0_isDisk 1 (some .boolean), .methodLink RX0 92 yX0_spotOf, .static yX0_spotOf, .code yX0_spotOf cX0_spotOf 2 (some .int)] ++ wsX00 ++ (vx_atS RX0 64 "java/lang/IllegalArgumentException" ["java/lang/RuntimeException", "java/lang/Exception"]).filter goodWord)
def wsX0_outs : List Cond := .code yX0_outs cX0_outs 6 (some .long) :: ([.classLink RX0 112 "java/util/NoSuchElementException", .initialized "java/util/NoSuchElementException", .fieldLink RX0 42 "CellRack" "outBytes" "I", .methodLink RX0 117 Lib.Math.min.name, .static Lib.Math.min.name, .initialized "java/lang/Math", .code Lib.Math.min.name Lib.Math.min.code 2 (some .int), .fieldLink RX0 39 "CellRack" "out" "[J", .methodLink RX0 122 yX0_byteOf, .static yX0_byteOf, .initialized RX0, .code yX0_byteOf cX0_byteOf 3 (some .int)] ++ wsX00 ++ (zr_atS RX0 116 "java/util/NoSuchElementException" ["java/lang/RuntimeException", "java/lang/Exception"]).filter goodWord)
def wsX0_tag : List Cond := .code yX0_tag cX0_tag 4 (some .int) :: ([.fieldLink RX0 16 "CellRack" "kinds" "[I", .fieldLink RX0 9 "CellRack" "now" "[J", .constantLong RX0 126 (65535), .methodLink RX0 103 yX0_needCell, .static yX0_needCell, .initialized RX0, .code yX0_needCell cX0_needCell 2 none, .classLink RX0 60 "java/lang/IllegalArgumentException", .initialized "java/lang/IllegalArgumentException", .methodLink RX0 76 yX0_isCell, .static yX0_isCell, .code yX0_isCell cX0_isCell 2 (some .boolean), .methodLink RX0 157 yX0_isDisk, .static yX0_isDisk, .code yX0_isDisk cX0_isDisk 1 (some .boolean), .methodLink RX0 92 yX0_spotOf, .static yX0_spotOf, .code yX0_spotOf cX0_spotOf 2 (some .int)] ++ wsX00 ++ (vx_atS RX0 64 "java/lang/IllegalArgumentException" ["java/lang/RuntimeException", "java/lang/Exception"]).filter goodWord)
def wsX0_cell : List Cond := .code yX0_cell cX0_cell 3 (some .int) :: ([.fieldLink RX0 16 "CellRack" "kinds" "[I", .methodLink RX0 103 yX0_needCell, .static yX0_needCell, .initialized RX0, .code yX0_needCell cX0_needCell 2 none, .classLink RX0 60 "java/lang/IllegalArgumentException", .initialized "java/lang/IllegalArgumentException", .methodLink RX0 76 yX0_isCell, .static yX0_isCell, .code yX0_isCell cX0_isCell 2 (some .boolean), .methodLink RX0 157 yX0_isDisk, .static yX0_isDisk, .code yX0_isDisk cX0_isDisk 1 (some .boolean), .methodLink RX0 92 yX0_spotOf, .static yX0_spotOf, .code yX0_spotOf cX0_spotOf 2 (some .int)] ++ wsX00 ++ (vx_atS RX0 64 "java/lang/IllegalArgumentException" ["java/lang/RuntimeException", "java/lang/Exception"]).filter goodWord)
def wsX0_hasBytes : List Cond := .code yX0_hasBytes cX0_hasBytes 2 (some .boolean) :: ([.fieldLink RX0 16 "CellRack" "kinds" "[I"] ++ wsX00)
def wsX0_at_r1 : List Cond := [Cond.classLink RX0 112 "java/util/NoSuchElementException", Cond.initialized "java/util/NoSuchElementException", Cond.fieldLink RX0 9 "CellRack" "now" "[J", Cond.methodLink RX0 103 yX0_needCell, Cond.static yX0_needCell, Cond.initialized RX0, Cond.code yX0_needCell cX0_needCell 2 none, Cond.classLink RX0 60 "java/lang/IllegalArgumentException", Cond.initialized "java/lang/IllegalArgumentException", Cond.methodLink RX0 76 yX0_isCell, Cond.static yX0_isCell, Cond.code yX0_isCell cX0_isCell 2 (some .boolean), Cond.methodLink RX0 157 yX0_isDisk, Cond.static yX0_isDisk, Cond.code yX0_isDisk cX0_isDisk 1 (some .boolean), Cond.methodLink RX0 92 yX0_spotOf, Cond.static yX0_spotOf, Cond.code yX0_spotOf cX0_spotOf 2 (some .int), Cond.methodLink RX0 128 yX0_hasBytes, Cond.instanceMethod yX0_hasBytes, Cond.selects RX0 yX0_hasBytes yX0_hasBytes, Cond.code yX0_hasBytes cX0_hasBytes 2 (some .boolean), Cond.fieldLink RX0 16 "CellRack" "kinds" "[I", Cond.methodLink RX0 122 yX0_byteOf]
def wsX0_at_r2 : List Cond := [Cond.static yX0_byteOf, Cond.code yX0_byteOf cX0_byteOf 3 (some .int)]
def wsX0_at : List Cond := .code yX0_at cX0_at 5 (some .int) :: ((wsX0_at_r1 ++ wsX0_at_r2) ++ wsX00 ++ (zr_atS RX0 116 "java/util/NoSuchElementException" ["java/lang/RuntimeException", "java/lang/Exception"]).filter goodWord ++ (vx_atS RX0 64 "java/lang/IllegalArgumentException" ["java/lang/RuntimeException", "java/lang/Exception"]).filter goodWord)
def wsX0_needDisk : List Cond := .code yX0_needDisk cX0_needDisk 1 none :: ([.classLink RX0 60 "java/lang/IllegalArgumentException", .initialized "java/lang/IllegalArgumentException", .methodLink RX0 157 yX0_isDisk, .static yX0_isDisk, .initialized RX0, .code yX0_isDisk cX0_isDisk 1 (some .boolean)] ++ (vx_atS RX0 64 "java/lang/IllegalArgumentException" ["java/lang/RuntimeException", "java/lang/Exception"]).filter goodWord)
def wsX0_setKindOfAll : List Cond := .code yX0_setKindOfAll cX0_setKindOfAll 4 none :: ([.methodLink RX0 92 yX0_spotOf, .static yX0_spotOf, .initialized RX0, .code yX0_spotOf cX0_spotOf 2 (some .int), .methodLink RX0 145 yX0_setKind, .instanceMethod yX0_setKind, .selects RX0 yX0_setKind yX0_setKind, .code yX0_setKind cX0_setKind 3 none, .fieldLink RX0 26 "CellRack" "cellsOfKind" "[I", .fieldLink RX0 16 "CellRack" "kinds" "[I"] ++ wsX00)
def wsX0_fail_r1 : List Cond := [Cond.fieldLink RX0 29 "CellRack" "liveDisks" "I", Cond.methodLink RX0 133 yX0_needDisk, Cond.static yX0_needDisk, Cond.initialized RX0, Cond.code yX0_needDisk cX0_needDisk 1 none, Cond.classLink RX0 60 "java/lang/IllegalArgumentException", Cond.initialized "java/lang/IllegalArgumentException", Cond.methodLink RX0 157 yX0_isDisk, Cond.static yX0_isDisk, Cond.code yX0_isDisk cX0_isDisk 1 (some .boolean), Cond.methodLink RX0 83 yX0_isLive, Cond.instanceMethod yX0_isLive, Cond.selects RX0 yX0_isLive yX0_isLive, Cond.code yX0_isLive cX0_isLive 2 (some .boolean), Cond.fieldLink RX0 16 "CellRack" "kinds" "[I", Cond.methodLink RX0 92 yX0_spotOf, Cond.static yX0_spotOf, Cond.code yX0_spotOf cX0_spotOf 2 (some .int), Cond.methodLink RX0 137 yX0_setKindOfAll, Cond.instanceMethod yX0_setKindOfAll, Cond.selects RX0 yX0_setKindOfAll yX0_setKindOfAll, Cond.code yX0_setKindOfAll cX0_setKindOfAll 4 none, Cond.methodLink RX0 145 yX0_setKind, Cond.instanceMethod yX0_setKind]
def wsX0_fail_r2 : List Cond := [Cond.selects RX0 yX0_setKind yX0_setKind, Cond.code yX0_setKind cX0_setKind 3 none, Cond.fieldLink RX0 26 "CellRack" "cellsOfKind" "[I"]
def wsX0_fail : List Cond := .code yX0_fail cX0_fail 2 (some .boolean) :: ((wsX0_fail_r1 ++ wsX0_fail_r2) ++ wsX00 ++ (vx_atS RX0 64 "java/lang/IllegalArgumentException" ["java/lang/RuntimeException", "java/lang/Exception"]).filter goodWord)
def wsX0_replace_r1 : List Cond := [Cond.fieldLink RX0 29 "CellRack" "liveDisks" "I", Cond.methodLink RX0 133 yX0_needDisk, Cond.static yX0_needDisk, Cond.initialized RX0, Cond.code yX0_needDisk cX0_needDisk 1 none, Cond.classLink RX0 60 "java/lang/IllegalArgumentException", Cond.initialized "java/lang/IllegalArgumentException", Cond.methodLink RX0 157 yX0_isDisk, Cond.static yX0_isDisk, Cond.code yX0_isDisk cX0_isDisk 1 (some .boolean), Cond.methodLink RX0 83 yX0_isLive, Cond.instanceMethod yX0_isLive, Cond.selects RX0 yX0_isLive yX0_isLive, Cond.code yX0_isLive cX0_isLive 2 (some .boolean), Cond.fieldLink RX0 16 "CellRack" "kinds" "[I", Cond.methodLink RX0 92 yX0_spotOf, Cond.static yX0_spotOf, Cond.code yX0_spotOf cX0_spotOf 2 (some .int), Cond.methodLink RX0 137 yX0_setKindOfAll, Cond.instanceMethod yX0_setKindOfAll, Cond.selects RX0 yX0_setKindOfAll yX0_setKindOfAll, Cond.code yX0_setKindOfAll cX0_setKindOfAll 4 none, Cond.methodLink RX0 145 yX0_setKind, Cond.instanceMethod yX0_setKind]
def wsX0_replace_r2 : List Cond := [Cond.selects RX0 yX0_setKind yX0_setKind, Cond.code yX0_setKind cX0_setKind 3 none, Cond.fieldLink RX0 26 "CellRack" "cellsOfKind" "[I"]
def wsX0_replace : List Cond := .code yX0_replace cX0_replace 2 (some .boolean) :: ((wsX0_replace_r1 ++ wsX0_replace_r2) ++ wsX00 ++ (vx_atS RX0 64 "java/lang/IllegalArgumentException" ["java/lang/RuntimeException", "java/lang/Exception"]).filter goodWord)
def wsX0_isAsWritten : List Cond := .code yX0_isAsWritten cX0_isAsWritten 3 (some .boolean) :: ([.fieldLink RX0 9 "CellRack" "now" "[J", .fieldLink RX0 13 "CellRack" "latest" "[J"] ++ wsX00)
def wsX0_hasItsCheck : List Cond := .code yX0_hasItsCheck cX0_hasItsCheck 2 (some .boolean) :: ([.fieldLink RX0 9 "CellRack" "now" "[J", .methodLink RX0 164 yX0_checkOf, .instanceMethod yX0_checkOf, .selects RX0 yX0_checkOf yX0_checkOf, .initialized RX0, .code yX0_checkOf cX0_checkOf 6 (some .long), .constantLong RX0 171 (4294967295), .constantLong RX0 173 (2197175160), .methodLink RX0 122 yX0_byteOf, .static yX0_byteOf, .code yX0_byteOf cX0_byteOf 3 (some .int)] ++ wsX00)
def wsX0_corrupt_r1 : List Cond := [Cond.classLink RX0 60 "java/lang/IllegalArgumentException", Cond.initialized "java/lang/IllegalArgumentException", Cond.fieldLink RX0 9 "CellRack" "now" "[J", Cond.methodLink RX0 76 yX0_isCell, Cond.static yX0_isCell, Cond.initialized RX0, Cond.code yX0_isCell cX0_isCell 2 (some .boolean), Cond.methodLink RX0 157 yX0_isDisk, Cond.static yX0_isDisk, Cond.code yX0_isDisk cX0_isDisk 1 (some .boolean), Cond.methodLink RX0 56 yX0_isCount, Cond.static yX0_isCount, Cond.code yX0_isCount cX0_isCount 1 (some .boolean), Cond.methodLink RX0 92 yX0_spotOf, Cond.static yX0_spotOf, Cond.code yX0_spotOf cX0_spotOf 2 (some .int), Cond.methodLink RX0 128 yX0_hasBytes, Cond.instanceMethod yX0_hasBytes, Cond.selects RX0 yX0_hasBytes yX0_hasBytes, Cond.code yX0_hasBytes cX0_hasBytes 2 (some .boolean), Cond.fieldLink RX0 16 "CellRack" "kinds" "[I", Cond.methodLink RX0 72 yX0_turnBytes, Cond.static yX0_turnBytes, Cond.code yX0_turnBytes cX0_turnBytes 8 none]
def wsX0_corrupt_r2 : List Cond := [Cond.constantLong RX0 175 (255), Cond.methodLink RX0 142 yX0_isAsWritten, Cond.instanceMethod yX0_isAsWritten, Cond.selects RX0 yX0_isAsWritten yX0_isAsWritten, Cond.code yX0_isAsWritten cX0_isAsWritten 3 (some .boolean), Cond.fieldLink RX0 13 "CellRack" "latest" "[J", Cond.methodLink RX0 145 yX0_setKind, Cond.instanceMethod yX0_setKind, Cond.selects RX0 yX0_setKind yX0_setKind, Cond.code yX0_setKind cX0_setKind 3 none, Cond.fieldLink RX0 26 "CellRack" "cellsOfKind" "[I", Cond.methodLink RX0 148 yX0_hasItsCheck, Cond.instanceMethod yX0_hasItsCheck, Cond.selects RX0 yX0_hasItsCheck yX0_hasItsCheck, Cond.code yX0_hasItsCheck cX0_hasItsCheck 2 (some .boolean), Cond.methodLink RX0 164 yX0_checkOf, Cond.instanceMethod yX0_checkOf, Cond.selects RX0 yX0_checkOf yX0_checkOf, Cond.code yX0_checkOf cX0_checkOf 6 (some .long), Cond.constantLong RX0 171 (4294967295), Cond.constantLong RX0 173 (2197175160), Cond.methodLink RX0 122 yX0_byteOf, Cond.static yX0_byteOf, Cond.code yX0_byteOf cX0_byteOf 3 (some .int)]
def wsX0_corrupt : List Cond := .code yX0_corrupt cX0_corrupt 9 (some .boolean) :: ((wsX0_corrupt_r1 ++ wsX0_corrupt_r2) ++ wsX00 ++ (vx_atS RX0 64 "java/lang/IllegalArgumentException" ["java/lang/RuntimeException", "java/lang/Exception"]).filter goodWord)
def wsX0_lose : List Cond := .code yX0_lose cX0_lose 2 none :: ([.classLink RX0 60 "java/lang/IllegalArgumentException", .initialized "java/lang/IllegalArgumentException", .classLink RX0 67 "java/lang/IllegalStateException", .initialized "java/lang/IllegalStateException", .fieldLink RX0 45 "CellRack" "off" "Z", .fieldLink RX0 49 "CellRack" "writesLeft" "I"] ++ wsX00 ++ (vx_atS RX0 64 "java/lang/IllegalArgumentException" ["java/lang/RuntimeException", "java/lang/Exception"]).filter goodWord ++ (vx_atS RX0 71 "java/lang/IllegalStateException" ["java/lang/RuntimeException", "java/lang/Exception"]).filter goodWord)
def wsX0_power : List Cond := .code yX0_power cX0_power 2 (some .boolean) :: ([.fieldLink RX0 45 "CellRack" "off" "Z", .fieldLink RX0 49 "CellRack" "writesLeft" "I"] ++ wsX00)
def wsX0_look : List Cond := .code yX0_look cX0_look 2 (some .long) :: ([.classLink RX0 112 "java/util/NoSuchElementException", .initialized "java/util/NoSuchElementException", .fieldLink RX0 52 "CellRack" "writesDone" "J", .fieldLink RX0 45 "CellRack" "off" "Z", .fieldLink RX0 49 "CellRack" "writesLeft" "I", .fieldLink RX0 29 "CellRack" "liveDisks" "I", .fieldLink RX0 26 "CellRack" "cellsOfKind" "[I"] ++ wsX00 ++ (zr_atS RX0 116 "java/util/NoSuchElementException" ["java/lang/RuntimeException", "java/lang/Exception"]).filter goodWord)
def wsX1_init : List Cond := .code yX1_init cX1_init 2 none :: ([.methodLink RX1 1 objectInit, .instanceMethod objectInit, .code objectInit ⟨#[0xb1]⟩ 1 none, .arrayClass .int, .fieldLink RX1 7 "CellRackModel" "tape" "[I", .fieldLink RX1 13 "CellRackModel" "out" "[I", .arrayClass .boolean, .fieldLink RX1 16 "CellRackModel" "live" "[Z", .fieldLink RX1 20 "CellRackModel" "written" "[Z", .constant RX1 23 (73920), .arrayClass .byte, .fieldLink RX1 24 "CellRackModel" "bytes" "[B", .fieldLink RX1 28 "CellRackModel" "damage" "[B", .constantLong RX1 31 (-1), .fieldLink RX1 33 "CellRackModel" "left" "J", .fieldLink RX1 37 "CellRackModel" "bits" "[Z"] ++ wsX10)
def wsX1_thrown : List Cond := .code yX1_thrown cX1_thrown 1 (some .int) :: ([.fieldLink RX1 40 "CellRackModel" "thrown" "I"] ++ wsX10)
def wsX1_fails : List Cond := .code yX1_fails cX1_fails 3 (some .boolean) :: ([.fieldLink RX1 40 "CellRackModel" "thrown" "I"] ++ wsX10)
def wsX1_within : List Cond := .code yX1_within cX1_within 3 (some .boolean) :: ([])
def wsX1_none : List Cond := .code yX1_none cX1_none 2 (some .boolean) :: ([.methodLink RX1 44 yX1_within, .static yX1_within, .initialized RX1, .code yX1_within cX1_within 3 (some .boolean)])
def wsX1_spot : List Cond := .code yX1_spot cX1_spot 2 (some .int) :: ([])
def wsX1_divide : List Cond := .code yX1_divide cX1_divide 4 none :: ([.fieldLink RX1 37 "CellRackModel" "bits" "[Z", .constantLong RX1 48 (4394350321)] ++ wsX10)
def wsX1_spread : List Cond := .code yX1_spread cX1_spread 5 none :: ([.fieldLink RX1 37 "CellRackModel" "bits" "[Z"] ++ wsX10)
def wsX1_check : List Cond := .code yX1_check cX1_check 5 none :: ([.fieldLink RX1 24 "CellRackModel" "bytes" "[B", .fieldLink RX1 37 "CellRackModel" "bits" "[Z", .methodLink RX1 50 yX1_spread, .instanceMethod yX1_spread, .selects RX1 yX1_spread yX1_spread, .initialized RX1, .code yX1_spread cX1_spread 5 none, .methodLink RX1 54 yX1_divide, .instanceMethod yX1_divide, .selects RX1 yX1_divide yX1_divide, .code yX1_divide cX1_divide 4 none, .constantLong RX1 48 (4394350321)] ++ wsX10)
def wsX1_isDamaged : List Cond := .code yX1_isDamaged cX1_isDamaged 4 (some .boolean) :: ([.fieldLink RX1 28 "CellRackModel" "damage" "[B"] ++ wsX10)
def wsX1_isUnseen : List Cond := .code yX1_isUnseen cX1_isUnseen 4 (some .boolean) :: ([.fieldLink RX1 28 "CellRackModel" "damage" "[B", .fieldLink RX1 37 "CellRackModel" "bits" "[Z", .methodLink RX1 50 yX1_spread, .instanceMethod yX1_spread, .selects RX1 yX1_spread yX1_spread, .initialized RX1, .code yX1_spread cX1_spread 5 none, .methodLink RX1 54 yX1_divide, .instanceMethod yX1_divide, .selects RX1 yX1_divide yX1_divide, .code yX1_divide cX1_divide 4 none, .constantLong RX1 48 (4394350321)] ++ wsX10)
def wsX1_stateOf : List Cond := .code yX1_stateOf cX1_stateOf 3 (some .int) :: ([.fieldLink RX1 16 "CellRackModel" "live" "[Z", .fieldLink RX1 20 "CellRackModel" "written" "[Z", .methodLink RX1 58 yX1_spot, .static yX1_spot, .initialized RX1, .code yX1_spot cX1_spot 2 (some .int), .methodLink RX1 62 yX1_isDamaged, .instanceMethod yX1_isDamaged, .selects RX1 yX1_isDamaged yX1_isDamaged, .code yX1_isDamaged cX1_isDamaged 4 (some .boolean), .fieldLink RX1 28 "CellRackModel" "damage" "[B"] ++ wsX10)
def wsX1_feed : List Cond := .code yX1_feed cX1_feed 5 (some .int) :: ([.fieldLink RX1 70 "CellRackModel" "taped" "I", .fieldLink RX1 7 "CellRackModel" "tape" "[I", .constantLong RX1 73 (255), .methodLink RX1 44 yX1_within, .static yX1_within, .initialized RX1, .code yX1_within cX1_within 3 (some .boolean), .methodLink RX1 66 yX1_fails, .instanceMethod yX1_fails, .selects RX1 yX1_fails yX1_fails, .code yX1_fails cX1_fails 3 (some .boolean), .fieldLink RX1 40 "CellRackModel" "thrown" "I"] ++ wsX10)
def wsX1_write_r1 : List Cond := [Cond.constant RX1 79 (65535), Cond.fieldLink RX1 16 "CellRackModel" "live" "[Z", Cond.fieldLink RX1 70 "CellRackModel" "taped" "I", Cond.fieldLink RX1 80 "CellRackModel" "off" "Z", Cond.fieldLink RX1 33 "CellRackModel" "left" "J", Cond.fieldLink RX1 84 "CellRackModel" "done" "J", Cond.fieldLink RX1 20 "CellRackModel" "written" "[Z", Cond.fieldLink RX1 28 "CellRackModel" "damage" "[B", Cond.fieldLink RX1 24 "CellRackModel" "bytes" "[B", Cond.fieldLink RX1 7 "CellRackModel" "tape" "[I", Cond.methodLink RX1 75 yX1_none, Cond.static yX1_none, Cond.initialized RX1, Cond.code yX1_none cX1_none 2 (some .boolean), Cond.methodLink RX1 44 yX1_within, Cond.static yX1_within, Cond.code yX1_within cX1_within 3 (some .boolean), Cond.methodLink RX1 66 yX1_fails, Cond.instanceMethod yX1_fails, Cond.selects RX1 yX1_fails yX1_fails, Cond.code yX1_fails cX1_fails 3 (some .boolean), Cond.fieldLink RX1 40 "CellRackModel" "thrown" "I", Cond.methodLink RX1 58 yX1_spot, Cond.static yX1_spot]
def wsX1_write_r2 : List Cond := [Cond.code yX1_spot cX1_spot 2 (some .int), Cond.methodLink RX1 87 yX1_check, Cond.instanceMethod yX1_check, Cond.selects RX1 yX1_check yX1_check, Cond.code yX1_check cX1_check 5 none, Cond.fieldLink RX1 37 "CellRackModel" "bits" "[Z", Cond.methodLink RX1 50 yX1_spread, Cond.instanceMethod yX1_spread, Cond.selects RX1 yX1_spread yX1_spread, Cond.code yX1_spread cX1_spread 5 none, Cond.methodLink RX1 54 yX1_divide, Cond.instanceMethod yX1_divide, Cond.selects RX1 yX1_divide yX1_divide, Cond.code yX1_divide cX1_divide 4 none, Cond.constantLong RX1 48 (4394350321)]
def wsX1_write : List Cond := .code yX1_write cX1_write 7 (some .boolean) :: ((wsX1_write_r1 ++ wsX1_write_r2) ++ wsX10)
def wsX1_byteAt : List Cond := .code yX1_byteAt cX1_byteAt 3 (some .int) :: ([.fieldLink RX1 24 "CellRackModel" "bytes" "[B", .fieldLink RX1 28 "CellRackModel" "damage" "[B"] ++ wsX10)
def wsX1_read_r1 : List Cond := [Cond.fieldLink RX1 90 "CellRackModel" "outs" "I", Cond.fieldLink RX1 13 "CellRackModel" "out" "[I", Cond.methodLink RX1 75 yX1_none, Cond.static yX1_none, Cond.initialized RX1, Cond.code yX1_none cX1_none 2 (some .boolean), Cond.methodLink RX1 44 yX1_within, Cond.static yX1_within, Cond.code yX1_within cX1_within 3 (some .boolean), Cond.methodLink RX1 66 yX1_fails, Cond.instanceMethod yX1_fails, Cond.selects RX1 yX1_fails yX1_fails, Cond.code yX1_fails cX1_fails 3 (some .boolean), Cond.fieldLink RX1 40 "CellRackModel" "thrown" "I", Cond.methodLink RX1 93 yX1_stateOf, Cond.instanceMethod yX1_stateOf, Cond.selects RX1 yX1_stateOf yX1_stateOf, Cond.code yX1_stateOf cX1_stateOf 3 (some .int), Cond.fieldLink RX1 16 "CellRackModel" "live" "[Z", Cond.fieldLink RX1 20 "CellRackModel" "written" "[Z", Cond.methodLink RX1 58 yX1_spot, Cond.static yX1_spot, Cond.code yX1_spot cX1_spot 2 (some .int), Cond.methodLink RX1 62 yX1_isDamaged]
def wsX1_read_r2 : List Cond := [Cond.instanceMethod yX1_isDamaged, Cond.selects RX1 yX1_isDamaged yX1_isDamaged, Cond.code yX1_isDamaged cX1_isDamaged 4 (some .boolean), Cond.fieldLink RX1 28 "CellRackModel" "damage" "[B", Cond.methodLink RX1 96 yX1_byteAt, Cond.instanceMethod yX1_byteAt, Cond.selects RX1 yX1_byteAt yX1_byteAt, Cond.code yX1_byteAt cX1_byteAt 3 (some .int), Cond.fieldLink RX1 24 "CellRackModel" "bytes" "[B"]
def wsX1_read : List Cond := .code yX1_read cX1_read 4 (some .boolean) :: ((wsX1_read_r1 ++ wsX1_read_r2) ++ wsX10)
def wsX1_outs : List Cond := .code yX1_outs cX1_outs 5 (some .long) :: ([.fieldLink RX1 90 "CellRackModel" "outs" "I", .fieldLink RX1 13 "CellRackModel" "out" "[I", .methodLink RX1 66 yX1_fails, .instanceMethod yX1_fails, .selects RX1 yX1_fails yX1_fails, .initialized RX1, .code yX1_fails cX1_fails 3 (some .boolean), .fieldLink RX1 40 "CellRackModel" "thrown" "I"] ++ wsX10)
def wsX1_tag_r1 : List Cond := [Cond.methodLink RX1 75 yX1_none, Cond.static yX1_none, Cond.initialized RX1, Cond.code yX1_none cX1_none 2 (some .boolean), Cond.methodLink RX1 44 yX1_within, Cond.static yX1_within, Cond.code yX1_within cX1_within 3 (some .boolean), Cond.methodLink RX1 66 yX1_fails, Cond.instanceMethod yX1_fails, Cond.selects RX1 yX1_fails yX1_fails, Cond.code yX1_fails cX1_fails 3 (some .boolean), Cond.fieldLink RX1 40 "CellRackModel" "thrown" "I", Cond.methodLink RX1 58 yX1_spot, Cond.static yX1_spot, Cond.code yX1_spot cX1_spot 2 (some .int), Cond.methodLink RX1 93 yX1_stateOf, Cond.instanceMethod yX1_stateOf, Cond.selects RX1 yX1_stateOf yX1_stateOf, Cond.code yX1_stateOf cX1_stateOf 3 (some .int), Cond.fieldLink RX1 16 "CellRackModel" "live" "[Z", Cond.fieldLink RX1 20 "CellRackModel" "written" "[Z", Cond.methodLink RX1 62 yX1_isDamaged, Cond.instanceMethod yX1_isDamaged, Cond.selects RX1 yX1_isDamaged yX1_isDamaged]
def wsX1_tag_r2 : List Cond := [Cond.code yX1_isDamaged cX1_isDamaged 4 (some .boolean), Cond.fieldLink RX1 28 "CellRackModel" "damage" "[B", Cond.methodLink RX1 96 yX1_byteAt, Cond.instanceMethod yX1_byteAt, Cond.selects RX1 yX1_byteAt yX1_byteAt, Cond.code yX1_byteAt cX1_byteAt 3 (some .int), Cond.fieldLink RX1 24 "CellRackModel" "bytes" "[B"]
def wsX1_tag : List Cond := .code yX1_tag cX1_tag 4 (some .int) :: ((wsX1_tag_r1 ++ wsX1_tag_r2) ++ wsX10)
def wsX1_cell_r1 : List Cond := [Cond.methodLink RX1 75 yX1_none, Cond.static yX1_none, Cond.initialized RX1, Cond.code yX1_none cX1_none 2 (some .boolean), Cond.methodLink RX1 44 yX1_within, Cond.static yX1_within, Cond.code yX1_within cX1_within 3 (some .boolean), Cond.methodLink RX1 66 yX1_fails, Cond.instanceMethod yX1_fails, Cond.selects RX1 yX1_fails yX1_fails, Cond.code yX1_fails cX1_fails 3 (some .boolean), Cond.fieldLink RX1 40 "CellRackModel" "thrown" "I", Cond.methodLink RX1 93 yX1_stateOf, Cond.instanceMethod yX1_stateOf, Cond.selects RX1 yX1_stateOf yX1_stateOf, Cond.code yX1_stateOf cX1_stateOf 3 (some .int), Cond.fieldLink RX1 16 "CellRackModel" "live" "[Z", Cond.fieldLink RX1 20 "CellRackModel" "written" "[Z", Cond.methodLink RX1 58 yX1_spot, Cond.static yX1_spot, Cond.code yX1_spot cX1_spot 2 (some .int), Cond.methodLink RX1 62 yX1_isDamaged, Cond.instanceMethod yX1_isDamaged, Cond.selects RX1 yX1_isDamaged yX1_isDamaged]
def wsX1_cell_r2 : List Cond := [Cond.code yX1_isDamaged cX1_isDamaged 4 (some .boolean), Cond.fieldLink RX1 28 "CellRackModel" "damage" "[B"]
def wsX1_cell : List Cond := .code yX1_cell cX1_cell 3 (some .int) :: ((wsX1_cell_r1 ++ wsX1_cell_r2) ++ wsX10)
def wsX1_at_r1 : List Cond := [Cond.methodLink RX1 75 yX1_none, Cond.static yX1_none, Cond.initialized RX1, Cond.code yX1_none cX1_none 2 (some .boolean), Cond.methodLink RX1 44 yX1_within, Cond.static yX1_within, Cond.code yX1_within cX1_within 3 (some .boolean), Cond.methodLink RX1 66 yX1_fails, Cond.instanceMethod yX1_fails, Cond.selects RX1 yX1_fails yX1_fails, Cond.code yX1_fails cX1_fails 3 (some .boolean), Cond.fieldLink RX1 40 "CellRackModel" "thrown" "I", Cond.methodLink RX1 93 yX1_stateOf, Cond.instanceMethod yX1_stateOf, Cond.selects RX1 yX1_stateOf yX1_stateOf, Cond.code yX1_stateOf cX1_stateOf 3 (some .int), Cond.fieldLink RX1 16 "CellRackModel" "live" "[Z", Cond.fieldLink RX1 20 "CellRackModel" "written" "[Z", Cond.methodLink RX1 58 yX1_spot, Cond.static yX1_spot, Cond.code yX1_spot cX1_spot 2 (some .int), Cond.methodLink RX1 62 yX1_isDamaged, Cond.instanceMethod yX1_isDamaged, Cond.selects RX1 yX1_isDamaged yX1_isDamaged]
def wsX1_at_r2 : List Cond := [Cond.code yX1_isDamaged cX1_isDamaged 4 (some .boolean), Cond.fieldLink RX1 28 "CellRackModel" "damage" "[B", Cond.methodLink RX1 96 yX1_byteAt, Cond.instanceMethod yX1_byteAt, Cond.selects RX1 yX1_byteAt yX1_byteAt, Cond.code yX1_byteAt cX1_byteAt 3 (some .int), Cond.fieldLink RX1 24 "CellRackModel" "bytes" "[B"]
def wsX1_at : List Cond := .code yX1_at cX1_at 4 (some .int) :: ((wsX1_at_r1 ++ wsX1_at_r2) ++ wsX10)
def wsX1_noDisk : List Cond := .code yX1_noDisk cX1_noDisk 1 (some .boolean) :: ([.methodLink RX1 44 yX1_within, .static yX1_within, .initialized RX1, .code yX1_within cX1_within 3 (some .boolean)])
def wsX1_fail : List Cond := .code yX1_fail cX1_fail 2 (some .boolean) :: ([.fieldLink RX1 16 "CellRackModel" "live" "[Z", .methodLink RX1 99 yX1_noDisk, .static yX1_noDisk, .initialized RX1, .code yX1_noDisk cX1_noDisk 1 (some .boolean), .methodLink RX1 44 yX1_within, .static yX1_within, .code yX1_within cX1_within 3 (some .boolean), .methodLink RX1 66 yX1_fails, .instanceMethod yX1_fails, .selects RX1 yX1_fails yX1_fails, .code yX1_fails cX1_fails 3 (some .boolean), .fieldLink RX1 40 "CellRackModel" "thrown" "I"] ++ wsX10)
def wsX1_replace : List Cond := .code yX1_replace cX1_replace 3 (some .boolean) :: ([.fieldLink RX1 16 "CellRackModel" "live" "[Z", .fieldLink RX1 20 "CellRackModel" "written" "[Z", .methodLink RX1 99 yX1_noDisk, .static yX1_noDisk, .initialized RX1, .code yX1_noDisk cX1_noDisk 1 (some .boolean), .methodLink RX1 44 yX1_within, .static yX1_within, .code yX1_within cX1_within 3 (some .boolean), .methodLink RX1 66 yX1_fails, .instanceMethod yX1_fails, .selects RX1 yX1_fails yX1_fails, .code yX1_fails cX1_fails 3 (some .boolean), .fieldLink RX1 40 "CellRackModel" "thrown" "I", .methodLink RX1 58 yX1_spot, .static yX1_spot, .code yX1_spot cX1_spot 2 (some .int)] ++ wsX10)
def wsX1_strike : List Cond := .code yX1_strike cX1_strike 7 none :: ([.fieldLink RX1 28 "CellRackModel" "damage" "[B"] ++ wsX10)
def wsX1_corrupt_r1 : List Cond := [Cond.methodLink RX1 75 yX1_none, Cond.static yX1_none, Cond.initialized RX1, Cond.code yX1_none cX1_none 2 (some .boolean), Cond.methodLink RX1 44 yX1_within, Cond.static yX1_within, Cond.code yX1_within cX1_within 3 (some .boolean), Cond.methodLink RX1 66 yX1_fails, Cond.instanceMethod yX1_fails, Cond.selects RX1 yX1_fails yX1_fails, Cond.code yX1_fails cX1_fails 3 (some .boolean), Cond.fieldLink RX1 40 "CellRackModel" "thrown" "I", Cond.methodLink RX1 93 yX1_stateOf, Cond.instanceMethod yX1_stateOf, Cond.selects RX1 yX1_stateOf yX1_stateOf, Cond.code yX1_stateOf cX1_stateOf 3 (some .int), Cond.fieldLink RX1 16 "CellRackModel" "live" "[Z", Cond.fieldLink RX1 20 "CellRackModel" "written" "[Z", Cond.methodLink RX1 58 yX1_spot, Cond.static yX1_spot, Cond.code yX1_spot cX1_spot 2 (some .int), Cond.methodLink RX1 62 yX1_isDamaged, Cond.instanceMethod yX1_isDamaged, Cond.selects RX1 yX1_isDamaged yX1_isDamaged]
def wsX1_corrupt_r2 : List Cond := [Cond.code yX1_isDamaged cX1_isDamaged 4 (some .boolean), Cond.fieldLink RX1 28 "CellRackModel" "damage" "[B", Cond.methodLink RX1 102 yX1_strike, Cond.instanceMethod yX1_strike, Cond.selects RX1 yX1_strike yX1_strike, Cond.code yX1_strike cX1_strike 7 none, Cond.methodLink RX1 106 yX1_isUnseen, Cond.instanceMethod yX1_isUnseen, Cond.selects RX1 yX1_isUnseen yX1_isUnseen, Cond.code yX1_isUnseen cX1_isUnseen 4 (some .boolean), Cond.fieldLink RX1 37 "CellRackModel" "bits" "[Z", Cond.methodLink RX1 50 yX1_spread, Cond.instanceMethod yX1_spread, Cond.selects RX1 yX1_spread yX1_spread, Cond.code yX1_spread cX1_spread 5 none, Cond.methodLink RX1 54 yX1_divide, Cond.instanceMethod yX1_divide, Cond.selects RX1 yX1_divide yX1_divide, Cond.code yX1_divide cX1_divide 4 none, Cond.constantLong RX1 48 (4394350321)]
def wsX1_corrupt : List Cond := .code yX1_corrupt cX1_corrupt 8 (some .boolean) :: ((wsX1_corrupt_r1 ++ wsX1_corrupt_r2) ++ wsX10)
def wsX1_lose : List Cond := .code yX1_lose cX1_lose 2 none :: ([.fieldLink RX1 80 "CellRackModel" "off" "Z", .fieldLink RX1 33 "CellRackModel" "left" "J", .methodLink RX1 66 yX1_fails, .instanceMethod yX1_fails, .selects RX1 yX1_fails yX1_fails, .initialized RX1, .code yX1_fails cX1_fails 3 (some .boolean), .fieldLink RX1 40 "CellRackModel" "thrown" "I"] ++ wsX10)
def wsX1_power : List Cond := .code yX1_power cX1_power 2 (some .boolean) :: ([.fieldLink RX1 40 "CellRackModel" "thrown" "I", .fieldLink RX1 80 "CellRackModel" "off" "Z", .constantLong RX1 31 (-1), .fieldLink RX1 33 "CellRackModel" "left" "J"] ++ wsX10)
def wsX1_count : List Cond := .code yX1_count cX1_count 6 (some .long) :: ([.methodLink RX1 93 yX1_stateOf, .instanceMethod yX1_stateOf, .selects RX1 yX1_stateOf yX1_stateOf, .initialized RX1, .code yX1_stateOf cX1_stateOf 3 (some .int), .fieldLink RX1 16 "CellRackModel" "live" "[Z", .fieldLink RX1 20 "CellRackModel" "written" "[Z", .methodLink RX1 58 yX1_spot, .static yX1_spot, .code yX1_spot cX1_spot 2 (some .int), .methodLink RX1 62 yX1_isDamaged, .instanceMethod yX1_isDamaged, .selects RX1 yX1_isDamaged yX1_isDamaged, .code yX1_isDamaged cX1_isDamaged 4 (some .boolean), .fieldLink RX1 28 "CellRackModel" "damage" "[B"] ++ wsX10)
def wsX1_look_r1 : List Cond := [Cond.fieldLink RX1 84 "CellRackModel" "done" "J", Cond.fieldLink RX1 80 "CellRackModel" "off" "Z", Cond.fieldLink RX1 33 "CellRackModel" "left" "J", Cond.fieldLink RX1 16 "CellRackModel" "live" "[Z", Cond.methodLink RX1 44 yX1_within, Cond.static yX1_within, Cond.initialized RX1, Cond.code yX1_within cX1_within 3 (some .boolean), Cond.methodLink RX1 66 yX1_fails, Cond.instanceMethod yX1_fails, Cond.selects RX1 yX1_fails yX1_fails, Cond.code yX1_fails cX1_fails 3 (some .boolean), Cond.fieldLink RX1 40 "CellRackModel" "thrown" "I", Cond.methodLink RX1 109 yX1_count, Cond.instanceMethod yX1_count, Cond.selects RX1 yX1_count yX1_count, Cond.code yX1_count cX1_count 6 (some .long), Cond.methodLink RX1 93 yX1_stateOf, Cond.instanceMethod yX1_stateOf, Cond.selects RX1 yX1_stateOf yX1_stateOf, Cond.code yX1_stateOf cX1_stateOf 3 (some .int), Cond.fieldLink RX1 20 "CellRackModel" "written" "[Z", Cond.methodLink RX1 58 yX1_spot, Cond.static yX1_spot]
def wsX1_look_r2 : List Cond := [Cond.code yX1_spot cX1_spot 2 (some .int), Cond.methodLink RX1 62 yX1_isDamaged, Cond.instanceMethod yX1_isDamaged, Cond.selects RX1 yX1_isDamaged yX1_isDamaged, Cond.code yX1_isDamaged cX1_isDamaged 4 (some .boolean), Cond.fieldLink RX1 28 "CellRackModel" "damage" "[B"]
def wsX1_look : List Cond := .code yX1_look cX1_look 5 (some .long) :: ((wsX1_look_r1 ++ wsX1_look_r2) ++ wsX10)
def wsJ9_min_7cf53 : List Cond := .code yJ9_min_7cf53 cJ9_min_7cf53 2 (some .int) :: ([])
def wsL_feed : List Cond := .codeWith yL_feed cL_feed 6 (some .int) [(0, 11, 14, 13), (0, 11, 18, 15)] :: ([.classLink RL 13 "java/lang/IllegalArgumentException", .classLink RL 15 "java/lang/IllegalStateException", .methodLink RL 7 yX0_feed, .instanceMethod yX0_feed, .selects RX0 yX0_feed yX0_feed, .initialized RX0, .code yX0_feed cX0_feed 4 (some .int), .classLink RX0 60 "java/lang/IllegalArgumentException", .initialized "java/lang/IllegalArgumentException", .classLink RX0 67 "java/lang/IllegalStateException", .initialized "java/lang/IllegalStateException", .fieldLink RX0 36 "CellRack" "tapeBytes" "I", .fieldLink RX0 33 "CellRack" "tape" "[J", .methodLink RX0 56 yX0_isCount, .static yX0_isCount, .code yX0_isCount cX0_isCount 1 (some .boolean), .methodLink RX0 72 yX0_turnBytes, .static yX0_turnBytes, .code yX0_turnBytes cX0_turnBytes 8 none, .constantLong RX0 175 (255)] ++ wsX00 ++ (vx_atS RX0 64 "java/lang/IllegalArgumentException" ["java/lang/RuntimeException", "java/lang/Exception"]).filter goodWord ++ (vx_atS RX0 71 "java/lang/IllegalStateException" ["java/lang/RuntimeException", "java/lang/Exception"]).filter goodWord)
def wsL_write_r1 : List Cond := [Cond.classLink RL 13 "java/lang/IllegalArgumentException", Cond.classLink RL 15 "java/lang/IllegalStateException", Cond.methodLink RL 17 yX0_write, Cond.instanceMethod yX0_write, Cond.selects RX0 yX0_write yX0_write, Cond.initialized RX0, Cond.code yX0_write cX0_write 5 (some .boolean), Cond.classLink RX0 60 "java/lang/IllegalArgumentException", Cond.initialized "java/lang/IllegalArgumentException", Cond.classLink RX0 67 "java/lang/IllegalStateException", Cond.initialized "java/lang/IllegalStateException", Cond.constant RX0 80 (65535), Cond.fieldLink RX0 52 "CellRack" "writesDone" "J", Cond.methodLink RX0 76 yX0_isCell, Cond.static yX0_isCell, Cond.code yX0_isCell cX0_isCell 2 (some .boolean), Cond.methodLink RX0 157 yX0_isDisk, Cond.static yX0_isDisk, Cond.code yX0_isDisk cX0_isDisk 1 (some .boolean), Cond.methodLink RX0 83 yX0_isLive, Cond.instanceMethod yX0_isLive, Cond.selects RX0 yX0_isLive yX0_isLive, Cond.code yX0_isLive cX0_isLive 2 (some .boolean), Cond.fieldLink RX0 16 "CellRack" "kinds" "[I"]
def wsL_write_r2 : List Cond := [Cond.methodLink RX0 92 yX0_spotOf, Cond.static yX0_spotOf, Cond.code yX0_spotOf cX0_spotOf 2 (some .int), Cond.methodLink RX0 88 yX0_drawPower, Cond.instanceMethod yX0_drawPower, Cond.selects RX0 yX0_drawPower yX0_drawPower, Cond.code yX0_drawPower cX0_drawPower 1 (some .boolean), Cond.fieldLink RX0 49 "CellRack" "writesLeft" "I", Cond.fieldLink RX0 45 "CellRack" "off" "Z", Cond.methodLink RX0 96 yX0_putTape, Cond.instanceMethod yX0_putTape, Cond.selects RX0 yX0_putTape yX0_putTape, Cond.code yX0_putTape cX0_putTape 4 none, Cond.fieldLink RX0 33 "CellRack" "tape" "[J", Cond.fieldLink RX0 9 "CellRack" "now" "[J", Cond.methodLink RX0 106 arraycopyName, Cond.native arraycopyName, Cond.static arraycopyName, Cond.initialized "java/lang/System", Cond.fieldLink RX0 13 "CellRack" "latest" "[J", Cond.methodLink RX0 164 yX0_checkOf, Cond.instanceMethod yX0_checkOf, Cond.selects RX0 yX0_checkOf yX0_checkOf, Cond.code yX0_checkOf cX0_checkOf 6 (some .long)]
def wsL_write_r3 : List Cond := [Cond.constantLong RX0 171 (4294967295), Cond.constantLong RX0 173 (2197175160), Cond.methodLink RX0 122 yX0_byteOf, Cond.static yX0_byteOf, Cond.code yX0_byteOf cX0_byteOf 3 (some .int), Cond.methodLink RX0 145 yX0_setKind, Cond.instanceMethod yX0_setKind, Cond.selects RX0 yX0_setKind yX0_setKind, Cond.code yX0_setKind cX0_setKind 3 none, Cond.fieldLink RX0 26 "CellRack" "cellsOfKind" "[I", Cond.methodLink RX0 100 yX0_clearTape, Cond.instanceMethod yX0_clearTape, Cond.selects RX0 yX0_clearTape yX0_clearTape, Cond.code yX0_clearTape cX0_clearTape 1 none, Cond.fieldLink RX0 36 "CellRack" "tapeBytes" "I", Cond.methodLink RX0 168 yJ7_fill_d0a16, Cond.static yJ7_fill_d0a16, Cond.initialized RJ7, Cond.code yJ7_fill_d0a16 cJ7_fill_d0a16 5 none]
def wsL_write : List Cond := .codeWith yL_write cL_write 6 (some .int) [(0, 19, 22, 13), (0, 19, 26, 15)] :: ((wsL_write_r1 ++ (wsL_write_r2 ++ wsL_write_r3)) ++ wsX00 ++ (vx_atS RX0 64 "java/lang/IllegalArgumentException" ["java/lang/RuntimeException", "java/lang/Exception"]).filter goodWord ++ (vx_atS RX0 71 "java/lang/IllegalStateException" ["java/lang/RuntimeException", "java/lang/Exception"]).filter goodWord)
def wsL_read_r1 : List Cond := [Cond.classLink RL 13 "java/lang/IllegalArgumentException", Cond.methodLink RL 21 yX0_read, Cond.instanceMethod yX0_read, Cond.selects RX0 yX0_read yX0_read, Cond.initialized RX0, Cond.code yX0_read cX0_read 5 (some .boolean), Cond.fieldLink RX0 16 "CellRack" "kinds" "[I", Cond.fieldLink RX0 9 "CellRack" "now" "[J", Cond.fieldLink RX0 39 "CellRack" "out" "[J", Cond.methodLink RX0 106 arraycopyName, Cond.native arraycopyName, Cond.static arraycopyName, Cond.initialized "java/lang/System", Cond.fieldLink RX0 42 "CellRack" "outBytes" "I", Cond.methodLink RX0 103 yX0_needCell, Cond.static yX0_needCell, Cond.code yX0_needCell cX0_needCell 2 none, Cond.classLink RX0 60 "java/lang/IllegalArgumentException", Cond.initialized "java/lang/IllegalArgumentException", Cond.methodLink RX0 76 yX0_isCell, Cond.static yX0_isCell, Cond.code yX0_isCell cX0_isCell 2 (some .boolean), Cond.methodLink RX0 157 yX0_isDisk, Cond.static yX0_isDisk]
def wsL_read_r2 : List Cond := [Cond.code yX0_isDisk cX0_isDisk 1 (some .boolean), Cond.methodLink RX0 92 yX0_spotOf, Cond.static yX0_spotOf, Cond.code yX0_spotOf cX0_spotOf 2 (some .int)]
def wsL_read : List Cond := .codeWith yL_read cL_read 5 (some .int) [(0, 17, 20, 13)] :: ((wsL_read_r1 ++ wsL_read_r2) ++ wsX00 ++ (vx_atS RX0 64 "java/lang/IllegalArgumentException" ["java/lang/RuntimeException", "java/lang/Exception"]).filter goodWord)
def wsL_outs : List Cond := .codeWith yL_outs cL_outs 4 (some .int) [(0, 8, 11, 29)] :: ([.classLink RL 29 "java/util/NoSuchElementException", .methodLink RL 25 yX0_outs, .instanceMethod yX0_outs, .selects RX0 yX0_outs yX0_outs, .initialized RX0, .code yX0_outs cX0_outs 6 (some .long), .classLink RX0 112 "java/util/NoSuchElementException", .initialized "java/util/NoSuchElementException", .fieldLink RX0 42 "CellRack" "outBytes" "I", .methodLink RX0 117 Lib.Math.min.name, .static Lib.Math.min.name, .initialized "java/lang/Math", .code Lib.Math.min.name Lib.Math.min.code 2 (some .int), .fieldLink RX0 39 "CellRack" "out" "[J", .methodLink RX0 122 yX0_byteOf, .static yX0_byteOf, .code yX0_byteOf cX0_byteOf 3 (some .int)] ++ wsX00 ++ (zr_atS RX0 116 "java/util/NoSuchElementException" ["java/lang/RuntimeException", "java/lang/Exception"]).filter goodWord)
def wsL_tag : List Cond := .codeWith yL_tag cL_tag 5 (some .int) [(0, 10, 13, 13)] :: ([.classLink RL 13 "java/lang/IllegalArgumentException", .methodLink RL 31 yX0_tag, .instanceMethod yX0_tag, .selects RX0 yX0_tag yX0_tag, .initialized RX0, .code yX0_tag cX0_tag 4 (some .int), .fieldLink RX0 16 "CellRack" "kinds" "[I", .fieldLink RX0 9 "CellRack" "now" "[J", .constantLong RX0 126 (65535), .methodLink RX0 103 yX0_needCell, .static yX0_needCell, .code yX0_needCell cX0_needCell 2 none, .classLink RX0 60 "java/lang/IllegalArgumentException", .initialized "java/lang/IllegalArgumentException", .methodLink RX0 76 yX0_isCell, .static yX0_isCell, .code yX0_isCell cX0_isCell 2 (some .boolean), .methodLink RX0 157 yX0_isDisk, .static yX0_isDisk, .code yX0_isDisk cX0_isDisk 1 (some .boolean), .methodLink RX0 92 yX0_spotOf, .static yX0_spotOf, .code yX0_spotOf cX0_spotOf 2 (some .int)] ++ wsX00 ++ (vx_atS RX0 64 "java/lang/IllegalArgumentException" ["java/lang/RuntimeException", "java/lang/Exception"]).filter goodWord)
def wsL_cell : List Cond := .codeWith yL_cell cL_cell 5 (some .int) [(0, 10, 13, 13)] :: ([.classLink RL 13 "java/lang/IllegalArgumentException", .methodLink RL 35 yX0_cell, .instanceMethod yX0_cell, .selects RX0 yX0_cell yX0_cell, .initialized RX0, .code yX0_cell cX0_cell 3 (some .int), .fieldLink RX0 16 "CellRack" "kinds" "[I", .methodLink RX0 103 yX0_needCell, .static yX0_needCell, .code yX0_needCell cX0_needCell 2 none, .classLink RX0 60 "java/lang/IllegalArgumentException", .initialized "java/lang/IllegalArgumentException", .methodLink RX0 76 yX0_isCell, .static yX0_isCell, .code yX0_isCell cX0_isCell 2 (some .boolean), .methodLink RX0 157 yX0_isDisk, .static yX0_isDisk, .code yX0_isDisk cX0_isDisk 1 (some .boolean), .methodLink RX0 92 yX0_spotOf, .static yX0_spotOf, .code yX0_spotOf cX0_spotOf 2 (some .int)] ++ wsX00 ++ (vx_atS RX0 64 "java/lang/IllegalArgumentException" ["java/lang/RuntimeException", "java/lang/Exception"]).filter goodWord)
def wsL_at_r1 : List Cond := [Cond.classLink RL 13 "java/lang/IllegalArgumentException", Cond.classLink RL 29 "java/util/NoSuchElementException", Cond.methodLink RL 38 yX0_at, Cond.instanceMethod yX0_at, Cond.selects RX0 yX0_at yX0_at, Cond.initialized RX0, Cond.code yX0_at cX0_at 5 (some .int), Cond.classLink RX0 112 "java/util/NoSuchElementException", Cond.initialized "java/util/NoSuchElementException", Cond.fieldLink RX0 9 "CellRack" "now" "[J", Cond.methodLink RX0 103 yX0_needCell, Cond.static yX0_needCell, Cond.code yX0_needCell cX0_needCell 2 none, Cond.classLink RX0 60 "java/lang/IllegalArgumentException", Cond.initialized "java/lang/IllegalArgumentException", Cond.methodLink RX0 76 yX0_isCell, Cond.static yX0_isCell, Cond.code yX0_isCell cX0_isCell 2 (some .boolean), Cond.methodLink RX0 157 yX0_isDisk, Cond.static yX0_isDisk, Cond.code yX0_isDisk cX0_isDisk 1 (some .boolean), Cond.methodLink RX0 92 yX0_spotOf, Cond.static yX0_spotOf, Cond.code yX0_spotOf cX0_spotOf 2 (some .int)]
def wsL_at_r2 : List Cond := [Cond.methodLink RX0 128 yX0_hasBytes, Cond.instanceMethod yX0_hasBytes, Cond.selects RX0 yX0_hasBytes yX0_hasBytes, Cond.code yX0_hasBytes cX0_hasBytes 2 (some .boolean), Cond.fieldLink RX0 16 "CellRack" "kinds" "[I", Cond.methodLink RX0 122 yX0_byteOf, Cond.static yX0_byteOf, Cond.code yX0_byteOf cX0_byteOf 3 (some .int)]
def wsL_at : List Cond := .codeWith yL_at cL_at 6 (some .int) [(0, 12, 15, 13), (0, 12, 19, 29)] :: ((wsL_at_r1 ++ wsL_at_r2) ++ wsX00 ++ (zr_atS RX0 116 "java/util/NoSuchElementException" ["java/lang/RuntimeException", "java/lang/Exception"]).filter goodWord ++ (vx_atS RX0 64 "java/lang/IllegalArgumentException" ["java/lang/RuntimeException", "java/lang/Exception"]).filter goodWord)
def wsL_fail_r1 : List Cond := [Cond.classLink RL 13 "java/lang/IllegalArgumentException", Cond.methodLink RL 42 yX0_fail, Cond.instanceMethod yX0_fail, Cond.selects RX0 yX0_fail yX0_fail, Cond.initialized RX0, Cond.code yX0_fail cX0_fail 2 (some .boolean), Cond.fieldLink RX0 29 "CellRack" "liveDisks" "I", Cond.methodLink RX0 133 yX0_needDisk, Cond.static yX0_needDisk, Cond.code yX0_needDisk cX0_needDisk 1 none, Cond.classLink RX0 60 "java/lang/IllegalArgumentException", Cond.initialized "java/lang/IllegalArgumentException", Cond.methodLink RX0 157 yX0_isDisk, Cond.static yX0_isDisk, Cond.code yX0_isDisk cX0_isDisk 1 (some .boolean), Cond.methodLink RX0 83 yX0_isLive, Cond.instanceMethod yX0_isLive, Cond.selects RX0 yX0_isLive yX0_isLive, Cond.code yX0_isLive cX0_isLive 2 (some .boolean), Cond.fieldLink RX0 16 "CellRack" "kinds" "[I", Cond.methodLink RX0 92 yX0_spotOf, Cond.static yX0_spotOf, Cond.code yX0_spotOf cX0_spotOf 2 (some .int), Cond.methodLink RX0 137 yX0_setKindOfAll]
def wsL_fail_r2 : List Cond := [Cond.instanceMethod yX0_setKindOfAll, Cond.selects RX0 yX0_setKindOfAll yX0_setKindOfAll, Cond.code yX0_setKindOfAll cX0_setKindOfAll 4 none, Cond.methodLink RX0 145 yX0_setKind, Cond.instanceMethod yX0_setKind, Cond.selects RX0 yX0_setKind yX0_setKind, Cond.code yX0_setKind cX0_setKind 3 none, Cond.fieldLink RX0 26 "CellRack" "cellsOfKind" "[I"]
def wsL_fail : List Cond := .codeWith yL_fail cL_fail 4 (some .int) [(0, 16, 19, 13)] :: ((wsL_fail_r1 ++ wsL_fail_r2) ++ wsX00 ++ (vx_atS RX0 64 "java/lang/IllegalArgumentException" ["java/lang/RuntimeException", "java/lang/Exception"]).filter goodWord)
def wsL_replace_r1 : List Cond := [Cond.classLink RL 13 "java/lang/IllegalArgumentException", Cond.methodLink RL 46 yX0_replace, Cond.instanceMethod yX0_replace, Cond.selects RX0 yX0_replace yX0_replace, Cond.initialized RX0, Cond.code yX0_replace cX0_replace 2 (some .boolean), Cond.fieldLink RX0 29 "CellRack" "liveDisks" "I", Cond.methodLink RX0 133 yX0_needDisk, Cond.static yX0_needDisk, Cond.code yX0_needDisk cX0_needDisk 1 none, Cond.classLink RX0 60 "java/lang/IllegalArgumentException", Cond.initialized "java/lang/IllegalArgumentException", Cond.methodLink RX0 157 yX0_isDisk, Cond.static yX0_isDisk, Cond.code yX0_isDisk cX0_isDisk 1 (some .boolean), Cond.methodLink RX0 83 yX0_isLive, Cond.instanceMethod yX0_isLive, Cond.selects RX0 yX0_isLive yX0_isLive, Cond.code yX0_isLive cX0_isLive 2 (some .boolean), Cond.fieldLink RX0 16 "CellRack" "kinds" "[I", Cond.methodLink RX0 92 yX0_spotOf, Cond.static yX0_spotOf, Cond.code yX0_spotOf cX0_spotOf 2 (some .int), Cond.methodLink RX0 137 yX0_setKindOfAll]
def wsL_replace_r2 : List Cond := [Cond.instanceMethod yX0_setKindOfAll, Cond.selects RX0 yX0_setKindOfAll yX0_setKindOfAll, Cond.code yX0_setKindOfAll cX0_setKindOfAll 4 none, Cond.methodLink RX0 145 yX0_setKind, Cond.instanceMethod yX0_setKind, Cond.selects RX0 yX0_setKind yX0_setKind, Cond.code yX0_setKind cX0_setKind 3 none, Cond.fieldLink RX0 26 "CellRack" "cellsOfKind" "[I"]
def wsL_replace : List Cond := .codeWith yL_replace cL_replace 4 (some .int) [(0, 16, 19, 13)] :: ((wsL_replace_r1 ++ wsL_replace_r2) ++ wsX00 ++ (vx_atS RX0 64 "java/lang/IllegalArgumentException" ["java/lang/RuntimeException", "java/lang/Exception"]).filter goodWord)
def wsL_corrupt_r1 : List Cond := [Cond.classLink RL 13 "java/lang/IllegalArgumentException", Cond.methodLink RL 49 yX0_corrupt, Cond.instanceMethod yX0_corrupt, Cond.selects RX0 yX0_corrupt yX0_corrupt, Cond.initialized RX0, Cond.code yX0_corrupt cX0_corrupt 9 (some .boolean), Cond.classLink RX0 60 "java/lang/IllegalArgumentException", Cond.initialized "java/lang/IllegalArgumentException", Cond.fieldLink RX0 9 "CellRack" "now" "[J", Cond.methodLink RX0 76 yX0_isCell, Cond.static yX0_isCell, Cond.code yX0_isCell cX0_isCell 2 (some .boolean), Cond.methodLink RX0 157 yX0_isDisk, Cond.static yX0_isDisk, Cond.code yX0_isDisk cX0_isDisk 1 (some .boolean), Cond.methodLink RX0 56 yX0_isCount, Cond.static yX0_isCount, Cond.code yX0_isCount cX0_isCount 1 (some .boolean), Cond.methodLink RX0 92 yX0_spotOf, Cond.static yX0_spotOf, Cond.code yX0_spotOf cX0_spotOf 2 (some .int), Cond.methodLink RX0 128 yX0_hasBytes, Cond.instanceMethod yX0_hasBytes, Cond.selects RX0 yX0_hasBytes yX0_hasBytes]
def wsL_corrupt_r2 : List Cond := [Cond.code yX0_hasBytes cX0_hasBytes 2 (some .boolean), Cond.fieldLink RX0 16 "CellRack" "kinds" "[I", Cond.methodLink RX0 72 yX0_turnBytes, Cond.static yX0_turnBytes, Cond.code yX0_turnBytes cX0_turnBytes 8 none, Cond.constantLong RX0 175 (255), Cond.methodLink RX0 142 yX0_isAsWritten, Cond.instanceMethod yX0_isAsWritten, Cond.selects RX0 yX0_isAsWritten yX0_isAsWritten, Cond.code yX0_isAsWritten cX0_isAsWritten 3 (some .boolean), Cond.fieldLink RX0 13 "CellRack" "latest" "[J", Cond.methodLink RX0 145 yX0_setKind, Cond.instanceMethod yX0_setKind, Cond.selects RX0 yX0_setKind yX0_setKind, Cond.code yX0_setKind cX0_setKind 3 none, Cond.fieldLink RX0 26 "CellRack" "cellsOfKind" "[I", Cond.methodLink RX0 148 yX0_hasItsCheck, Cond.instanceMethod yX0_hasItsCheck, Cond.selects RX0 yX0_hasItsCheck yX0_hasItsCheck, Cond.code yX0_hasItsCheck cX0_hasItsCheck 2 (some .boolean), Cond.methodLink RX0 164 yX0_checkOf, Cond.instanceMethod yX0_checkOf, Cond.selects RX0 yX0_checkOf yX0_checkOf, Cond.code yX0_checkOf cX0_checkOf 6 (some .long)]
def wsL_corrupt_r3 : List Cond := [Cond.constantLong RX0 171 (4294967295), Cond.constantLong RX0 173 (2197175160), Cond.methodLink RX0 122 yX0_byteOf, Cond.static yX0_byteOf, Cond.code yX0_byteOf cX0_byteOf 3 (some .int)]
def wsL_corrupt : List Cond := .codeWith yL_corrupt cL_corrupt 9 (some .int) [(0, 23, 26, 13)] :: ((wsL_corrupt_r1 ++ (wsL_corrupt_r2 ++ wsL_corrupt_r3)) ++ wsX00 ++ (vx_atS RX0 64 "java/lang/IllegalArgumentException" ["java/lang/RuntimeException", "java/lang/Exception"]).filter goodWord)
def wsL_lose : List Cond := .codeWith yL_lose cL_lose 3 (some .int) [(0, 5, 8, 13), (0, 5, 11, 15)] :: ([.classLink RL 13 "java/lang/IllegalArgumentException", .classLink RL 15 "java/lang/IllegalStateException", .methodLink RL 53 yX0_lose, .instanceMethod yX0_lose, .selects RX0 yX0_lose yX0_lose, .initialized RX0, .code yX0_lose cX0_lose 2 none, .classLink RX0 60 "java/lang/IllegalArgumentException", .initialized "java/lang/IllegalArgumentException", .classLink RX0 67 "java/lang/IllegalStateException", .initialized "java/lang/IllegalStateException", .fieldLink RX0 45 "CellRack" "off" "Z", .fieldLink RX0 49 "CellRack" "writesLeft" "I"] ++ wsX00 ++ (vx_atS RX0 64 "java/lang/IllegalArgumentException" ["java/lang/RuntimeException", "java/lang/Exception"]).filter goodWord ++ (vx_atS RX0 71 "java/lang/IllegalStateException" ["java/lang/RuntimeException", "java/lang/Exception"]).filter goodWord)
def wsL_look : List Cond := .codeWith yL_look cL_look 4 (some .int) [(0, 8, 11, 29)] :: ([.classLink RL 29 "java/util/NoSuchElementException", .methodLink RL 57 yX0_look, .instanceMethod yX0_look, .selects RX0 yX0_look yX0_look, .initialized RX0, .code yX0_look cX0_look 2 (some .long), .classLink RX0 112 "java/util/NoSuchElementException", .initialized "java/util/NoSuchElementException", .fieldLink RX0 52 "CellRack" "writesDone" "J", .fieldLink RX0 45 "CellRack" "off" "Z", .fieldLink RX0 49 "CellRack" "writesLeft" "I", .fieldLink RX0 29 "CellRack" "liveDisks" "I", .fieldLink RX0 26 "CellRack" "cellsOfKind" "[I"] ++ wsX00 ++ (zr_atS RX0 116 "java/util/NoSuchElementException" ["java/lang/RuntimeException", "java/lang/Exception"]).filter goodWord)
def wsL_law0_r1 : List Cond := [Cond.classLink RL 8 RX0, Cond.instantiable RX0 12, Cond.initialized RX0, Cond.classLink RL 61 RX1, Cond.instantiable RX1 13, Cond.initialized RX1, Cond.arrayClass .long, Cond.constantLong RL 64 (4294967295), Cond.methodLink RL 60 yX0_init, Cond.instanceMethod yX0_init, Cond.code yX0_init cX0_init 1 none, Cond.methodLink RX0 3 objectInit, Cond.instanceMethod objectInit, Cond.code objectInit ⟨#[0xb1]⟩ 1 none, Cond.fieldLink RX0 9 "CellRack" "now" "[J", Cond.fieldLink RX0 13 "CellRack" "latest" "[J", Cond.arrayClass .int, Cond.fieldLink RX0 16 "CellRack" "kinds" "[I", Cond.fieldLink RX0 26 "CellRack" "cellsOfKind" "[I", Cond.fieldLink RX0 29 "CellRack" "liveDisks" "I", Cond.fieldLink RX0 33 "CellRack" "tape" "[J", Cond.fieldLink RX0 36 "CellRack" "tapeBytes" "I", Cond.fieldLink RX0 39 "CellRack" "out" "[J", Cond.fieldLink RX0 42 "CellRack" "outBytes" "I"]
def wsL_law0_r2 : List Cond := [Cond.fieldLink RX0 45 "CellRack" "off" "Z", Cond.fieldLink RX0 49 "CellRack" "writesLeft" "I", Cond.fieldLink RX0 52 "CellRack" "writesDone" "J", Cond.methodLink RX0 20 yJ7_fill_53178, Cond.static yJ7_fill_53178, Cond.initialized RJ7, Cond.code yJ7_fill_53178 cJ7_fill_53178 4 none, Cond.methodLink RL 63 yX1_init, Cond.instanceMethod yX1_init, Cond.code yX1_init cX1_init 2 none, Cond.methodLink RX1 1 objectInit, Cond.fieldLink RX1 7 "CellRackModel" "tape" "[I", Cond.fieldLink RX1 13 "CellRackModel" "out" "[I", Cond.arrayClass .boolean, Cond.fieldLink RX1 16 "CellRackModel" "live" "[Z", Cond.fieldLink RX1 20 "CellRackModel" "written" "[Z", Cond.constant RX1 23 (73920), Cond.arrayClass .byte, Cond.fieldLink RX1 24 "CellRackModel" "bytes" "[B", Cond.fieldLink RX1 28 "CellRackModel" "damage" "[B", Cond.constantLong RX1 31 (-1), Cond.fieldLink RX1 33 "CellRackModel" "left" "J", Cond.fieldLink RX1 37 "CellRackModel" "bits" "[Z", Cond.methodLink RL 66 yL_feed]
def wsL_law0_r3 : List Cond := [Cond.static yL_feed, Cond.initialized RL, Cond.codeWith yL_feed cL_feed 6 (some .int) [(0, 11, 14, 13), (0, 11, 18, 15)], Cond.classLink RL 13 "java/lang/IllegalArgumentException", Cond.classLink RL 15 "java/lang/IllegalStateException", Cond.methodLink RL 7 yX0_feed, Cond.instanceMethod yX0_feed, Cond.selects RX0 yX0_feed yX0_feed, Cond.code yX0_feed cX0_feed 4 (some .int), Cond.classLink RX0 60 "java/lang/IllegalArgumentException", Cond.initialized "java/lang/IllegalArgumentException", Cond.classLink RX0 67 "java/lang/IllegalStateException", Cond.initialized "java/lang/IllegalStateException", Cond.methodLink RX0 56 yX0_isCount, Cond.static yX0_isCount, Cond.code yX0_isCount cX0_isCount 1 (some .boolean), Cond.methodLink RX0 72 yX0_turnBytes, Cond.static yX0_turnBytes, Cond.code yX0_turnBytes cX0_turnBytes 8 none, Cond.constantLong RX0 175 (255), Cond.methodLink RL 71 yX1_feed, Cond.instanceMethod yX1_feed, Cond.selects RX1 yX1_feed yX1_feed, Cond.code yX1_feed cX1_feed 5 (some .int)]
def wsL_law0_r4 : List Cond := [Cond.fieldLink RX1 70 "CellRackModel" "taped" "I", Cond.constantLong RX1 73 (255), Cond.methodLink RX1 44 yX1_within, Cond.static yX1_within, Cond.code yX1_within cX1_within 3 (some .boolean), Cond.methodLink RX1 66 yX1_fails, Cond.instanceMethod yX1_fails, Cond.selects RX1 yX1_fails yX1_fails, Cond.code yX1_fails cX1_fails 3 (some .boolean), Cond.fieldLink RX1 40 "CellRackModel" "thrown" "I", Cond.methodLink RL 72 yX1_thrown, Cond.instanceMethod yX1_thrown, Cond.selects RX1 yX1_thrown yX1_thrown, Cond.code yX1_thrown cX1_thrown 1 (some .int), Cond.methodLink RL 76 yL_write, Cond.static yL_write, Cond.codeWith yL_write cL_write 6 (some .int) [(0, 19, 22, 13), (0, 19, 26, 15)], Cond.methodLink RL 17 yX0_write, Cond.instanceMethod yX0_write, Cond.selects RX0 yX0_write yX0_write, Cond.code yX0_write cX0_write 5 (some .boolean), Cond.constant RX0 80 (65535), Cond.methodLink RX0 76 yX0_isCell, Cond.static yX0_isCell]
def wsL_law0_r5 : List Cond := [Cond.code yX0_isCell cX0_isCell 2 (some .boolean), Cond.methodLink RX0 157 yX0_isDisk, Cond.static yX0_isDisk, Cond.code yX0_isDisk cX0_isDisk 1 (some .boolean), Cond.methodLink RX0 83 yX0_isLive, Cond.instanceMethod yX0_isLive, Cond.selects RX0 yX0_isLive yX0_isLive, Cond.code yX0_isLive cX0_isLive 2 (some .boolean), Cond.methodLink RX0 92 yX0_spotOf, Cond.static yX0_spotOf, Cond.code yX0_spotOf cX0_spotOf 2 (some .int), Cond.methodLink RX0 88 yX0_drawPower, Cond.instanceMethod yX0_drawPower, Cond.selects RX0 yX0_drawPower yX0_drawPower, Cond.code yX0_drawPower cX0_drawPower 1 (some .boolean), Cond.methodLink RX0 96 yX0_putTape, Cond.instanceMethod yX0_putTape, Cond.selects RX0 yX0_putTape yX0_putTape, Cond.code yX0_putTape cX0_putTape 4 none, Cond.methodLink RX0 106 arraycopyName, Cond.native arraycopyName, Cond.static arraycopyName, Cond.initialized "java/lang/System", Cond.methodLink RX0 164 yX0_checkOf]
def wsL_law0_r6 : List Cond := [Cond.instanceMethod yX0_checkOf, Cond.selects RX0 yX0_checkOf yX0_checkOf, Cond.code yX0_checkOf cX0_checkOf 6 (some .long), Cond.constantLong RX0 171 (4294967295), Cond.constantLong RX0 173 (2197175160), Cond.methodLink RX0 122 yX0_byteOf, Cond.static yX0_byteOf, Cond.code yX0_byteOf cX0_byteOf 3 (some .int), Cond.methodLink RX0 145 yX0_setKind, Cond.instanceMethod yX0_setKind, Cond.selects RX0 yX0_setKind yX0_setKind, Cond.code yX0_setKind cX0_setKind 3 none, Cond.methodLink RX0 100 yX0_clearTape, Cond.instanceMethod yX0_clearTape, Cond.selects RX0 yX0_clearTape yX0_clearTape, Cond.code yX0_clearTape cX0_clearTape 1 none, Cond.methodLink RX0 168 yJ7_fill_d0a16, Cond.static yJ7_fill_d0a16, Cond.code yJ7_fill_d0a16 cJ7_fill_d0a16 5 none, Cond.methodLink RL 79 yX1_write, Cond.instanceMethod yX1_write, Cond.selects RX1 yX1_write yX1_write, Cond.code yX1_write cX1_write 7 (some .boolean), Cond.constant RX1 79 (65535)]
def wsL_law0_r7 : List Cond := [Cond.fieldLink RX1 80 "CellRackModel" "off" "Z", Cond.fieldLink RX1 84 "CellRackModel" "done" "J", Cond.methodLink RX1 75 yX1_none, Cond.static yX1_none, Cond.code yX1_none cX1_none 2 (some .boolean), Cond.methodLink RX1 58 yX1_spot, Cond.static yX1_spot, Cond.code yX1_spot cX1_spot 2 (some .int), Cond.methodLink RX1 87 yX1_check, Cond.instanceMethod yX1_check, Cond.selects RX1 yX1_check yX1_check, Cond.code yX1_check cX1_check 5 none, Cond.methodLink RX1 50 yX1_spread, Cond.instanceMethod yX1_spread, Cond.selects RX1 yX1_spread yX1_spread, Cond.code yX1_spread cX1_spread 5 none, Cond.methodLink RX1 54 yX1_divide, Cond.instanceMethod yX1_divide, Cond.selects RX1 yX1_divide yX1_divide, Cond.code yX1_divide cX1_divide 4 none, Cond.constantLong RX1 48 (4394350321), Cond.methodLink RL 80 yL_read, Cond.static yL_read, Cond.codeWith yL_read cL_read 5 (some .int) [(0, 17, 20, 13)]]
def wsL_law0_r8 : List Cond := [Cond.methodLink RL 21 yX0_read, Cond.instanceMethod yX0_read, Cond.selects RX0 yX0_read yX0_read, Cond.code yX0_read cX0_read 5 (some .boolean), Cond.methodLink RX0 103 yX0_needCell, Cond.static yX0_needCell, Cond.code yX0_needCell cX0_needCell 2 none, Cond.methodLink RL 83 yX1_read, Cond.instanceMethod yX1_read, Cond.selects RX1 yX1_read yX1_read, Cond.code yX1_read cX1_read 4 (some .boolean), Cond.fieldLink RX1 90 "CellRackModel" "outs" "I", Cond.methodLink RX1 93 yX1_stateOf, Cond.instanceMethod yX1_stateOf, Cond.selects RX1 yX1_stateOf yX1_stateOf, Cond.code yX1_stateOf cX1_stateOf 3 (some .int), Cond.methodLink RX1 62 yX1_isDamaged, Cond.instanceMethod yX1_isDamaged, Cond.selects RX1 yX1_isDamaged yX1_isDamaged, Cond.code yX1_isDamaged cX1_isDamaged 4 (some .boolean), Cond.methodLink RX1 96 yX1_byteAt, Cond.instanceMethod yX1_byteAt, Cond.selects RX1 yX1_byteAt yX1_byteAt, Cond.code yX1_byteAt cX1_byteAt 3 (some .int)]
def wsL_law0_r9 : List Cond := [Cond.methodLink RL 84 yL_outs, Cond.static yL_outs, Cond.codeWith yL_outs cL_outs 4 (some .int) [(0, 8, 11, 29)], Cond.classLink RL 29 "java/util/NoSuchElementException", Cond.methodLink RL 25 yX0_outs, Cond.instanceMethod yX0_outs, Cond.selects RX0 yX0_outs yX0_outs, Cond.code yX0_outs cX0_outs 6 (some .long), Cond.classLink RX0 112 "java/util/NoSuchElementException", Cond.initialized "java/util/NoSuchElementException", Cond.methodLink RX0 117 Lib.Math.min.name, Cond.static Lib.Math.min.name, Cond.initialized "java/lang/Math", Cond.code Lib.Math.min.name Lib.Math.min.code 2 (some .int), Cond.methodLink RL 87 yX1_outs, Cond.instanceMethod yX1_outs, Cond.selects RX1 yX1_outs yX1_outs, Cond.code yX1_outs cX1_outs 5 (some .long), Cond.methodLink RL 88 yL_tag, Cond.static yL_tag, Cond.codeWith yL_tag cL_tag 5 (some .int) [(0, 10, 13, 13)], Cond.methodLink RL 31 yX0_tag, Cond.instanceMethod yX0_tag, Cond.selects RX0 yX0_tag yX0_tag]
def wsL_law0_r10 : List Cond := [Cond.code yX0_tag cX0_tag 4 (some .int), Cond.constantLong RX0 126 (65535), Cond.methodLink RL 90 yX1_tag, Cond.instanceMethod yX1_tag, Cond.selects RX1 yX1_tag yX1_tag, Cond.code yX1_tag cX1_tag 4 (some .int), Cond.methodLink RL 91 yL_cell, Cond.static yL_cell, Cond.codeWith yL_cell cL_cell 5 (some .int) [(0, 10, 13, 13)], Cond.methodLink RL 35 yX0_cell, Cond.instanceMethod yX0_cell, Cond.selects RX0 yX0_cell yX0_cell, Cond.code yX0_cell cX0_cell 3 (some .int), Cond.methodLink RL 93 yX1_cell, Cond.instanceMethod yX1_cell, Cond.selects RX1 yX1_cell yX1_cell, Cond.code yX1_cell cX1_cell 3 (some .int), Cond.methodLink RL 94 yL_at, Cond.static yL_at, Cond.codeWith yL_at cL_at 6 (some .int) [(0, 12, 15, 13), (0, 12, 19, 29)], Cond.methodLink RL 38 yX0_at, Cond.instanceMethod yX0_at, Cond.selects RX0 yX0_at yX0_at, Cond.code yX0_at cX0_at 5 (some .int)]
def wsL_law0_r11 : List Cond := [Cond.methodLink RX0 128 yX0_hasBytes, Cond.instanceMethod yX0_hasBytes, Cond.selects RX0 yX0_hasBytes yX0_hasBytes, Cond.code yX0_hasBytes cX0_hasBytes 2 (some .boolean), Cond.methodLink RL 96 yX1_at, Cond.instanceMethod yX1_at, Cond.selects RX1 yX1_at yX1_at, Cond.code yX1_at cX1_at 4 (some .int), Cond.methodLink RL 97 yL_fail, Cond.static yL_fail, Cond.codeWith yL_fail cL_fail 4 (some .int) [(0, 16, 19, 13)], Cond.methodLink RL 42 yX0_fail, Cond.instanceMethod yX0_fail, Cond.selects RX0 yX0_fail yX0_fail, Cond.code yX0_fail cX0_fail 2 (some .boolean), Cond.methodLink RX0 133 yX0_needDisk, Cond.static yX0_needDisk, Cond.code yX0_needDisk cX0_needDisk 1 none, Cond.methodLink RX0 137 yX0_setKindOfAll, Cond.instanceMethod yX0_setKindOfAll, Cond.selects RX0 yX0_setKindOfAll yX0_setKindOfAll, Cond.code yX0_setKindOfAll cX0_setKindOfAll 4 none, Cond.methodLink RL 99 yX1_fail, Cond.instanceMethod yX1_fail]
def wsL_law0_r12 : List Cond := [Cond.selects RX1 yX1_fail yX1_fail, Cond.code yX1_fail cX1_fail 2 (some .boolean), Cond.methodLink RX1 99 yX1_noDisk, Cond.static yX1_noDisk, Cond.code yX1_noDisk cX1_noDisk 1 (some .boolean), Cond.methodLink RL 100 yL_replace, Cond.static yL_replace, Cond.codeWith yL_replace cL_replace 4 (some .int) [(0, 16, 19, 13)], Cond.methodLink RL 46 yX0_replace, Cond.instanceMethod yX0_replace, Cond.selects RX0 yX0_replace yX0_replace, Cond.code yX0_replace cX0_replace 2 (some .boolean), Cond.methodLink RL 102 yX1_replace, Cond.instanceMethod yX1_replace, Cond.selects RX1 yX1_replace yX1_replace, Cond.code yX1_replace cX1_replace 3 (some .boolean), Cond.methodLink RL 103 yL_corrupt, Cond.static yL_corrupt, Cond.codeWith yL_corrupt cL_corrupt 9 (some .int) [(0, 23, 26, 13)], Cond.methodLink RL 49 yX0_corrupt, Cond.instanceMethod yX0_corrupt, Cond.selects RX0 yX0_corrupt yX0_corrupt, Cond.code yX0_corrupt cX0_corrupt 9 (some .boolean), Cond.methodLink RX0 142 yX0_isAsWritten]
def wsL_law0_r13 : List Cond := [Cond.instanceMethod yX0_isAsWritten, Cond.selects RX0 yX0_isAsWritten yX0_isAsWritten, Cond.code yX0_isAsWritten cX0_isAsWritten 3 (some .boolean), Cond.methodLink RX0 148 yX0_hasItsCheck, Cond.instanceMethod yX0_hasItsCheck, Cond.selects RX0 yX0_hasItsCheck yX0_hasItsCheck, Cond.code yX0_hasItsCheck cX0_hasItsCheck 2 (some .boolean), Cond.methodLink RL 106 yX1_corrupt, Cond.instanceMethod yX1_corrupt, Cond.selects RX1 yX1_corrupt yX1_corrupt, Cond.code yX1_corrupt cX1_corrupt 8 (some .boolean), Cond.methodLink RX1 102 yX1_strike, Cond.instanceMethod yX1_strike, Cond.selects RX1 yX1_strike yX1_strike, Cond.code yX1_strike cX1_strike 7 none, Cond.methodLink RX1 106 yX1_isUnseen, Cond.instanceMethod yX1_isUnseen, Cond.selects RX1 yX1_isUnseen yX1_isUnseen, Cond.code yX1_isUnseen cX1_isUnseen 4 (some .boolean), Cond.methodLink RL 107 yL_lose, Cond.static yL_lose, Cond.codeWith yL_lose cL_lose 3 (some .int) [(0, 5, 8, 13), (0, 5, 11, 15)], Cond.methodLink RL 53 yX0_lose, Cond.instanceMethod yX0_lose]
def wsL_law0_r14 : List Cond := [Cond.selects RX0 yX0_lose yX0_lose, Cond.code yX0_lose cX0_lose 2 none, Cond.methodLink RL 110 yX1_lose, Cond.instanceMethod yX1_lose, Cond.selects RX1 yX1_lose yX1_lose, Cond.code yX1_lose cX1_lose 2 none, Cond.methodLink RL 111 yX0_power, Cond.instanceMethod yX0_power, Cond.selects RX0 yX0_power yX0_power, Cond.code yX0_power cX0_power 2 (some .boolean), Cond.methodLink RL 115 yX1_power, Cond.instanceMethod yX1_power, Cond.selects RX1 yX1_power yX1_power, Cond.code yX1_power cX1_power 2 (some .boolean), Cond.methodLink RL 116 yL_look, Cond.static yL_look, Cond.codeWith yL_look cL_look 4 (some .int) [(0, 8, 11, 29)], Cond.methodLink RL 57 yX0_look, Cond.instanceMethod yX0_look, Cond.selects RX0 yX0_look yX0_look, Cond.code yX0_look cX0_look 2 (some .long), Cond.methodLink RL 118 yX1_look, Cond.instanceMethod yX1_look, Cond.selects RX1 yX1_look yX1_look]
def wsL_law0_r15 : List Cond := [Cond.code yX1_look cX1_look 5 (some .long), Cond.methodLink RX1 109 yX1_count, Cond.instanceMethod yX1_count, Cond.selects RX1 yX1_count yX1_count, Cond.code yX1_count cX1_count 6 (some .long)]
def wsL_law0 : List Cond := (wsL_law0_r1 ++ (wsL_law0_r2 ++ (wsL_law0_r3 ++ (wsL_law0_r4 ++ (wsL_law0_r5 ++ (wsL_law0_r6 ++ (wsL_law0_r7 ++ (wsL_law0_r8 ++ (wsL_law0_r9 ++ (wsL_law0_r10 ++ (wsL_law0_r11 ++ (wsL_law0_r12 ++ (wsL_law0_r13 ++ (wsL_law0_r14 ++ wsL_law0_r15)))))))))))))) ++ wsX00 ++ wsX10 ++ ([] : List Cond)
def wsL_law : List Cond := wsL_law0 ++ (vx_atS RX0 64 "java/lang/IllegalArgumentException" ["java/lang/RuntimeException", "java/lang/Exception"]).filter goodWord ++ (vx_atS RX0 71 "java/lang/IllegalStateException" ["java/lang/RuntimeException", "java/lang/Exception"]).filter goodWord ++ (zr_atS RX0 116 "java/util/NoSuchElementException" ["java/lang/RuntimeException", "java/lang/Exception"]).filter goodWord
set_option maxRecDepth 20000 in
theorem wsL_law_in0 : ∀ w ∈ wsL_law0, w ∈ lw_tbl := fun w h => (goodIn_p wsL_law0 [37, 40, 43, 365, 95, 98, 185, 417, 420, 424, 413, 193, 196, 199, 205, 208, 213, 217, 224, 228, 233, 237, 240, 429, 432, 436, 440, 444, 448, 247, 250, 453, 457, 461, 465, 259, 278, 469, 285, 473, 293, 477, 300, 304, 481, 312, 315, 320, 485, 488, 327, 492, 334, 339, 343, 496, 500, 504, 350, 508, 86, 512, 359, 516, 520] (by decide +kernel) (by decide +kernel) w h).1
theorem wsL_law_x0 : ∀ w ∈ (vx_atS RX0 64 "java/lang/IllegalArgumentException" ["java/lang/RuntimeException", "java/lang/Exception"]).filter goodWord, w ∈ lw_tbl := by decide +kernel
theorem wsL_law_x1 : ∀ w ∈ (vx_atS RX0 71 "java/lang/IllegalStateException" ["java/lang/RuntimeException", "java/lang/Exception"]).filter goodWord, w ∈ lw_tbl := by decide +kernel
theorem wsL_law_x2 : ∀ w ∈ (zr_atS RX0 116 "java/util/NoSuchElementException" ["java/lang/RuntimeException", "java/lang/Exception"]).filter goodWord, w ∈ lw_tbl := by decide +kernel
theorem wsL_law_in : ∀ w ∈ wsL_law, w ∈ lw_tbl := fun w h => (List.mem_append.mp h).elim (fun h => (List.mem_append.mp h).elim (fun h => (List.mem_append.mp h).elim (fun h => wsL_law_in0 w h) (fun h => wsL_law_x0 w h)) (fun h => wsL_law_x1 w h)) (fun h => wsL_law_x2 w h)
theorem inlX0 : ∀ w ∈ wsX00, w ∈ wsL_law := fun _ h => List.mem_append_left _ (List.mem_append_left _ (List.mem_append_left _ (List.mem_append_left _ (List.mem_append_left _ (List.mem_append_right _ h)))))
theorem inX0 : ∀ w ∈ wsX00, w ∈ lw_tbl := fun w h => wsL_law_in w (inlX0 w h)
theorem inlX1 : ∀ w ∈ wsX10, w ∈ wsL_law := fun _ h => List.mem_append_left _ (List.mem_append_left _ (List.mem_append_left _ (List.mem_append_left _ (List.mem_append_right _ h))))
theorem inX1 : ∀ w ∈ wsX10, w ∈ lw_tbl := fun w h => wsL_law_in w (inlX1 w h)
theorem inJ9 : ∀ w ∈ wsJ90, w ∈ lw_tbl := by decide +kernel
theorem inJ0 : ∀ w ∈ wsJ00, w ∈ lw_tbl := by decide +kernel
theorem inJ10 : ∀ w ∈ wsJ100, w ∈ lw_tbl := by decide +kernel
theorem inJ7 : ∀ w ∈ wsJ70, w ∈ lw_tbl := by decide +kernel
set_option maxRecDepth 20000 in
theorem ggX0_init_J7_fill_53178 : GoodIn wsX0_init wsJ7_fill_53178 := goodIn_r _ [21] (by decide +kernel) (by decide +kernel)
set_option maxRecDepth 20000 in
theorem gX0_init_J7_fill_53178 : GoodIn wsX0_init (va_wsS RX0 20 yJ7_fill_53178 wsJ7_fill_53178) := goodIn_app (goodIn_of _ (by decide +kernel)) ggX0_init_J7_fill_53178
abbrev vwCl : List vw_C := [(RX0, TX0, 12), (RX1, TX1, 13)]
/-! THE CLAIM OUT OF ONE WALK OF THE LAW'S BODY. Your part is whole_start (and what it stands on); all else here is the same for every law, but numbers. -/
def R_law : String := "CellRackLaw"
def lw_P (b : Addr) (xs : List Int32) (args : Array Value) (s : State) : Prop := args = #[.ref b] ∧ s.IntsAt b xs ∧ xs.length ≤ 3584 ∧ (Jvm.Cond.and given_1 narrow_1).before args s = true
def lw_Q (_ : Array Value) (s : State) (o : Outcome) (t : State) : Prop := o = .returned (some (.int 1)) ∧ Framed s o t [] 601024 7293034
def lw_Z (below : List Frame) (a : Array Value) (s : State) : State → Prop := fun t => ∃ o, t.status = .running ∧ Ended t below o ∧ lw_Q a s o t
/-- the law's own end, with 1 on the stack, nothing written that was there before, its room as the claim has it -/
theorem lw_ret {p : Program} {l : Launch} {e : Env} {s : State} {m : MethodId} {below : List Frame} {meth : Method} {c : Code} {b : Nat} (hx : p.tables.exec = Jvm.exec) (hb : c.code = code) (hr : meth.sig.returnType = ret) (hlocks : meth.locks = false) {pc : Nat} {H : Heap} {ls : Array Slot} (hdg : decode code pc = .ok (.ireturn, 1)) : W p l e room_1 s m #[Value.ref b] below meth c H [] 601024 7293034 (lw_Z below #[Value.ref b] s) (F0 m pc ls [.int 1]) := by
  intro T hT X
  obtain ⟨fs, hret, hrun, hended, hW, hframe⟩ := X.leave (v := some (.int 1)) (hlocks := hlocks) (fun h => by rw [hr] at h; cases h)
  have hmeth' : T.vm.method? m = some meth := X.method'
  refine ⟨T.setFrames fs, ?_, .returned (some (.int 1)), hrun, hended, rfl, ⟨_, rfl⟩, hW, hframe⟩
  jvm_step X.here [X.here.top, hx, hb, hdg, hmeth', hr, ret, narrow_b1]
  (try refine ⟨rfl, ?_⟩); (try refine ⟨rfl, ?_⟩)
  first | (intro acts; rw [hret _ acts rfl rfl rfl]) | rw [hret _ _ rfl rfl rfl]
  exact Steps.refl _
/-- what holds at the law's entry: the machine, the code, the tables' words (any of lw_tbl by 'hts w (by decide +kernel)'), the script of L ints xs at the cell b, what the Statement gives of the start (any of its parts by flat_of_before) -/
def lw_At (p : Program) (s : State) (m : MethodId) (meth : Method) (c : Code) (b L : Nat) (xs : Nat → Int32) : Prop :=
  p.tables.exec = Jvm.exec ∧ c.code = code ∧ meth.sig.returnType = ret ∧ c.maxLocals = 8 ∧ s.vm.findClass R_law = some m.cls ∧ (∀ w ∈ lw_tbl, w.before #[Value.ref b] s = true) ∧ va_X b L xs s s.heap ∧ b < s.heap.size ∧ meth.locks = false ∧ (Jvm.Cond.and given_1 narrow_1).before #[Value.ref b] s = true
end
section
set_option maxRecDepth 20000 in
theorem ggX0_feed_X0_isCount : GoodIn wsX0_feed wsX0_isCount := goodIn_r _ [10] (by decide +kernel) (by decide +kernel)
set_option maxRecDepth 20000 in
theorem gX0_feed_X0_isCount : GoodIn wsX0_feed (va_wsS RX0 56 yX0_isCount wsX0_isCount) := goodIn_app (goodIn_of _ (by decide +kernel)) ggX0_feed_X0_isCount
set_option maxRecDepth 20000 in
theorem ggX0_feed_X0_turnBytes : GoodIn wsX0_feed wsX0_turnBytes := goodIn_r _ [13, 14] (by decide +kernel) (by decide +kernel)
set_option maxRecDepth 20000 in
theorem gX0_feed_X0_turnBytes : GoodIn wsX0_feed (va_wsS RX0 72 yX0_turnBytes wsX0_turnBytes) := goodIn_app (goodIn_of _ (by decide +kernel)) ggX0_feed_X0_turnBytes
set_option maxRecDepth 20000 in
theorem ggX0_write_X0_isCell : GoodIn wsX0_write wsX0_isCell := goodIn_r _ [10, 11, 12, 9, 13] (by decide +kernel) (by decide +kernel)
set_option maxRecDepth 20000 in
theorem gX0_write_X0_isCell : GoodIn wsX0_write (va_wsS RX0 76 yX0_isCell wsX0_isCell) := goodIn_app (goodIn_of _ (by decide +kernel)) ggX0_write_X0_isCell
set_option maxRecDepth 20000 in
theorem ggX0_write_X0_isLive : GoodIn wsX0_write wsX0_isLive := goodIn_r _ [17, 18, 19, 20, 9, 21, 62, 63, 64, 65, 66, 67, 68, 69, 70, 71, 72, 73] (by decide +kernel) (by decide +kernel)
set_option maxRecDepth 20000 in
theorem gX0_write_X0_isLive : GoodIn wsX0_write (wsV RX0 83 RX0 yX0_isLive wsX0_isLive) := goodIn_app (goodIn_of _ (by decide +kernel)) ggX0_write_X0_isLive
set_option maxRecDepth 20000 in
theorem ggX0_write_X0_drawPower : GoodIn wsX0_write wsX0_drawPower := goodIn_r _ [25, 26, 27, 62, 63, 64, 65, 66, 67, 68, 69, 70, 71, 72, 73] (by decide +kernel) (by decide +kernel)
set_option maxRecDepth 20000 in
theorem gX0_write_X0_drawPower : GoodIn wsX0_write (wsV RX0 88 RX0 yX0_drawPower wsX0_drawPower) := goodIn_app (goodIn_of _ (by decide +kernel)) ggX0_write_X0_drawPower
set_option maxRecDepth 20000 in
theorem ggX0_write_X0_spotOf : GoodIn wsX0_write wsX0_spotOf := goodIn_r _ [21] (by decide +kernel) (by decide +kernel)
set_option maxRecDepth 20000 in
theorem gX0_write_X0_spotOf : GoodIn wsX0_write (va_wsS RX0 92 yX0_spotOf wsX0_spotOf) := goodIn_app (goodIn_of _ (by decide +kernel)) ggX0_write_X0_spotOf
set_option maxRecDepth 20000 in
theorem ggX0_write_X0_putTape : GoodIn wsX0_write wsX0_putTape := goodIn_r _ [31, 32, 33, 34, 35, 36, 37, 38, 39, 40, 41, 9, 42, 43, 44, 45, 46, 47, 48, 49, 50, 51, 52, 18, 62, 63, 64, 65, 66, 67, 68, 69, 70, 71, 72, 73] (by decide +kernel) (by decide +kernel)
set_option maxRecDepth 20000 in
theorem gX0_write_X0_putTape : GoodIn wsX0_write (wsV RX0 96 RX0 yX0_putTape wsX0_putTape) := goodIn_app (goodIn_of _ (by decide +kernel)) ggX0_write_X0_putTape
set_option maxRecDepth 20000 in
theorem ggX0_write_X0_clearTape : GoodIn wsX0_write wsX0_clearTape := goodIn_r _ [56, 32, 57, 58, 59, 60, 61, 62, 63, 64, 65, 66, 67, 68, 69, 70, 71, 72, 73] (by decide +kernel) (by decide +kernel)
set_option maxRecDepth 20000 in
theorem gX0_write_X0_clearTape : GoodIn wsX0_write (wsV RX0 100 RX0 yX0_clearTape wsX0_clearTape) := goodIn_app (goodIn_of _ (by decide +kernel)) ggX0_write_X0_clearTape
set_option maxRecDepth 20000 in
theorem ggX0_read_X0_needCell : GoodIn wsX0_read wsX0_needCell := goodIn_ca (goodIn_r _ [12, 13, 14, 15, 16, 11, 17, 18, 19, 20] (by decide +kernel) (by decide +kernel)) (goodIn_sub (fun _ h => List.mem_cons_of_mem _ (List.mem_append_right _ h)) (by decide +kernel))
set_option maxRecDepth 20000 in
theorem gX0_read_X0_needCell : GoodIn wsX0_read (va_wsS RX0 103 yX0_needCell wsX0_needCell) := goodIn_app (goodIn_of _ (by decide +kernel)) ggX0_read_X0_needCell
set_option maxRecDepth 20000 in
theorem ggX0_read_X0_spotOf : GoodIn wsX0_read wsX0_spotOf := goodIn_r _ [23] (by decide +kernel) (by decide +kernel)
set_option maxRecDepth 20000 in
theorem gX0_read_X0_spotOf : GoodIn wsX0_read (va_wsS RX0 92 yX0_spotOf wsX0_spotOf) := goodIn_app (goodIn_of _ (by decide +kernel)) ggX0_read_X0_spotOf
set_option maxRecDepth 20000 in
theorem ggX0_outs_X0_byteOf : GoodIn wsX0_outs wsX0_byteOf := goodIn_r _ [12] (by decide +kernel) (by decide +kernel)
set_option maxRecDepth 20000 in
theorem gX0_outs_X0_byteOf : GoodIn wsX0_outs (va_wsS RX0 122 yX0_byteOf wsX0_byteOf) := goodIn_app (goodIn_of _ (by decide +kernel)) ggX0_outs_X0_byteOf
set_option maxRecDepth 20000 in
theorem ggX0_tag_X0_needCell : GoodIn wsX0_tag wsX0_needCell := goodIn_ca (goodIn_r _ [7, 8, 9, 10, 11, 6, 12, 13, 14, 15] (by decide +kernel) (by decide +kernel)) (goodIn_sub (fun _ h => List.mem_cons_of_mem _ (List.mem_append_right _ h)) (by decide +kernel))
set_option maxRecDepth 20000 in
theorem gX0_tag_X0_needCell : GoodIn wsX0_tag (va_wsS RX0 103 yX0_needCell wsX0_needCell) := goodIn_app (goodIn_of _ (by decide +kernel)) ggX0_tag_X0_needCell
set_option maxRecDepth 20000 in
theorem ggX0_tag_X0_spotOf : GoodIn wsX0_tag wsX0_spotOf := goodIn_r _ [18] (by decide +kernel) (by decide +kernel)
set_option maxRecDepth 20000 in
theorem gX0_tag_X0_spotOf : GoodIn wsX0_tag (va_wsS RX0 92 yX0_spotOf wsX0_spotOf) := goodIn_app (goodIn_of _ (by decide +kernel)) ggX0_tag_X0_spotOf
set_option maxRecDepth 20000 in
theorem ggX0_cell_X0_needCell : GoodIn wsX0_cell wsX0_needCell := goodIn_ca (goodIn_r _ [5, 6, 7, 8, 9, 4, 10, 11, 12, 13] (by decide +kernel) (by decide +kernel)) (goodIn_sub (fun _ h => List.mem_cons_of_mem _ (List.mem_append_right _ h)) (by decide +kernel))
set_option maxRecDepth 20000 in
theorem gX0_cell_X0_needCell : GoodIn wsX0_cell (va_wsS RX0 103 yX0_needCell wsX0_needCell) := goodIn_app (goodIn_of _ (by decide +kernel)) ggX0_cell_X0_needCell
set_option maxRecDepth 20000 in
theorem ggX0_cell_X0_spotOf : GoodIn wsX0_cell wsX0_spotOf := goodIn_r _ [16] (by decide +kernel) (by decide +kernel)
set_option maxRecDepth 20000 in
theorem gX0_cell_X0_spotOf : GoodIn wsX0_cell (va_wsS RX0 92 yX0_spotOf wsX0_spotOf) := goodIn_app (goodIn_of _ (by decide +kernel)) ggX0_cell_X0_spotOf
set_option maxRecDepth 20000 in
theorem ggX0_at_X0_needCell : GoodIn wsX0_at wsX0_needCell := goodIn_ca (goodIn_r _ [7, 8, 9, 10, 11, 6, 12, 13, 14, 15] (by decide +kernel) (by decide +kernel)) (goodIn_sub (fun _ h => List.mem_cons_of_mem _ (List.mem_append_right _ h)) (by decide +kernel))
set_option maxRecDepth 20000 in
theorem gX0_at_X0_needCell : GoodIn wsX0_at (va_wsS RX0 103 yX0_needCell wsX0_needCell) := goodIn_app (goodIn_of _ (by decide +kernel)) ggX0_at_X0_needCell
set_option maxRecDepth 20000 in
theorem ggX0_at_X0_spotOf : GoodIn wsX0_at wsX0_spotOf := goodIn_r _ [18] (by decide +kernel) (by decide +kernel)
set_option maxRecDepth 20000 in
theorem gX0_at_X0_spotOf : GoodIn wsX0_at (va_wsS RX0 92 yX0_spotOf wsX0_spotOf) := goodIn_app (goodIn_of _ (by decide +kernel)) ggX0_at_X0_spotOf
set_option maxRecDepth 20000 in
theorem ggX0_at_X0_hasBytes : GoodIn wsX0_at wsX0_hasBytes := goodIn_r _ [22, 23, 27, 28, 29, 30, 31, 32, 33, 34, 35, 36, 37, 38] (by decide +kernel) (by decide +kernel)
set_option maxRecDepth 20000 in
theorem gX0_at_X0_hasBytes : GoodIn wsX0_at (wsV RX0 128 RX0 yX0_hasBytes wsX0_hasBytes) := goodIn_app (goodIn_of _ (by decide +kernel)) ggX0_at_X0_hasBytes
set_option maxRecDepth 20000 in
theorem ggX0_at_X0_byteOf : GoodIn wsX0_at wsX0_byteOf := goodIn_r _ [26] (by decide +kernel) (by decide +kernel)
set_option maxRecDepth 20000 in
theorem gX0_at_X0_byteOf : GoodIn wsX0_at (va_wsS RX0 122 yX0_byteOf wsX0_byteOf) := goodIn_app (goodIn_of _ (by decide +kernel)) ggX0_at_X0_byteOf
set_option maxRecDepth 20000 in
theorem ggX0_fail_X0_needDisk : GoodIn wsX0_fail wsX0_needDisk := goodIn_ca (goodIn_r _ [5, 6, 7, 8, 9, 4, 10] (by decide +kernel) (by decide +kernel)) (goodIn_sub (fun _ h => List.mem_cons_of_mem _ (List.mem_append_right _ h)) (by decide +kernel))
set_option maxRecDepth 20000 in
theorem gX0_fail_X0_needDisk : GoodIn wsX0_fail (va_wsS RX0 133 yX0_needDisk wsX0_needDisk) := goodIn_app (goodIn_of _ (by decide +kernel)) ggX0_fail_X0_needDisk
set_option maxRecDepth 20000 in
theorem ggX0_fail_X0_isLive : GoodIn wsX0_fail wsX0_isLive := goodIn_r _ [14, 15, 16, 17, 4, 18, 28, 29, 30, 31, 32, 33, 34, 35, 36, 37, 38, 39] (by decide +kernel) (by decide +kernel)
set_option maxRecDepth 20000 in
theorem gX0_fail_X0_isLive : GoodIn wsX0_fail (wsV RX0 83 RX0 yX0_isLive wsX0_isLive) := goodIn_app (goodIn_of _ (by decide +kernel)) ggX0_fail_X0_isLive
set_option maxRecDepth 20000 in
theorem ggX0_fail_X0_setKindOfAll : GoodIn wsX0_fail wsX0_setKindOfAll := goodIn_r _ [22, 16, 17, 4, 18, 23, 24, 25, 26, 27, 15, 28, 29, 30, 31, 32, 33, 34, 35, 36, 37, 38, 39] (by decide +kernel) (by decide +kernel)
set_option maxRecDepth 20000 in
theorem gX0_fail_X0_setKindOfAll : GoodIn wsX0_fail (wsV RX0 137 RX0 yX0_setKindOfAll wsX0_setKindOfAll) := goodIn_app (goodIn_of _ (by decide +kernel)) ggX0_fail_X0_setKindOfAll
set_option maxRecDepth 20000 in
theorem ggX0_replace_X0_needDisk : GoodIn wsX0_replace wsX0_needDisk := goodIn_ca (goodIn_r _ [5, 6, 7, 8, 9, 4, 10] (by decide +kernel) (by decide +kernel)) (goodIn_sub (fun _ h => List.mem_cons_of_mem _ (List.mem_append_right _ h)) (by decide +kernel))
set_option maxRecDepth 20000 in
theorem gX0_replace_X0_needDisk : GoodIn wsX0_replace (va_wsS RX0 133 yX0_needDisk wsX0_needDisk) := goodIn_app (goodIn_of _ (by decide +kernel)) ggX0_replace_X0_needDisk
set_option maxRecDepth 20000 in
theorem ggX0_replace_X0_isLive : GoodIn wsX0_replace wsX0_isLive := goodIn_r _ [14, 15, 16, 17, 4, 18, 28, 29, 30, 31, 32, 33, 34, 35, 36, 37, 38, 39] (by decide +kernel) (by decide +kernel)
set_option maxRecDepth 20000 in
theorem gX0_replace_X0_isLive : GoodIn wsX0_replace (wsV RX0 83 RX0 yX0_isLive wsX0_isLive) := goodIn_app (goodIn_of _ (by decide +kernel)) ggX0_replace_X0_isLive
set_option maxRecDepth 20000 in
theorem ggX0_replace_X0_setKindOfAll : GoodIn wsX0_replace wsX0_setKindOfAll := goodIn_r _ [22, 16, 17, 4, 18, 23, 24, 25, 26, 27, 15, 28, 29, 30, 31, 32, 33, 34, 35, 36, 37, 38, 39] (by decide +kernel) (by decide +kernel)
set_option maxRecDepth 20000 in
theorem gX0_replace_X0_setKindOfAll : GoodIn wsX0_replace (wsV RX0 137 RX0 yX0_setKindOfAll wsX0_setKindOfAll) := goodIn_app (goodIn_of _ (by decide +kernel)) ggX0_replace_X0_setKindOfAll
set_option maxRecDepth 20000 in
theorem ggX0_corrupt_X0_isCell : GoodIn wsX0_corrupt wsX0_isCell := goodIn_r _ [7, 8, 9, 6, 10] (by decide +kernel) (by decide +kernel)
set_option maxRecDepth 20000 in
theorem gX0_corrupt_X0_isCell : GoodIn wsX0_corrupt (va_wsS RX0 76 yX0_isCell wsX0_isCell) := goodIn_app (goodIn_of _ (by decide +kernel)) ggX0_corrupt_X0_isCell
set_option maxRecDepth 20000 in
theorem ggX0_corrupt_X0_isCount : GoodIn wsX0_corrupt wsX0_isCount := goodIn_r _ [13] (by decide +kernel) (by decide +kernel)
set_option maxRecDepth 20000 in
theorem gX0_corrupt_X0_isCount : GoodIn wsX0_corrupt (va_wsS RX0 56 yX0_isCount wsX0_isCount) := goodIn_app (goodIn_of _ (by decide +kernel)) ggX0_corrupt_X0_isCount
set_option maxRecDepth 20000 in
theorem ggX0_corrupt_X0_spotOf : GoodIn wsX0_corrupt wsX0_spotOf := goodIn_r _ [16] (by decide +kernel) (by decide +kernel)
set_option maxRecDepth 20000 in
theorem gX0_corrupt_X0_spotOf : GoodIn wsX0_corrupt (va_wsS RX0 92 yX0_spotOf wsX0_spotOf) := goodIn_app (goodIn_of _ (by decide +kernel)) ggX0_corrupt_X0_spotOf
set_option maxRecDepth 20000 in
theorem ggX0_corrupt_X0_hasBytes : GoodIn wsX0_corrupt wsX0_hasBytes := goodIn_r _ [20, 21, 49, 50, 51, 52, 53, 54, 55, 56, 57, 58, 59, 60] (by decide +kernel) (by decide +kernel)
set_option maxRecDepth 20000 in
theorem gX0_corrupt_X0_hasBytes : GoodIn wsX0_corrupt (wsV RX0 128 RX0 yX0_hasBytes wsX0_hasBytes) := goodIn_app (goodIn_of _ (by decide +kernel)) ggX0_corrupt_X0_hasBytes
set_option maxRecDepth 20000 in
theorem ggX0_corrupt_X0_turnBytes : GoodIn wsX0_corrupt wsX0_turnBytes := goodIn_r _ [24, 25] (by decide +kernel) (by decide +kernel)
set_option maxRecDepth 20000 in
theorem gX0_corrupt_X0_turnBytes : GoodIn wsX0_corrupt (va_wsS RX0 72 yX0_turnBytes wsX0_turnBytes) := goodIn_app (goodIn_of _ (by decide +kernel)) ggX0_corrupt_X0_turnBytes
set_option maxRecDepth 20000 in
theorem ggX0_corrupt_X0_isAsWritten : GoodIn wsX0_corrupt wsX0_isAsWritten := goodIn_r _ [29, 3, 30, 49, 50, 51, 52, 53, 54, 55, 56, 57, 58, 59, 60] (by decide +kernel) (by decide +kernel)
set_option maxRecDepth 20000 in
theorem gX0_corrupt_X0_isAsWritten : GoodIn wsX0_corrupt (wsV RX0 142 RX0 yX0_isAsWritten wsX0_isAsWritten) := goodIn_app (goodIn_of _ (by decide +kernel)) ggX0_corrupt_X0_isAsWritten
set_option maxRecDepth 20000 in
theorem ggX0_corrupt_X0_setKind : GoodIn wsX0_corrupt wsX0_setKind := goodIn_r _ [34, 35, 21, 49, 50, 51, 52, 53, 54, 55, 56, 57, 58, 59, 60] (by decide +kernel) (by decide +kernel)
set_option maxRecDepth 20000 in
theorem gX0_corrupt_X0_setKind : GoodIn wsX0_corrupt (wsV RX0 145 RX0 yX0_setKind wsX0_setKind) := goodIn_app (goodIn_of _ (by decide +kernel)) ggX0_corrupt_X0_setKind
set_option maxRecDepth 20000 in
theorem ggX0_corrupt_X0_hasItsCheck : GoodIn wsX0_corrupt wsX0_hasItsCheck := goodIn_r _ [39, 3, 40, 41, 42, 6, 43, 44, 45, 46, 47, 48, 49, 50, 51, 52, 53, 54, 55, 56, 57, 58, 59, 60] (by decide +kernel) (by decide +kernel)
set_option maxRecDepth 20000 in
theorem gX0_corrupt_X0_hasItsCheck : GoodIn wsX0_corrupt (wsV RX0 148 RX0 yX0_hasItsCheck wsX0_hasItsCheck) := goodIn_app (goodIn_of _ (by decide +kernel)) ggX0_corrupt_X0_hasItsCheck
set_option maxRecDepth 20000 in
theorem ggX0_isCell_X0_isDisk : GoodIn wsX0_isCell wsX0_isDisk := goodIn_r _ [4] (by decide +kernel) (by decide +kernel)
set_option maxRecDepth 20000 in
theorem gX0_isCell_X0_isDisk : GoodIn wsX0_isCell (va_wsS RX0 157 yX0_isDisk wsX0_isDisk) := goodIn_app (goodIn_of _ (by decide +kernel)) ggX0_isCell_X0_isDisk
set_option maxRecDepth 20000 in
theorem ggX0_needDisk_X0_isDisk : GoodIn wsX0_needDisk wsX0_isDisk := goodIn_r _ [6] (by decide +kernel) (by decide +kernel)
set_option maxRecDepth 20000 in
theorem gX0_needDisk_X0_isDisk : GoodIn wsX0_needDisk (va_wsS RX0 157 yX0_isDisk wsX0_isDisk) := goodIn_app (goodIn_of _ (by decide +kernel)) ggX0_needDisk_X0_isDisk
set_option maxRecDepth 20000 in
theorem ggX0_needCell_X0_isCell : GoodIn wsX0_needCell wsX0_isCell := goodIn_r _ [6, 7, 8, 5, 9] (by decide +kernel) (by decide +kernel)
set_option maxRecDepth 20000 in
theorem gX0_needCell_X0_isCell : GoodIn wsX0_needCell (va_wsS RX0 76 yX0_isCell wsX0_isCell) := goodIn_app (goodIn_of _ (by decide +kernel)) ggX0_needCell_X0_isCell
set_option maxRecDepth 20000 in
theorem ggX0_isLive_X0_spotOf : GoodIn wsX0_isLive wsX0_spotOf := goodIn_r _ [5] (by decide +kernel) (by decide +kernel)
set_option maxRecDepth 20000 in
theorem gX0_isLive_X0_spotOf : GoodIn wsX0_isLive (va_wsS RX0 92 yX0_spotOf wsX0_spotOf) := goodIn_app (goodIn_of _ (by decide +kernel)) ggX0_isLive_X0_spotOf
set_option maxRecDepth 20000 in
theorem ggX0_setKindOfAll_X0_spotOf : GoodIn wsX0_setKindOfAll wsX0_spotOf := goodIn_r _ [4] (by decide +kernel) (by decide +kernel)
set_option maxRecDepth 20000 in
theorem gX0_setKindOfAll_X0_spotOf : GoodIn wsX0_setKindOfAll (va_wsS RX0 92 yX0_spotOf wsX0_spotOf) := goodIn_app (goodIn_of _ (by decide +kernel)) ggX0_setKindOfAll_X0_spotOf
set_option maxRecDepth 20000 in
theorem ggX0_setKindOfAll_X0_setKind : GoodIn wsX0_setKindOfAll wsX0_setKind := goodIn_r _ [8, 9, 10, 11, 12, 13, 14, 15, 16, 17, 18, 19, 20, 21, 22] (by decide +kernel) (by decide +kernel)
set_option maxRecDepth 20000 in
theorem gX0_setKindOfAll_X0_setKind : GoodIn wsX0_setKindOfAll (wsV RX0 145 RX0 yX0_setKind wsX0_setKind) := goodIn_app (goodIn_of _ (by decide +kernel)) ggX0_setKindOfAll_X0_setKind
set_option maxRecDepth 20000 in
theorem ggX0_putTape_X0_checkOf : GoodIn wsX0_putTape wsX0_checkOf := goodIn_r _ [12, 13, 2, 14, 15, 16, 11, 17, 24, 25, 26, 27, 28, 29, 30, 31, 32, 33, 34, 35] (by decide +kernel) (by decide +kernel)
set_option maxRecDepth 20000 in
theorem gX0_putTape_X0_checkOf : GoodIn wsX0_putTape (wsV RX0 164 RX0 yX0_checkOf wsX0_checkOf) := goodIn_app (goodIn_of _ (by decide +kernel)) ggX0_putTape_X0_checkOf
set_option maxRecDepth 20000 in
theorem ggX0_putTape_X0_setKind : GoodIn wsX0_putTape wsX0_setKind := goodIn_r _ [21, 22, 23, 24, 25, 26, 27, 28, 29, 30, 31, 32, 33, 34, 35] (by decide +kernel) (by decide +kernel)
set_option maxRecDepth 20000 in
theorem gX0_putTape_X0_setKind : GoodIn wsX0_putTape (wsV RX0 145 RX0 yX0_setKind wsX0_setKind) := goodIn_app (goodIn_of _ (by decide +kernel)) ggX0_putTape_X0_setKind
set_option maxRecDepth 20000 in
theorem ggX0_clearTape_J7_fill_d0a16 : GoodIn wsX0_clearTape wsJ7_fill_d0a16 := goodIn_r _ [6] (by decide +kernel) (by decide +kernel)
set_option maxRecDepth 20000 in
theorem gX0_clearTape_J7_fill_d0a16 : GoodIn wsX0_clearTape (va_wsS RX0 168 yJ7_fill_d0a16 wsJ7_fill_d0a16) := goodIn_app (goodIn_of _ (by decide +kernel)) ggX0_clearTape_J7_fill_d0a16
set_option maxRecDepth 20000 in
theorem ggX0_hasItsCheck_X0_checkOf : GoodIn wsX0_hasItsCheck wsX0_checkOf := goodIn_r _ [6, 7, 1, 8, 9, 10, 5, 11, 12, 13, 14, 15, 16, 17, 18, 19, 20, 21, 22, 23] (by decide +kernel) (by decide +kernel)
set_option maxRecDepth 20000 in
theorem gX0_hasItsCheck_X0_checkOf : GoodIn wsX0_hasItsCheck (wsV RX0 164 RX0 yX0_checkOf wsX0_checkOf) := goodIn_app (goodIn_of _ (by decide +kernel)) ggX0_hasItsCheck_X0_checkOf
set_option maxRecDepth 20000 in
theorem ggX0_checkOf_X0_byteOf : GoodIn wsX0_checkOf wsX0_byteOf := goodIn_r _ [7] (by decide +kernel) (by decide +kernel)
set_option maxRecDepth 20000 in
theorem gX0_checkOf_X0_byteOf : GoodIn wsX0_checkOf (va_wsS RX0 122 yX0_byteOf wsX0_byteOf) := goodIn_app (goodIn_of _ (by decide +kernel)) ggX0_checkOf_X0_byteOf
set_option maxRecDepth 20000 in
theorem ggX1_none_X1_within : GoodIn wsX1_none wsX1_within := goodIn_r _ [4] (by decide +kernel) (by decide +kernel)
set_option maxRecDepth 20000 in
theorem gX1_none_X1_within : GoodIn wsX1_none (va_wsS RX1 44 yX1_within wsX1_within) := goodIn_app (goodIn_of _ (by decide +kernel)) ggX1_none_X1_within
set_option maxRecDepth 20000 in
theorem ggX1_check_X1_spread : GoodIn wsX1_check wsX1_spread := goodIn_r _ [7, 2, 13, 14, 15, 16, 17, 18, 19, 20, 21, 22, 23, 24, 25] (by decide +kernel) (by decide +kernel)
set_option maxRecDepth 20000 in
theorem gX1_check_X1_spread : GoodIn wsX1_check (wsV RX1 50 RX1 yX1_spread wsX1_spread) := goodIn_app (goodIn_of _ (by decide +kernel)) ggX1_check_X1_spread
set_option maxRecDepth 20000 in
theorem ggX1_check_X1_divide : GoodIn wsX1_check wsX1_divide := goodIn_r _ [11, 2, 12, 13, 14, 15, 16, 17, 18, 19, 20, 21, 22, 23, 24, 25] (by decide +kernel) (by decide +kernel)
set_option maxRecDepth 20000 in
theorem gX1_check_X1_divide : GoodIn wsX1_check (wsV RX1 54 RX1 yX1_divide wsX1_divide) := goodIn_app (goodIn_of _ (by decide +kernel)) ggX1_check_X1_divide
set_option maxRecDepth 20000 in
theorem ggX1_isUnseen_X1_spread : GoodIn wsX1_isUnseen wsX1_spread := goodIn_r _ [7, 2, 13, 14, 15, 16, 17, 18, 19, 20, 21, 22, 23, 24, 25] (by decide +kernel) (by decide +kernel)
set_option maxRecDepth 20000 in
theorem gX1_isUnseen_X1_spread : GoodIn wsX1_isUnseen (wsV RX1 50 RX1 yX1_spread wsX1_spread) := goodIn_app (goodIn_of _ (by decide +kernel)) ggX1_isUnseen_X1_spread
set_option maxRecDepth 20000 in
theorem ggX1_isUnseen_X1_divide : GoodIn wsX1_isUnseen wsX1_divide := goodIn_r _ [11, 2, 12, 13, 14, 15, 16, 17, 18, 19, 20, 21, 22, 23, 24, 25] (by decide +kernel) (by decide +kernel)
set_option maxRecDepth 20000 in
theorem gX1_isUnseen_X1_divide : GoodIn wsX1_isUnseen (wsV RX1 54 RX1 yX1_divide wsX1_divide) := goodIn_app (goodIn_of _ (by decide +kernel)) ggX1_isUnseen_X1_divide
set_option maxRecDepth 20000 in
theorem ggX1_stateOf_X1_spot : GoodIn wsX1_stateOf wsX1_spot := goodIn_r _ [6] (by decide +kernel) (by decide +kernel)
set_option maxRecDepth 20000 in
theorem gX1_stateOf_X1_spot : GoodIn wsX1_stateOf (va_wsS RX1 58 yX1_spot wsX1_spot) := goodIn_app (goodIn_of _ (by decide +kernel)) ggX1_stateOf_X1_spot
set_option maxRecDepth 20000 in
theorem ggX1_stateOf_X1_isDamaged : GoodIn wsX1_stateOf wsX1_isDamaged := goodIn_r _ [10, 11, 12, 13, 14, 15, 16, 17, 18, 19, 20, 21, 22, 23, 24] (by decide +kernel) (by decide +kernel)
set_option maxRecDepth 20000 in
theorem gX1_stateOf_X1_isDamaged : GoodIn wsX1_stateOf (wsV RX1 62 RX1 yX1_isDamaged wsX1_isDamaged) := goodIn_app (goodIn_of _ (by decide +kernel)) ggX1_stateOf_X1_isDamaged
set_option maxRecDepth 20000 in
theorem ggX1_feed_X1_within : GoodIn wsX1_feed wsX1_within := goodIn_r _ [7] (by decide +kernel) (by decide +kernel)
set_option maxRecDepth 20000 in
theorem gX1_feed_X1_within : GoodIn wsX1_feed (va_wsS RX1 44 yX1_within wsX1_within) := goodIn_app (goodIn_of _ (by decide +kernel)) ggX1_feed_X1_within
set_option maxRecDepth 20000 in
theorem ggX1_feed_X1_fails : GoodIn wsX1_feed wsX1_fails := goodIn_r _ [11, 12, 13, 14, 15, 16, 17, 18, 19, 20, 21, 22, 23, 24, 25] (by decide +kernel) (by decide +kernel)
set_option maxRecDepth 20000 in
theorem gX1_feed_X1_fails : GoodIn wsX1_feed (wsV RX1 66 RX1 yX1_fails wsX1_fails) := goodIn_app (goodIn_of _ (by decide +kernel)) ggX1_feed_X1_fails
set_option maxRecDepth 20000 in
theorem ggX1_write_X1_none : GoodIn wsX1_write wsX1_none := goodIn_r _ [14, 15, 16, 13, 17] (by decide +kernel) (by decide +kernel)
set_option maxRecDepth 20000 in
theorem gX1_write_X1_none : GoodIn wsX1_write (va_wsS RX1 75 yX1_none wsX1_none) := goodIn_app (goodIn_of _ (by decide +kernel)) ggX1_write_X1_none
set_option maxRecDepth 20000 in
theorem ggX1_write_X1_within : GoodIn wsX1_write wsX1_within := goodIn_r _ [17] (by decide +kernel) (by decide +kernel)
set_option maxRecDepth 20000 in
theorem gX1_write_X1_within : GoodIn wsX1_write (va_wsS RX1 44 yX1_within wsX1_within) := goodIn_app (goodIn_of _ (by decide +kernel)) ggX1_write_X1_within
set_option maxRecDepth 20000 in
theorem ggX1_write_X1_fails : GoodIn wsX1_write wsX1_fails := goodIn_r _ [21, 22, 40, 41, 42, 43, 44, 45, 46, 47, 48, 49, 50, 51, 52] (by decide +kernel) (by decide +kernel)
set_option maxRecDepth 20000 in
theorem gX1_write_X1_fails : GoodIn wsX1_write (wsV RX1 66 RX1 yX1_fails wsX1_fails) := goodIn_app (goodIn_of _ (by decide +kernel)) ggX1_write_X1_fails
set_option maxRecDepth 20000 in
theorem ggX1_write_X1_spot : GoodIn wsX1_write wsX1_spot := goodIn_r _ [25] (by decide +kernel) (by decide +kernel)
set_option maxRecDepth 20000 in
theorem gX1_write_X1_spot : GoodIn wsX1_write (va_wsS RX1 58 yX1_spot wsX1_spot) := goodIn_app (goodIn_of _ (by decide +kernel)) ggX1_write_X1_spot
set_option maxRecDepth 20000 in
theorem ggX1_write_X1_check : GoodIn wsX1_write wsX1_check := goodIn_r _ [29, 9, 30, 31, 32, 33, 13, 34, 35, 36, 37, 38, 39, 40, 41, 42, 43, 44, 45, 46, 47, 48, 49, 50, 51, 52] (by decide +kernel) (by decide +kernel)
set_option maxRecDepth 20000 in
theorem gX1_write_X1_check : GoodIn wsX1_write (wsV RX1 87 RX1 yX1_check wsX1_check) := goodIn_app (goodIn_of _ (by decide +kernel)) ggX1_write_X1_check
set_option maxRecDepth 20000 in
theorem ggX1_read_X1_none : GoodIn wsX1_read wsX1_none := goodIn_r _ [6, 7, 8, 5, 9] (by decide +kernel) (by decide +kernel)
set_option maxRecDepth 20000 in
theorem gX1_read_X1_none : GoodIn wsX1_read (va_wsS RX1 75 yX1_none wsX1_none) := goodIn_app (goodIn_of _ (by decide +kernel)) ggX1_read_X1_none
set_option maxRecDepth 20000 in
theorem ggX1_read_X1_fails : GoodIn wsX1_read wsX1_fails := goodIn_r _ [13, 14, 34, 35, 36, 37, 38, 39, 40, 41, 42, 43, 44, 45, 46] (by decide +kernel) (by decide +kernel)
set_option maxRecDepth 20000 in
theorem gX1_read_X1_fails : GoodIn wsX1_read (wsV RX1 66 RX1 yX1_fails wsX1_fails) := goodIn_app (goodIn_of _ (by decide +kernel)) ggX1_read_X1_fails
set_option maxRecDepth 20000 in
theorem ggX1_read_X1_stateOf : GoodIn wsX1_read wsX1_stateOf := goodIn_r _ [18, 19, 20, 21, 22, 5, 23, 24, 25, 26, 27, 28, 34, 35, 36, 37, 38, 39, 40, 41, 42, 43, 44, 45, 46] (by decide +kernel) (by decide +kernel)
set_option maxRecDepth 20000 in
theorem gX1_read_X1_stateOf : GoodIn wsX1_read (wsV RX1 93 RX1 yX1_stateOf wsX1_stateOf) := goodIn_app (goodIn_of _ (by decide +kernel)) ggX1_read_X1_stateOf
set_option maxRecDepth 20000 in
theorem ggX1_read_X1_spot : GoodIn wsX1_read wsX1_spot := goodIn_r _ [23] (by decide +kernel) (by decide +kernel)
set_option maxRecDepth 20000 in
theorem gX1_read_X1_spot : GoodIn wsX1_read (va_wsS RX1 58 yX1_spot wsX1_spot) := goodIn_app (goodIn_of _ (by decide +kernel)) ggX1_read_X1_spot
set_option maxRecDepth 20000 in
theorem ggX1_read_X1_byteAt : GoodIn wsX1_read wsX1_byteAt := goodIn_r _ [32, 33, 28, 34, 35, 36, 37, 38, 39, 40, 41, 42, 43, 44, 45, 46] (by decide +kernel) (by decide +kernel)
set_option maxRecDepth 20000 in
theorem gX1_read_X1_byteAt : GoodIn wsX1_read (wsV RX1 96 RX1 yX1_byteAt wsX1_byteAt) := goodIn_app (goodIn_of _ (by decide +kernel)) ggX1_read_X1_byteAt
set_option maxRecDepth 20000 in
theorem ggX1_outs_X1_fails : GoodIn wsX1_outs wsX1_fails := goodIn_r _ [7, 8, 9, 10, 11, 12, 13, 14, 15, 16, 17, 18, 19, 20, 21] (by decide +kernel) (by decide +kernel)
set_option maxRecDepth 20000 in
theorem gX1_outs_X1_fails : GoodIn wsX1_outs (wsV RX1 66 RX1 yX1_fails wsX1_fails) := goodIn_app (goodIn_of _ (by decide +kernel)) ggX1_outs_X1_fails
set_option maxRecDepth 20000 in
theorem ggX1_tag_X1_none : GoodIn wsX1_tag wsX1_none := goodIn_r _ [4, 5, 6, 3, 7] (by decide +kernel) (by decide +kernel)
set_option maxRecDepth 20000 in
theorem gX1_tag_X1_none : GoodIn wsX1_tag (va_wsS RX1 75 yX1_none wsX1_none) := goodIn_app (goodIn_of _ (by decide +kernel)) ggX1_tag_X1_none
set_option maxRecDepth 20000 in
theorem ggX1_tag_X1_fails : GoodIn wsX1_tag wsX1_fails := goodIn_r _ [11, 12, 32, 33, 34, 35, 36, 37, 38, 39, 40, 41, 42, 43, 44] (by decide +kernel) (by decide +kernel)
set_option maxRecDepth 20000 in
theorem gX1_tag_X1_fails : GoodIn wsX1_tag (wsV RX1 66 RX1 yX1_fails wsX1_fails) := goodIn_app (goodIn_of _ (by decide +kernel)) ggX1_tag_X1_fails
set_option maxRecDepth 20000 in
theorem ggX1_tag_X1_spot : GoodIn wsX1_tag wsX1_spot := goodIn_r _ [15] (by decide +kernel) (by decide +kernel)
set_option maxRecDepth 20000 in
theorem gX1_tag_X1_spot : GoodIn wsX1_tag (va_wsS RX1 58 yX1_spot wsX1_spot) := goodIn_app (goodIn_of _ (by decide +kernel)) ggX1_tag_X1_spot
set_option maxRecDepth 20000 in
theorem ggX1_tag_X1_stateOf : GoodIn wsX1_tag wsX1_stateOf := goodIn_r _ [19, 20, 21, 13, 14, 3, 15, 22, 23, 24, 25, 26, 32, 33, 34, 35, 36, 37, 38, 39, 40, 41, 42, 43, 44] (by decide +kernel) (by decide +kernel)
set_option maxRecDepth 20000 in
theorem gX1_tag_X1_stateOf : GoodIn wsX1_tag (wsV RX1 93 RX1 yX1_stateOf wsX1_stateOf) := goodIn_app (goodIn_of _ (by decide +kernel)) ggX1_tag_X1_stateOf
set_option maxRecDepth 20000 in
theorem ggX1_tag_X1_byteAt : GoodIn wsX1_tag wsX1_byteAt := goodIn_r _ [30, 31, 26, 32, 33, 34, 35, 36, 37, 38, 39, 40, 41, 42, 43, 44] (by decide +kernel) (by decide +kernel)
set_option maxRecDepth 20000 in
theorem gX1_tag_X1_byteAt : GoodIn wsX1_tag (wsV RX1 96 RX1 yX1_byteAt wsX1_byteAt) := goodIn_app (goodIn_of _ (by decide +kernel)) ggX1_tag_X1_byteAt
set_option maxRecDepth 20000 in
theorem ggX1_cell_X1_none : GoodIn wsX1_cell wsX1_none := goodIn_r _ [4, 5, 6, 3, 7] (by decide +kernel) (by decide +kernel)
set_option maxRecDepth 20000 in
theorem gX1_cell_X1_none : GoodIn wsX1_cell (va_wsS RX1 75 yX1_none wsX1_none) := goodIn_app (goodIn_of _ (by decide +kernel)) ggX1_cell_X1_none
set_option maxRecDepth 20000 in
theorem ggX1_cell_X1_fails : GoodIn wsX1_cell wsX1_fails := goodIn_r _ [11, 12, 27, 28, 29, 30, 31, 32, 33, 34, 35, 36, 37, 38, 39] (by decide +kernel) (by decide +kernel)
set_option maxRecDepth 20000 in
theorem gX1_cell_X1_fails : GoodIn wsX1_cell (wsV RX1 66 RX1 yX1_fails wsX1_fails) := goodIn_app (goodIn_of _ (by decide +kernel)) ggX1_cell_X1_fails
set_option maxRecDepth 20000 in
theorem ggX1_cell_X1_stateOf : GoodIn wsX1_cell wsX1_stateOf := goodIn_r _ [16, 17, 18, 19, 20, 3, 21, 22, 23, 24, 25, 26, 27, 28, 29, 30, 31, 32, 33, 34, 35, 36, 37, 38, 39] (by decide +kernel) (by decide +kernel)
set_option maxRecDepth 20000 in
theorem gX1_cell_X1_stateOf : GoodIn wsX1_cell (wsV RX1 93 RX1 yX1_stateOf wsX1_stateOf) := goodIn_app (goodIn_of _ (by decide +kernel)) ggX1_cell_X1_stateOf
set_option maxRecDepth 20000 in
theorem ggX1_at_X1_none : GoodIn wsX1_at wsX1_none := goodIn_r _ [4, 5, 6, 3, 7] (by decide +kernel) (by decide +kernel)
set_option maxRecDepth 20000 in
theorem gX1_at_X1_none : GoodIn wsX1_at (va_wsS RX1 75 yX1_none wsX1_none) := goodIn_app (goodIn_of _ (by decide +kernel)) ggX1_at_X1_none
set_option maxRecDepth 20000 in
theorem ggX1_at_X1_fails : GoodIn wsX1_at wsX1_fails := goodIn_r _ [11, 12, 32, 33, 34, 35, 36, 37, 38, 39, 40, 41, 42, 43, 44] (by decide +kernel) (by decide +kernel)
set_option maxRecDepth 20000 in
theorem gX1_at_X1_fails : GoodIn wsX1_at (wsV RX1 66 RX1 yX1_fails wsX1_fails) := goodIn_app (goodIn_of _ (by decide +kernel)) ggX1_at_X1_fails
set_option maxRecDepth 20000 in
theorem ggX1_at_X1_stateOf : GoodIn wsX1_at wsX1_stateOf := goodIn_r _ [16, 17, 18, 19, 20, 3, 21, 22, 23, 24, 25, 26, 32, 33, 34, 35, 36, 37, 38, 39, 40, 41, 42, 43, 44] (by decide +kernel) (by decide +kernel)
set_option maxRecDepth 20000 in
theorem gX1_at_X1_stateOf : GoodIn wsX1_at (wsV RX1 93 RX1 yX1_stateOf wsX1_stateOf) := goodIn_app (goodIn_of _ (by decide +kernel)) ggX1_at_X1_stateOf
set_option maxRecDepth 20000 in
theorem ggX1_at_X1_within : GoodIn wsX1_at wsX1_within := goodIn_r _ [7] (by decide +kernel) (by decide +kernel)
set_option maxRecDepth 20000 in
theorem gX1_at_X1_within : GoodIn wsX1_at (va_wsS RX1 44 yX1_within wsX1_within) := goodIn_app (goodIn_of _ (by decide +kernel)) ggX1_at_X1_within
set_option maxRecDepth 20000 in
theorem ggX1_at_X1_spot : GoodIn wsX1_at wsX1_spot := goodIn_r _ [21] (by decide +kernel) (by decide +kernel)
set_option maxRecDepth 20000 in
theorem gX1_at_X1_spot : GoodIn wsX1_at (va_wsS RX1 58 yX1_spot wsX1_spot) := goodIn_app (goodIn_of _ (by decide +kernel)) ggX1_at_X1_spot
set_option maxRecDepth 20000 in
theorem ggX1_at_X1_byteAt : GoodIn wsX1_at wsX1_byteAt := goodIn_r _ [30, 31, 26, 32, 33, 34, 35, 36, 37, 38, 39, 40, 41, 42, 43, 44] (by decide +kernel) (by decide +kernel)
set_option maxRecDepth 20000 in
theorem gX1_at_X1_byteAt : GoodIn wsX1_at (wsV RX1 96 RX1 yX1_byteAt wsX1_byteAt) := goodIn_app (goodIn_of _ (by decide +kernel)) ggX1_at_X1_byteAt
set_option maxRecDepth 20000 in
theorem ggX1_noDisk_X1_within : GoodIn wsX1_noDisk wsX1_within := goodIn_r _ [4] (by decide +kernel) (by decide +kernel)
set_option maxRecDepth 20000 in
theorem gX1_noDisk_X1_within : GoodIn wsX1_noDisk (va_wsS RX1 44 yX1_within wsX1_within) := goodIn_app (goodIn_of _ (by decide +kernel)) ggX1_noDisk_X1_within
set_option maxRecDepth 20000 in
theorem ggX1_fail_X1_noDisk : GoodIn wsX1_fail wsX1_noDisk := goodIn_r _ [5, 6, 7, 4, 8] (by decide +kernel) (by decide +kernel)
set_option maxRecDepth 20000 in
theorem gX1_fail_X1_noDisk : GoodIn wsX1_fail (va_wsS RX1 99 yX1_noDisk wsX1_noDisk) := goodIn_app (goodIn_of _ (by decide +kernel)) ggX1_fail_X1_noDisk
set_option maxRecDepth 20000 in
theorem ggX1_fail_X1_fails : GoodIn wsX1_fail wsX1_fails := goodIn_r _ [12, 13, 14, 15, 16, 17, 18, 19, 20, 21, 22, 23, 24, 25, 26] (by decide +kernel) (by decide +kernel)
set_option maxRecDepth 20000 in
theorem gX1_fail_X1_fails : GoodIn wsX1_fail (wsV RX1 66 RX1 yX1_fails wsX1_fails) := goodIn_app (goodIn_of _ (by decide +kernel)) ggX1_fail_X1_fails
set_option maxRecDepth 20000 in
theorem ggX1_replace_X1_noDisk : GoodIn wsX1_replace wsX1_noDisk := goodIn_r _ [6, 7, 8, 5, 9] (by decide +kernel) (by decide +kernel)
set_option maxRecDepth 20000 in
theorem gX1_replace_X1_noDisk : GoodIn wsX1_replace (va_wsS RX1 99 yX1_noDisk wsX1_noDisk) := goodIn_app (goodIn_of _ (by decide +kernel)) ggX1_replace_X1_noDisk
set_option maxRecDepth 20000 in
theorem ggX1_replace_X1_fails : GoodIn wsX1_replace wsX1_fails := goodIn_r _ [13, 14, 18, 19, 20, 21, 22, 23, 24, 25, 26, 27, 28, 29, 30] (by decide +kernel) (by decide +kernel)
set_option maxRecDepth 20000 in
theorem gX1_replace_X1_fails : GoodIn wsX1_replace (wsV RX1 66 RX1 yX1_fails wsX1_fails) := goodIn_app (goodIn_of _ (by decide +kernel)) ggX1_replace_X1_fails
set_option maxRecDepth 20000 in
theorem ggX1_replace_X1_spot : GoodIn wsX1_replace wsX1_spot := goodIn_r _ [17] (by decide +kernel) (by decide +kernel)
set_option maxRecDepth 20000 in
theorem gX1_replace_X1_spot : GoodIn wsX1_replace (va_wsS RX1 58 yX1_spot wsX1_spot) := goodIn_app (goodIn_of _ (by decide +kernel)) ggX1_replace_X1_spot
set_option maxRecDepth 20000 in
theorem ggX1_corrupt_X1_none : GoodIn wsX1_corrupt wsX1_none := goodIn_r _ [4, 5, 6, 3, 7] (by decide +kernel) (by decide +kernel)
set_option maxRecDepth 20000 in
theorem gX1_corrupt_X1_none : GoodIn wsX1_corrupt (va_wsS RX1 75 yX1_none wsX1_none) := goodIn_app (goodIn_of _ (by decide +kernel)) ggX1_corrupt_X1_none
set_option maxRecDepth 20000 in
theorem ggX1_corrupt_X1_within : GoodIn wsX1_corrupt wsX1_within := goodIn_r _ [7] (by decide +kernel) (by decide +kernel)
set_option maxRecDepth 20000 in
theorem gX1_corrupt_X1_within : GoodIn wsX1_corrupt (va_wsS RX1 44 yX1_within wsX1_within) := goodIn_app (goodIn_of _ (by decide +kernel)) ggX1_corrupt_X1_within
set_option maxRecDepth 20000 in
theorem ggX1_corrupt_X1_fails : GoodIn wsX1_corrupt wsX1_fails := goodIn_r _ [11, 12, 45, 46, 47, 48, 49, 50, 51, 52, 53, 54, 55, 56, 57] (by decide +kernel) (by decide +kernel)
set_option maxRecDepth 20000 in
theorem gX1_corrupt_X1_fails : GoodIn wsX1_corrupt (wsV RX1 66 RX1 yX1_fails wsX1_fails) := goodIn_app (goodIn_of _ (by decide +kernel)) ggX1_corrupt_X1_fails
set_option maxRecDepth 20000 in
theorem ggX1_corrupt_X1_stateOf : GoodIn wsX1_corrupt wsX1_stateOf := goodIn_r _ [16, 17, 18, 19, 20, 3, 21, 22, 23, 24, 25, 26, 45, 46, 47, 48, 49, 50, 51, 52, 53, 54, 55, 56, 57] (by decide +kernel) (by decide +kernel)
set_option maxRecDepth 20000 in
theorem gX1_corrupt_X1_stateOf : GoodIn wsX1_corrupt (wsV RX1 93 RX1 yX1_stateOf wsX1_stateOf) := goodIn_app (goodIn_of _ (by decide +kernel)) ggX1_corrupt_X1_stateOf
set_option maxRecDepth 20000 in
theorem ggX1_corrupt_X1_spot : GoodIn wsX1_corrupt wsX1_spot := goodIn_r _ [21] (by decide +kernel) (by decide +kernel)
set_option maxRecDepth 20000 in
theorem gX1_corrupt_X1_spot : GoodIn wsX1_corrupt (va_wsS RX1 58 yX1_spot wsX1_spot) := goodIn_app (goodIn_of _ (by decide +kernel)) ggX1_corrupt_X1_spot
set_option maxRecDepth 20000 in
theorem ggX1_corrupt_X1_strike : GoodIn wsX1_corrupt wsX1_strike := goodIn_r _ [30, 26, 45, 46, 47, 48, 49, 50, 51, 52, 53, 54, 55, 56, 57] (by decide +kernel) (by decide +kernel)
set_option maxRecDepth 20000 in
theorem gX1_corrupt_X1_strike : GoodIn wsX1_corrupt (wsV RX1 102 RX1 yX1_strike wsX1_strike) := goodIn_app (goodIn_of _ (by decide +kernel)) ggX1_corrupt_X1_strike
set_option maxRecDepth 20000 in
theorem ggX1_corrupt_X1_isDamaged : GoodIn wsX1_corrupt wsX1_isDamaged := goodIn_r _ [25, 26, 45, 46, 47, 48, 49, 50, 51, 52, 53, 54, 55, 56, 57] (by decide +kernel) (by decide +kernel)
set_option maxRecDepth 20000 in
theorem gX1_corrupt_X1_isDamaged : GoodIn wsX1_corrupt (wsV RX1 62 RX1 yX1_isDamaged wsX1_isDamaged) := goodIn_app (goodIn_of _ (by decide +kernel)) ggX1_corrupt_X1_isDamaged
set_option maxRecDepth 20000 in
theorem ggX1_corrupt_X1_isUnseen : GoodIn wsX1_corrupt wsX1_isUnseen := goodIn_r _ [34, 26, 35, 36, 37, 38, 3, 39, 40, 41, 42, 43, 44, 45, 46, 47, 48, 49, 50, 51, 52, 53, 54, 55, 56, 57] (by decide +kernel) (by decide +kernel)
set_option maxRecDepth 20000 in
theorem gX1_corrupt_X1_isUnseen : GoodIn wsX1_corrupt (wsV RX1 106 RX1 yX1_isUnseen wsX1_isUnseen) := goodIn_app (goodIn_of _ (by decide +kernel)) ggX1_corrupt_X1_isUnseen
set_option maxRecDepth 20000 in
theorem ggX1_lose_X1_fails : GoodIn wsX1_lose wsX1_fails := goodIn_r _ [7, 8, 9, 10, 11, 12, 13, 14, 15, 16, 17, 18, 19, 20, 21] (by decide +kernel) (by decide +kernel)
set_option maxRecDepth 20000 in
theorem gX1_lose_X1_fails : GoodIn wsX1_lose (wsV RX1 66 RX1 yX1_fails wsX1_fails) := goodIn_app (goodIn_of _ (by decide +kernel)) ggX1_lose_X1_fails
set_option maxRecDepth 20000 in
theorem ggX1_count_X1_stateOf : GoodIn wsX1_count wsX1_stateOf := goodIn_r _ [5, 6, 7, 8, 9, 4, 10, 11, 12, 13, 14, 15, 16, 17, 18, 19, 20, 21, 22, 23, 24, 25, 26, 27, 28] (by decide +kernel) (by decide +kernel)
set_option maxRecDepth 20000 in
theorem gX1_count_X1_stateOf : GoodIn wsX1_count (wsV RX1 93 RX1 yX1_stateOf wsX1_stateOf) := goodIn_app (goodIn_of _ (by decide +kernel)) ggX1_count_X1_stateOf
set_option maxRecDepth 20000 in
theorem ggX1_look_X1_within : GoodIn wsX1_look wsX1_within := goodIn_r _ [8] (by decide +kernel) (by decide +kernel)
set_option maxRecDepth 20000 in
theorem gX1_look_X1_within : GoodIn wsX1_look (va_wsS RX1 44 yX1_within wsX1_within) := goodIn_app (goodIn_of _ (by decide +kernel)) ggX1_look_X1_within
set_option maxRecDepth 20000 in
theorem ggX1_look_X1_fails : GoodIn wsX1_look wsX1_fails := goodIn_r _ [12, 13, 31, 32, 33, 34, 35, 36, 37, 38, 39, 40, 41, 42, 43] (by decide +kernel) (by decide +kernel)
set_option maxRecDepth 20000 in
theorem gX1_look_X1_fails : GoodIn wsX1_look (wsV RX1 66 RX1 yX1_fails wsX1_fails) := goodIn_app (goodIn_of _ (by decide +kernel)) ggX1_look_X1_fails
set_option maxRecDepth 20000 in
theorem ggX1_look_X1_count : GoodIn wsX1_look wsX1_count := goodIn_r _ [17, 18, 19, 20, 7, 21, 4, 22, 23, 24, 25, 26, 27, 28, 29, 30, 31, 32, 33, 34, 35, 36, 37, 38, 39, 40, 41, 42, 43] (by decide +kernel) (by decide +kernel)
set_option maxRecDepth 20000 in
theorem gX1_look_X1_count : GoodIn wsX1_look (wsV RX1 109 RX1 yX1_count wsX1_count) := goodIn_app (goodIn_of _ (by decide +kernel)) ggX1_look_X1_count
set_option maxRecDepth 20000 in
theorem ggL_feed_X0_feed : GoodIn wsL_feed wsX0_feed := goodIn_ca (goodIn_ca (goodIn_r _ [7, 8, 9, 10, 11, 12, 13, 14, 15, 6, 16, 17, 18, 19, 20, 21, 22, 23, 24, 25, 26, 27, 28, 29, 30, 31, 32] (by decide +kernel) (by decide +kernel)) (goodIn_sub (fun _ h => List.mem_cons_of_mem _ (List.mem_append_left _ (List.mem_append_right _ h))) (by decide +kernel))) (goodIn_sub (fun _ h => List.mem_cons_of_mem _ (List.mem_append_right _ h)) (by decide +kernel))
set_option maxRecDepth 20000 in
theorem gL_feed_X0_feed : GoodIn wsL_feed (wsV RL 7 RX0 yX0_feed wsX0_feed) := goodIn_app (goodIn_of _ (by decide +kernel)) ggL_feed_X0_feed
set_option maxRecDepth 20000 in
theorem ggL_write_X0_write : GoodIn wsL_write wsX0_write := goodIn_ca (goodIn_ca (goodIn_r _ [7, 8, 9, 10, 11, 12, 13, 14, 15, 6, 16, 17, 18, 19, 20, 21, 22, 23, 24, 25, 26, 27, 28, 29, 30, 31, 32, 33, 34, 35, 36, 37, 38, 39, 40, 41, 42, 43, 44, 45, 46, 47, 48, 49, 50, 51, 52, 53, 54, 55, 56, 57, 58, 59, 60, 61, 62, 63, 64, 65, 66, 67, 68, 69, 70, 71, 72, 73, 74, 75, 76, 77, 78, 79] (by decide +kernel) (by decide +kernel)) (goodIn_sub (fun _ h => List.mem_cons_of_mem _ (List.mem_append_left _ (List.mem_append_right _ h))) (by decide +kernel))) (goodIn_sub (fun _ h => List.mem_cons_of_mem _ (List.mem_append_right _ h)) (by decide +kernel))
set_option maxRecDepth 20000 in
theorem gL_write_X0_write : GoodIn wsL_write (wsV RL 17 RX0 yX0_write wsX0_write) := goodIn_app (goodIn_of _ (by decide +kernel)) ggL_write_X0_write
set_option maxRecDepth 20000 in
theorem ggL_read_X0_read : GoodIn wsL_read wsX0_read := goodIn_ca (goodIn_r _ [6, 7, 8, 9, 10, 11, 12, 13, 14, 15, 16, 5, 17, 18, 19, 20, 21, 22, 23, 24, 25, 26, 27, 28, 29, 30, 31, 32, 33, 34, 35, 36, 37, 38, 39, 40] (by decide +kernel) (by decide +kernel)) (goodIn_sub (fun _ h => List.mem_cons_of_mem _ (List.mem_append_right _ h)) (by decide +kernel))
set_option maxRecDepth 20000 in
theorem gL_read_X0_read : GoodIn wsL_read (wsV RL 21 RX0 yX0_read wsX0_read) := goodIn_app (goodIn_of _ (by decide +kernel)) ggL_read_X0_read
set_option maxRecDepth 20000 in
theorem ggL_outs_X0_outs : GoodIn wsL_outs wsX0_outs := goodIn_ca (goodIn_r _ [6, 7, 8, 9, 10, 11, 12, 13, 14, 15, 16, 5, 17, 18, 19, 20, 21, 22, 23, 24, 25, 26, 27, 28, 29] (by decide +kernel) (by decide +kernel)) (goodIn_sub (fun _ h => List.mem_cons_of_mem _ (List.mem_append_right _ h)) (by decide +kernel))
set_option maxRecDepth 20000 in
theorem gL_outs_X0_outs : GoodIn wsL_outs (wsV RL 25 RX0 yX0_outs wsX0_outs) := goodIn_app (goodIn_of _ (by decide +kernel)) ggL_outs_X0_outs
set_option maxRecDepth 20000 in
theorem ggL_tag_X0_tag : GoodIn wsL_tag wsX0_tag := goodIn_ca (goodIn_r _ [6, 7, 8, 9, 10, 11, 5, 12, 13, 14, 15, 16, 17, 18, 19, 20, 21, 22, 23, 24, 25, 26, 27, 28, 29, 30, 31, 32, 33, 34, 35] (by decide +kernel) (by decide +kernel)) (goodIn_sub (fun _ h => List.mem_cons_of_mem _ (List.mem_append_right _ h)) (by decide +kernel))
set_option maxRecDepth 20000 in
theorem gL_tag_X0_tag : GoodIn wsL_tag (wsV RL 31 RX0 yX0_tag wsX0_tag) := goodIn_app (goodIn_of _ (by decide +kernel)) ggL_tag_X0_tag
set_option maxRecDepth 20000 in
theorem ggL_cell_X0_cell : GoodIn wsL_cell wsX0_cell := goodIn_ca (goodIn_r _ [6, 7, 8, 9, 5, 10, 11, 12, 13, 14, 15, 16, 17, 18, 19, 20, 21, 22, 23, 24, 25, 26, 27, 28, 29, 30, 31, 32, 33] (by decide +kernel) (by decide +kernel)) (goodIn_sub (fun _ h => List.mem_cons_of_mem _ (List.mem_append_right _ h)) (by decide +kernel))
set_option maxRecDepth 20000 in
theorem gL_cell_X0_cell : GoodIn wsL_cell (wsV RL 35 RX0 yX0_cell wsX0_cell) := goodIn_app (goodIn_of _ (by decide +kernel)) ggL_cell_X0_cell
set_option maxRecDepth 20000 in
theorem ggL_at_X0_at : GoodIn wsL_at wsX0_at := goodIn_ca (goodIn_ca (goodIn_r _ [7, 8, 9, 10, 11, 12, 6, 13, 14, 15, 16, 17, 18, 19, 20, 21, 22, 23, 24, 25, 26, 27, 28, 29, 30, 31, 32, 33, 34, 35, 36, 37, 38, 39, 40, 41, 42, 43, 44] (by decide +kernel) (by decide +kernel)) (goodIn_sub (fun _ h => List.mem_cons_of_mem _ (List.mem_append_left _ (List.mem_append_right _ h))) (by decide +kernel))) (goodIn_sub (fun _ h => List.mem_cons_of_mem _ (List.mem_append_right _ h)) (by decide +kernel))
set_option maxRecDepth 20000 in
theorem gL_at_X0_at : GoodIn wsL_at (wsV RL 38 RX0 yX0_at wsX0_at) := goodIn_app (goodIn_of _ (by decide +kernel)) ggL_at_X0_at
set_option maxRecDepth 20000 in
theorem ggL_fail_X0_fail : GoodIn wsL_fail wsX0_fail := goodIn_ca (goodIn_r _ [6, 7, 8, 9, 5, 10, 11, 12, 13, 14, 15, 16, 17, 18, 19, 20, 21, 22, 23, 24, 25, 26, 27, 28, 29, 30, 31, 32, 33, 34, 35, 36, 37, 38, 39, 40, 41, 42, 43, 44] (by decide +kernel) (by decide +kernel)) (goodIn_sub (fun _ h => List.mem_cons_of_mem _ (List.mem_append_right _ h)) (by decide +kernel))
set_option maxRecDepth 20000 in
theorem gL_fail_X0_fail : GoodIn wsL_fail (wsV RL 42 RX0 yX0_fail wsX0_fail) := goodIn_app (goodIn_of _ (by decide +kernel)) ggL_fail_X0_fail
set_option maxRecDepth 20000 in
theorem ggL_replace_X0_replace : GoodIn wsL_replace wsX0_replace := goodIn_ca (goodIn_r _ [6, 7, 8, 9, 5, 10, 11, 12, 13, 14, 15, 16, 17, 18, 19, 20, 21, 22, 23, 24, 25, 26, 27, 28, 29, 30, 31, 32, 33, 34, 35, 36, 37, 38, 39, 40, 41, 42, 43, 44] (by decide +kernel) (by decide +kernel)) (goodIn_sub (fun _ h => List.mem_cons_of_mem _ (List.mem_append_right _ h)) (by decide +kernel))
set_option maxRecDepth 20000 in
theorem gL_replace_X0_replace : GoodIn wsL_replace (wsV RL 46 RX0 yX0_replace wsX0_replace) := goodIn_app (goodIn_of _ (by decide +kernel)) ggL_replace_X0_replace
set_option maxRecDepth 20000 in
theorem ggL_corrupt_X0_corrupt : GoodIn wsL_corrupt wsX0_corrupt := goodIn_ca (goodIn_r _ [6, 7, 8, 9, 10, 11, 5, 12, 13, 14, 15, 16, 17, 18, 19, 20, 21, 22, 23, 24, 25, 26, 27, 28, 29, 30, 31, 32, 33, 34, 35, 36, 37, 38, 39, 40, 41, 42, 43, 44, 45, 46, 47, 48, 49, 50, 51, 52, 53, 54, 55, 56, 57, 58, 59, 60, 61, 62, 63, 64, 65] (by decide +kernel) (by decide +kernel)) (goodIn_sub (fun _ h => List.mem_cons_of_mem _ (List.mem_append_right _ h)) (by decide +kernel))
set_option maxRecDepth 20000 in
theorem gL_corrupt_X0_corrupt : GoodIn wsL_corrupt (wsV RL 49 RX0 yX0_corrupt wsX0_corrupt) := goodIn_app (goodIn_of _ (by decide +kernel)) ggL_corrupt_X0_corrupt
set_option maxRecDepth 20000 in
theorem ggL_lose_X0_lose : GoodIn wsL_lose wsX0_lose := goodIn_ca (goodIn_ca (goodIn_r _ [7, 8, 9, 10, 11, 12, 13, 14, 15, 16, 17, 18, 19, 20, 21, 22, 23, 24, 25] (by decide +kernel) (by decide +kernel)) (goodIn_sub (fun _ h => List.mem_cons_of_mem _ (List.mem_append_left _ (List.mem_append_right _ h))) (by decide +kernel))) (goodIn_sub (fun _ h => List.mem_cons_of_mem _ (List.mem_append_right _ h)) (by decide +kernel))
set_option maxRecDepth 20000 in
theorem gL_lose_X0_lose : GoodIn wsL_lose (wsV RL 53 RX0 yX0_lose wsX0_lose) := goodIn_app (goodIn_of _ (by decide +kernel)) ggL_lose_X0_lose
set_option maxRecDepth 20000 in
theorem ggL_look_X0_look : GoodIn wsL_look wsX0_look := goodIn_ca (goodIn_r _ [6, 7, 8, 9, 10, 11, 12, 13, 14, 15, 16, 17, 18, 19, 20, 21, 22, 23, 24, 25] (by decide +kernel) (by decide +kernel)) (goodIn_sub (fun _ h => List.mem_cons_of_mem _ (List.mem_append_right _ h)) (by decide +kernel))
set_option maxRecDepth 20000 in
theorem gL_look_X0_look : GoodIn wsL_look (wsV RL 57 RX0 yX0_look wsX0_look) := goodIn_app (goodIn_of _ (by decide +kernel)) ggL_look_X0_look
set_option maxRecDepth 20000 in
theorem ggL_law_X0_init : GoodIn wsL_law wsX0_init := goodIn_r _ [10, 11, 12, 13, 6, 14, 15, 16, 17, 18, 19, 20, 21, 22, 23, 24, 25, 26, 27, 28, 29, 30, 341, 342, 343, 344, 345, 346, 347, 348, 349, 350, 351, 352] (by decide +kernel) (by decide +kernel)
set_option maxRecDepth 20000 in
theorem gL_law_X0_init : GoodIn wsL_law (wsX0_init) := ggL_law_X0_init
set_option maxRecDepth 20000 in
theorem ggL_law_X1_init : GoodIn wsL_law wsX1_init := goodIn_r _ [33, 34, 12, 13, 16, 35, 36, 37, 38, 39, 40, 41, 42, 43, 44, 45, 46, 353, 354, 355, 356, 357, 358, 359, 360, 361, 362, 363, 364, 365] (by decide +kernel) (by decide +kernel)
set_option maxRecDepth 20000 in
theorem gL_law_X1_init : GoodIn wsL_law (wsX1_init) := ggL_law_X1_init
set_option maxRecDepth 20000 in
theorem ggL_law_L_feed : GoodIn wsL_law wsL_feed := goodIn_ca (goodIn_ca (goodIn_r _ [50, 51, 52, 53, 54, 55, 2, 56, 57, 58, 59, 60, 21, 20, 61, 62, 63, 64, 65, 66, 67, 341, 342, 343, 344, 345, 346, 347, 348, 349, 350, 351, 352] (by decide +kernel) (by decide +kernel)) (goodIn_sub (fun _ h => List.mem_append_left _ (List.mem_append_left _ (List.mem_append_right _ h))) (by decide +kernel))) (goodIn_sub (fun _ h => List.mem_append_left _ (List.mem_append_right _ h)) (by decide +kernel))
set_option maxRecDepth 20000 in
theorem gL_law_L_feed : GoodIn wsL_law (va_wsS RL 66 yL_feed wsL_feed) := goodIn_app (goodIn_of _ (by decide +kernel)) ggL_law_L_feed
set_option maxRecDepth 20000 in
theorem ggL_law_X1_feed : GoodIn wsL_law wsX1_feed := goodIn_r _ [71, 72, 35, 73, 74, 75, 5, 76, 77, 78, 79, 80, 81, 353, 354, 355, 356, 357, 358, 359, 360, 361, 362, 363, 364, 365] (by decide +kernel) (by decide +kernel)
set_option maxRecDepth 20000 in
theorem gL_law_X1_feed : GoodIn wsL_law (wsV RL 71 RX1 yX1_feed wsX1_feed) := goodIn_app (goodIn_of _ (by decide +kernel)) ggL_law_X1_feed
set_option maxRecDepth 20000 in
theorem ggL_law_X1_thrown : GoodIn wsL_law wsX1_thrown := goodIn_r _ [85, 81, 353, 354, 355, 356, 357, 358, 359, 360, 361, 362, 363, 364, 365] (by decide +kernel) (by decide +kernel)
set_option maxRecDepth 20000 in
theorem gL_law_X1_thrown : GoodIn wsL_law (wsV RL 72 RX1 yX1_thrown wsX1_thrown) := goodIn_app (goodIn_of _ (by decide +kernel)) ggL_law_X1_thrown
set_option maxRecDepth 20000 in
theorem ggL_law_L_write : GoodIn wsL_law wsL_write := goodIn_ca (goodIn_ca (goodIn_r _ [88, 51, 52, 89, 90, 91, 2, 92, 57, 58, 59, 60, 93, 26, 94, 95, 96, 97, 98, 99, 100, 101, 102, 103, 17, 104, 105, 106, 107, 108, 109, 110, 25, 24, 111, 112, 113, 114, 20, 14, 115, 116, 117, 118, 15, 119, 120, 121, 122, 123, 124, 125, 126, 127, 128, 129, 130, 131, 18, 132, 133, 134, 135, 21, 136, 137, 29, 138, 341, 342, 343, 344, 345, 346, 347, 348, 349, 350, 351, 352] (by decide +kernel) (by decide +kernel)) (goodIn_sub (fun _ h => List.mem_append_left _ (List.mem_append_left _ (List.mem_append_right _ h))) (by decide +kernel))) (goodIn_sub (fun _ h => List.mem_append_left _ (List.mem_append_right _ h)) (by decide +kernel))
set_option maxRecDepth 20000 in
theorem gL_law_L_write : GoodIn wsL_law (va_wsS RL 76 yL_write wsL_write) := goodIn_app (goodIn_of _ (by decide +kernel)) ggL_law_L_write
set_option maxRecDepth 20000 in
theorem ggL_law_X1_write : GoodIn wsL_law wsX1_write := goodIn_r _ [142, 143, 38, 72, 144, 45, 145, 39, 43, 42, 35, 146, 147, 5, 148, 74, 75, 76, 77, 78, 79, 80, 81, 149, 150, 151, 152, 153, 154, 155, 46, 156, 157, 158, 159, 160, 161, 162, 163, 164, 353, 354, 355, 356, 357, 358, 359, 360, 361, 362, 363, 364, 365] (by decide +kernel) (by decide +kernel)
set_option maxRecDepth 20000 in
theorem gL_law_X1_write : GoodIn wsL_law (wsV RL 79 RX1 yX1_write wsX1_write) := goodIn_app (goodIn_of _ (by decide +kernel)) ggL_law_X1_write
set_option maxRecDepth 20000 in
theorem ggL_law_L_read : GoodIn wsL_law wsL_read := goodIn_ca (goodIn_r _ [167, 51, 168, 169, 170, 2, 171, 17, 14, 22, 115, 116, 117, 118, 23, 172, 173, 174, 57, 58, 94, 95, 96, 97, 98, 99, 104, 105, 106, 341, 342, 343, 344, 345, 346, 347, 348, 349, 350, 351, 352] (by decide +kernel) (by decide +kernel)) (goodIn_sub (fun _ h => List.mem_append_left _ (List.mem_append_left _ (List.mem_append_right _ h))) (by decide +kernel))
set_option maxRecDepth 20000 in
theorem gL_law_L_read : GoodIn wsL_law (va_wsS RL 80 yL_read wsL_read) := goodIn_app (goodIn_of _ (by decide +kernel)) ggL_law_L_read
set_option maxRecDepth 20000 in
theorem ggL_law_X1_read : GoodIn wsL_law wsX1_read := goodIn_r _ [178, 179, 36, 146, 147, 5, 148, 74, 75, 76, 77, 78, 79, 80, 81, 180, 181, 182, 183, 38, 39, 149, 150, 151, 184, 185, 186, 187, 43, 188, 189, 190, 191, 42, 353, 354, 355, 356, 357, 358, 359, 360, 361, 362, 363, 364, 365] (by decide +kernel) (by decide +kernel)
set_option maxRecDepth 20000 in
theorem gL_law_X1_read : GoodIn wsL_law (wsV RL 83 RX1 yX1_read wsX1_read) := goodIn_app (goodIn_of _ (by decide +kernel)) ggL_law_X1_read
set_option maxRecDepth 20000 in
theorem ggL_law_L_outs : GoodIn wsL_law wsL_outs := goodIn_ca (goodIn_r _ [194, 195, 196, 197, 198, 2, 199, 200, 201, 23, 202, 203, 204, 205, 22, 125, 126, 127, 341, 342, 343, 344, 345, 346, 347, 348, 349, 350, 351, 352] (by decide +kernel) (by decide +kernel)) (goodIn_sub (fun _ h => List.mem_append_right _ h) (by decide +kernel))
set_option maxRecDepth 20000 in
theorem gL_law_L_outs : GoodIn wsL_law (va_wsS RL 84 yL_outs wsL_outs) := goodIn_app (goodIn_of _ (by decide +kernel)) ggL_law_L_outs
set_option maxRecDepth 20000 in
theorem ggL_law_X1_outs : GoodIn wsL_law wsX1_outs := goodIn_r _ [209, 179, 36, 77, 78, 79, 5, 80, 81, 353, 354, 355, 356, 357, 358, 359, 360, 361, 362, 363, 364, 365] (by decide +kernel) (by decide +kernel)
set_option maxRecDepth 20000 in
theorem gL_law_X1_outs : GoodIn wsL_law (wsV RL 87 RX1 yX1_outs wsX1_outs) := goodIn_app (goodIn_of _ (by decide +kernel)) ggL_law_X1_outs
set_option maxRecDepth 20000 in
theorem ggL_law_L_tag : GoodIn wsL_law wsL_tag := goodIn_ca (goodIn_r _ [212, 51, 213, 214, 215, 2, 216, 17, 14, 217, 172, 173, 174, 57, 58, 94, 95, 96, 97, 98, 99, 104, 105, 106, 341, 342, 343, 344, 345, 346, 347, 348, 349, 350, 351, 352] (by decide +kernel) (by decide +kernel)) (goodIn_sub (fun _ h => List.mem_append_left _ (List.mem_append_left _ (List.mem_append_right _ h))) (by decide +kernel))
set_option maxRecDepth 20000 in
theorem gL_law_L_tag : GoodIn wsL_law (va_wsS RL 88 yL_tag wsL_tag) := goodIn_app (goodIn_of _ (by decide +kernel)) ggL_law_L_tag
set_option maxRecDepth 20000 in
theorem ggL_law_X1_tag : GoodIn wsL_law wsX1_tag := goodIn_r _ [221, 146, 147, 5, 148, 74, 75, 76, 77, 78, 79, 80, 81, 149, 150, 151, 180, 181, 182, 183, 38, 39, 184, 185, 186, 187, 43, 188, 189, 190, 191, 42, 353, 354, 355, 356, 357, 358, 359, 360, 361, 362, 363, 364, 365] (by decide +kernel) (by decide +kernel)
set_option maxRecDepth 20000 in
theorem gL_law_X1_tag : GoodIn wsL_law (wsV RL 90 RX1 yX1_tag wsX1_tag) := goodIn_app (goodIn_of _ (by decide +kernel)) ggL_law_X1_tag
set_option maxRecDepth 20000 in
theorem ggL_law_L_cell : GoodIn wsL_law wsL_cell := goodIn_ca (goodIn_r _ [224, 51, 225, 226, 227, 2, 228, 17, 172, 173, 174, 57, 58, 94, 95, 96, 97, 98, 99, 104, 105, 106, 341, 342, 343, 344, 345, 346, 347, 348, 349, 350, 351, 352] (by decide +kernel) (by decide +kernel)) (goodIn_sub (fun _ h => List.mem_append_left _ (List.mem_append_left _ (List.mem_append_right _ h))) (by decide +kernel))
set_option maxRecDepth 20000 in
theorem gL_law_L_cell : GoodIn wsL_law (va_wsS RL 91 yL_cell wsL_cell) := goodIn_app (goodIn_of _ (by decide +kernel)) ggL_law_L_cell
set_option maxRecDepth 20000 in
theorem ggL_law_X1_cell : GoodIn wsL_law wsX1_cell := goodIn_r _ [232, 146, 147, 5, 148, 74, 75, 76, 77, 78, 79, 80, 81, 180, 181, 182, 183, 38, 39, 149, 150, 151, 184, 185, 186, 187, 43, 353, 354, 355, 356, 357, 358, 359, 360, 361, 362, 363, 364, 365] (by decide +kernel) (by decide +kernel)
set_option maxRecDepth 20000 in
theorem gL_law_X1_cell : GoodIn wsL_law (wsV RL 93 RX1 yX1_cell wsX1_cell) := goodIn_app (goodIn_of _ (by decide +kernel)) ggL_law_X1_cell
set_option maxRecDepth 20000 in
theorem ggL_law_L_at : GoodIn wsL_law wsL_at := goodIn_ca (goodIn_ca (goodIn_r _ [235, 51, 195, 236, 237, 238, 2, 239, 200, 201, 14, 172, 173, 174, 57, 58, 94, 95, 96, 97, 98, 99, 104, 105, 106, 240, 241, 242, 243, 17, 125, 126, 127, 341, 342, 343, 344, 345, 346, 347, 348, 349, 350, 351, 352] (by decide +kernel) (by decide +kernel)) (goodIn_sub (fun _ h => List.mem_append_right _ h) (by decide +kernel))) (goodIn_sub (fun _ h => List.mem_append_left _ (List.mem_append_left _ (List.mem_append_right _ h))) (by decide +kernel))
set_option maxRecDepth 20000 in
theorem gL_law_L_at : GoodIn wsL_law (va_wsS RL 94 yL_at wsL_at) := goodIn_app (goodIn_of _ (by decide +kernel)) ggL_law_L_at
set_option maxRecDepth 20000 in
theorem ggL_law_X1_at : GoodIn wsL_law wsX1_at := goodIn_r _ [247, 146, 147, 5, 148, 74, 75, 76, 77, 78, 79, 80, 81, 180, 181, 182, 183, 38, 39, 149, 150, 151, 184, 185, 186, 187, 43, 188, 189, 190, 191, 42, 353, 354, 355, 356, 357, 358, 359, 360, 361, 362, 363, 364, 365] (by decide +kernel) (by decide +kernel)
set_option maxRecDepth 20000 in
theorem gL_law_X1_at : GoodIn wsL_law (wsV RL 96 RX1 yX1_at wsX1_at) := goodIn_app (goodIn_of _ (by decide +kernel)) ggL_law_X1_at
set_option maxRecDepth 20000 in
theorem ggL_law_L_fail : GoodIn wsL_law wsL_fail := goodIn_ca (goodIn_r _ [250, 51, 251, 252, 253, 2, 254, 19, 255, 256, 257, 57, 58, 97, 98, 99, 100, 101, 102, 103, 17, 104, 105, 106, 258, 259, 260, 261, 128, 129, 130, 131, 18, 341, 342, 343, 344, 345, 346, 347, 348, 349, 350, 351, 352] (by decide +kernel) (by decide +kernel)) (goodIn_sub (fun _ h => List.mem_append_left _ (List.mem_append_left _ (List.mem_append_right _ h))) (by decide +kernel))
set_option maxRecDepth 20000 in
theorem gL_law_L_fail : GoodIn wsL_law (va_wsS RL 97 yL_fail wsL_fail) := goodIn_app (goodIn_of _ (by decide +kernel)) ggL_law_L_fail
set_option maxRecDepth 20000 in
theorem ggL_law_X1_fail : GoodIn wsL_law wsX1_fail := goodIn_r _ [265, 38, 266, 267, 5, 268, 74, 75, 76, 77, 78, 79, 80, 81, 353, 354, 355, 356, 357, 358, 359, 360, 361, 362, 363, 364, 365] (by decide +kernel) (by decide +kernel)
set_option maxRecDepth 20000 in
theorem gL_law_X1_fail : GoodIn wsL_law (wsV RL 99 RX1 yX1_fail wsX1_fail) := goodIn_app (goodIn_of _ (by decide +kernel)) ggL_law_X1_fail
set_option maxRecDepth 20000 in
theorem ggL_law_L_replace : GoodIn wsL_law wsL_replace := goodIn_ca (goodIn_r _ [271, 51, 272, 273, 274, 2, 275, 19, 255, 256, 257, 57, 58, 97, 98, 99, 100, 101, 102, 103, 17, 104, 105, 106, 258, 259, 260, 261, 128, 129, 130, 131, 18, 341, 342, 343, 344, 345, 346, 347, 348, 349, 350, 351, 352] (by decide +kernel) (by decide +kernel)) (goodIn_sub (fun _ h => List.mem_append_left _ (List.mem_append_left _ (List.mem_append_right _ h))) (by decide +kernel))
set_option maxRecDepth 20000 in
theorem gL_law_L_replace : GoodIn wsL_law (va_wsS RL 100 yL_replace wsL_replace) := goodIn_app (goodIn_of _ (by decide +kernel)) ggL_law_L_replace
set_option maxRecDepth 20000 in
theorem ggL_law_X1_replace : GoodIn wsL_law wsX1_replace := goodIn_r _ [279, 38, 39, 266, 267, 5, 268, 74, 75, 76, 77, 78, 79, 80, 81, 149, 150, 151, 353, 354, 355, 356, 357, 358, 359, 360, 361, 362, 363, 364, 365] (by decide +kernel) (by decide +kernel)
set_option maxRecDepth 20000 in
theorem gL_law_X1_replace : GoodIn wsL_law (wsV RL 102 RX1 yX1_replace wsX1_replace) := goodIn_app (goodIn_of _ (by decide +kernel)) ggL_law_X1_replace
set_option maxRecDepth 20000 in
theorem ggL_law_L_corrupt : GoodIn wsL_law wsL_corrupt := goodIn_ca (goodIn_r _ [282, 51, 283, 284, 285, 2, 286, 57, 58, 14, 94, 95, 96, 97, 98, 99, 61, 62, 63, 104, 105, 106, 240, 241, 242, 243, 17, 64, 65, 66, 67, 287, 288, 289, 290, 15, 128, 129, 130, 131, 18, 291, 292, 293, 294, 119, 120, 121, 122, 123, 124, 125, 126, 127, 341, 342, 343, 344, 345, 346, 347, 348, 349, 350, 351, 352] (by decide +kernel) (by decide +kernel)) (goodIn_sub (fun _ h => List.mem_append_left _ (List.mem_append_left _ (List.mem_append_right _ h))) (by decide +kernel))
set_option maxRecDepth 20000 in
theorem gL_law_L_corrupt : GoodIn wsL_law (va_wsS RL 103 yL_corrupt wsL_corrupt) := goodIn_app (goodIn_of _ (by decide +kernel)) ggL_law_L_corrupt
set_option maxRecDepth 20000 in
theorem ggL_law_X1_corrupt : GoodIn wsL_law wsX1_corrupt := goodIn_r _ [298, 146, 147, 5, 148, 74, 75, 76, 77, 78, 79, 80, 81, 180, 181, 182, 183, 38, 39, 149, 150, 151, 184, 185, 186, 187, 43, 299, 300, 301, 302, 303, 304, 305, 306, 46, 156, 157, 158, 159, 160, 161, 162, 163, 164, 353, 354, 355, 356, 357, 358, 359, 360, 361, 362, 363, 364, 365] (by decide +kernel) (by decide +kernel)
set_option maxRecDepth 20000 in
theorem gL_law_X1_corrupt : GoodIn wsL_law (wsV RL 106 RX1 yX1_corrupt wsX1_corrupt) := goodIn_app (goodIn_of _ (by decide +kernel)) ggL_law_X1_corrupt
set_option maxRecDepth 20000 in
theorem ggL_law_L_lose : GoodIn wsL_law wsL_lose := goodIn_ca (goodIn_ca (goodIn_r _ [309, 51, 52, 310, 311, 312, 2, 313, 57, 58, 59, 60, 24, 25, 341, 342, 343, 344, 345, 346, 347, 348, 349, 350, 351, 352] (by decide +kernel) (by decide +kernel)) (goodIn_sub (fun _ h => List.mem_append_left _ (List.mem_append_left _ (List.mem_append_right _ h))) (by decide +kernel))) (goodIn_sub (fun _ h => List.mem_append_left _ (List.mem_append_right _ h)) (by decide +kernel))
set_option maxRecDepth 20000 in
theorem gL_law_L_lose : GoodIn wsL_law (va_wsS RL 107 yL_lose wsL_lose) := goodIn_app (goodIn_of _ (by decide +kernel)) ggL_law_L_lose
set_option maxRecDepth 20000 in
theorem ggL_law_X1_lose : GoodIn wsL_law wsX1_lose := goodIn_r _ [317, 144, 45, 77, 78, 79, 5, 80, 81, 353, 354, 355, 356, 357, 358, 359, 360, 361, 362, 363, 364, 365] (by decide +kernel) (by decide +kernel)
set_option maxRecDepth 20000 in
theorem gL_law_X1_lose : GoodIn wsL_law (wsV RL 110 RX1 yX1_lose wsX1_lose) := goodIn_app (goodIn_of _ (by decide +kernel)) ggL_law_X1_lose
set_option maxRecDepth 20000 in
theorem ggL_law_X0_power : GoodIn wsL_law wsX0_power := goodIn_r _ [321, 24, 25, 341, 342, 343, 344, 345, 346, 347, 348, 349, 350, 351, 352] (by decide +kernel) (by decide +kernel)
set_option maxRecDepth 20000 in
theorem gL_law_X0_power : GoodIn wsL_law (wsV RL 111 RX0 yX0_power wsX0_power) := goodIn_app (goodIn_of _ (by decide +kernel)) ggL_law_X0_power
set_option maxRecDepth 20000 in
theorem ggL_law_X1_power : GoodIn wsL_law wsX1_power := goodIn_r _ [325, 81, 144, 44, 45, 353, 354, 355, 356, 357, 358, 359, 360, 361, 362, 363, 364, 365] (by decide +kernel) (by decide +kernel)
set_option maxRecDepth 20000 in
theorem gL_law_X1_power : GoodIn wsL_law (wsV RL 115 RX1 yX1_power wsX1_power) := goodIn_app (goodIn_of _ (by decide +kernel)) ggL_law_X1_power
set_option maxRecDepth 20000 in
theorem ggL_law_L_look : GoodIn wsL_law wsL_look := goodIn_ca (goodIn_r _ [328, 195, 329, 330, 331, 2, 332, 200, 201, 26, 24, 25, 19, 18, 341, 342, 343, 344, 345, 346, 347, 348, 349, 350, 351, 352] (by decide +kernel) (by decide +kernel)) (goodIn_sub (fun _ h => List.mem_append_right _ h) (by decide +kernel))
set_option maxRecDepth 20000 in
theorem gL_law_L_look : GoodIn wsL_law (va_wsS RL 116 yL_look wsL_look) := goodIn_app (goodIn_of _ (by decide +kernel)) ggL_law_L_look
set_option maxRecDepth 20000 in
theorem ggL_law_X1_look : GoodIn wsL_law wsX1_look := goodIn_r _ [336, 145, 144, 45, 38, 74, 75, 5, 76, 77, 78, 79, 80, 81, 337, 338, 339, 340, 180, 181, 182, 183, 39, 149, 150, 151, 184, 185, 186, 187, 43, 353, 354, 355, 356, 357, 358, 359, 360, 361, 362, 363, 364, 365] (by decide +kernel) (by decide +kernel)
set_option maxRecDepth 20000 in
theorem gL_law_X1_look : GoodIn wsL_law (wsV RL 118 RX1 yX1_look wsX1_look) := goodIn_app (goodIn_of _ (by decide +kernel)) ggL_law_X1_look
end
section
theorem dX0_init_0 : decode cX0_init 0 = .ok (.aload_n 0, 1) := by decide +kernel
theorem dX0_init_1 : decode cX0_init 1 = .ok (.invokespecial 3, 3) := by decide +kernel
theorem dX0_init_4 : decode cX0_init 4 = .ok (.aload_n 0, 1) := by decide +kernel
theorem dX0_init_5 : decode cX0_init 5 = .ok (.sipush 9504, 3) := by decide +kernel
theorem dX0_init_8 : decode cX0_init 8 = .ok (.newarray .long, 2) := by decide +kernel
theorem dX0_init_10 : decode cX0_init 10 = .ok (.putfield 9, 3) := by decide +kernel
theorem dX0_init_13 : decode cX0_init 13 = .ok (.aload_n 0, 1) := by decide +kernel
theorem dX0_init_14 : decode cX0_init 14 = .ok (.sipush 9504, 3) := by decide +kernel
theorem dX0_init_17 : decode cX0_init 17 = .ok (.newarray .long, 2) := by decide +kernel
theorem dX0_init_19 : decode cX0_init 19 = .ok (.putfield 13, 3) := by decide +kernel
theorem dX0_init_22 : decode cX0_init 22 = .ok (.aload_n 0, 1) := by decide +kernel
theorem dX0_init_23 : decode cX0_init 23 = .ok (.sipush 1056, 3) := by decide +kernel
theorem dX0_init_26 : decode cX0_init 26 = .ok (.newarray .int, 2) := by decide +kernel
theorem dX0_init_28 : decode cX0_init 28 = .ok (.putfield 16, 3) := by decide +kernel
theorem dX0_init_31 : decode cX0_init 31 = .ok (.aload_n 0, 1) := by decide +kernel
theorem dX0_init_32 : decode cX0_init 32 = .ok (.getfield 16, 3) := by decide +kernel
theorem dX0_init_35 : decode cX0_init 35 = .ok (.iconst 1, 1) := by decide +kernel
theorem dX0_init_36 : decode cX0_init 36 = .ok (.invokestatic 20, 3) := by decide +kernel
theorem dX0_init_39 : decode cX0_init 39 = .ok (.aload_n 0, 1) := by decide +kernel
theorem dX0_init_40 : decode cX0_init 40 = .ok (.iconst 4, 1) := by decide +kernel
theorem dX0_init_41 : decode cX0_init 41 = .ok (.newarray .int, 2) := by decide +kernel
theorem dX0_init_43 : decode cX0_init 43 = .ok (.putfield 26, 3) := by decide +kernel
theorem dX0_init_46 : decode cX0_init 46 = .ok (.aload_n 0, 1) := by decide +kernel
theorem dX0_init_47 : decode cX0_init 47 = .ok (.getfield 26, 3) := by decide +kernel
theorem dX0_init_50 : decode cX0_init 50 = .ok (.iconst 1, 1) := by decide +kernel
theorem dX0_init_51 : decode cX0_init 51 = .ok (.sipush 1056, 3) := by decide +kernel
theorem dX0_init_54 : decode cX0_init 54 = .ok (.iastore, 1) := by decide +kernel
theorem dX0_init_55 : decode cX0_init 55 = .ok (.aload_n 0, 1) := by decide +kernel
theorem dX0_init_56 : decode cX0_init 56 = .ok (.bipush 16, 2) := by decide +kernel
theorem dX0_init_58 : decode cX0_init 58 = .ok (.putfield 29, 3) := by decide +kernel
theorem dX0_init_61 : decode cX0_init 61 = .ok (.aload_n 0, 1) := by decide +kernel
theorem dX0_init_62 : decode cX0_init 62 = .ok (.bipush 8, 2) := by decide +kernel
theorem dX0_init_64 : decode cX0_init 64 = .ok (.newarray .long, 2) := by decide +kernel
theorem dX0_init_66 : decode cX0_init 66 = .ok (.putfield 33, 3) := by decide +kernel
theorem dX0_init_69 : decode cX0_init 69 = .ok (.aload_n 0, 1) := by decide +kernel
theorem dX0_init_70 : decode cX0_init 70 = .ok (.iconst 0, 1) := by decide +kernel
theorem dX0_init_71 : decode cX0_init 71 = .ok (.putfield 36, 3) := by decide +kernel
theorem dX0_init_74 : decode cX0_init 74 = .ok (.aload_n 0, 1) := by decide +kernel
theorem dX0_init_75 : decode cX0_init 75 = .ok (.bipush 8, 2) := by decide +kernel
theorem dX0_init_77 : decode cX0_init 77 = .ok (.newarray .long, 2) := by decide +kernel
theorem dX0_init_79 : decode cX0_init 79 = .ok (.putfield 39, 3) := by decide +kernel
theorem dX0_init_82 : decode cX0_init 82 = .ok (.aload_n 0, 1) := by decide +kernel
theorem dX0_init_83 : decode cX0_init 83 = .ok (.iconst 0, 1) := by decide +kernel
theorem dX0_init_84 : decode cX0_init 84 = .ok (.putfield 42, 3) := by decide +kernel
theorem dX0_init_87 : decode cX0_init 87 = .ok (.aload_n 0, 1) := by decide +kernel
theorem dX0_init_88 : decode cX0_init 88 = .ok (.iconst 0, 1) := by decide +kernel
theorem dX0_init_89 : decode cX0_init 89 = .ok (.putfield 45, 3) := by decide +kernel
theorem dX0_init_92 : decode cX0_init 92 = .ok (.aload_n 0, 1) := by decide +kernel
theorem dX0_init_93 : decode cX0_init 93 = .ok (.iconst (-1), 1) := by decide +kernel
theorem dX0_init_94 : decode cX0_init 94 = .ok (.putfield 49, 3) := by decide +kernel
theorem dX0_init_97 : decode cX0_init 97 = .ok (.aload_n 0, 1) := by decide +kernel
theorem dX0_init_98 : decode cX0_init 98 = .ok (.lconst 0, 1) := by decide +kernel
theorem dX0_init_99 : decode cX0_init 99 = .ok (.putfield 52, 3) := by decide +kernel
theorem dX0_init_102 : decode cX0_init 102 = .ok (.return_, 1) := by decide +kernel
theorem dX0_feed_0 : decode cX0_feed 0 = .ok (.iload_n 1, 1) := by decide +kernel
theorem dX0_feed_1 : decode cX0_feed 1 = .ok (.invokestatic 56, 3) := by decide +kernel
theorem dX0_feed_4 : decode cX0_feed 4 = .ok (.ifCond .ne 13, 3) := by decide +kernel
theorem dX0_feed_7 : decode cX0_feed 7 = .ok (.new 60, 3) := by decide +kernel
theorem dX0_feed_10 : decode cX0_feed 10 = .ok (.dup, 1) := by decide +kernel
theorem dX0_feed_11 : decode cX0_feed 11 = .ok (.ldc 62, 2) := by decide +kernel
theorem dX0_feed_13 : decode cX0_feed 13 = .ok (.invokespecial 64, 3) := by decide +kernel
theorem dX0_feed_16 : decode cX0_feed 16 = .ok (.athrow, 1) := by decide +kernel
theorem dX0_feed_17 : decode cX0_feed 17 = .ok (.aload_n 0, 1) := by decide +kernel
theorem dX0_feed_18 : decode cX0_feed 18 = .ok (.getfield 36, 3) := by decide +kernel
theorem dX0_feed_21 : decode cX0_feed 21 = .ok (.iload_n 1, 1) := by decide +kernel
theorem dX0_feed_22 : decode cX0_feed 22 = .ok (.iadd, 1) := by decide +kernel
theorem dX0_feed_23 : decode cX0_feed 23 = .ok (.bipush 64, 2) := by decide +kernel
theorem dX0_feed_25 : decode cX0_feed 25 = .ok (.if_icmp .le 13, 3) := by decide +kernel
theorem dX0_feed_28 : decode cX0_feed 28 = .ok (.new 67, 3) := by decide +kernel
theorem dX0_feed_31 : decode cX0_feed 31 = .ok (.dup, 1) := by decide +kernel
theorem dX0_feed_32 : decode cX0_feed 32 = .ok (.ldc 69, 2) := by decide +kernel
theorem dX0_feed_34 : decode cX0_feed 34 = .ok (.invokespecial 71, 3) := by decide +kernel
theorem dX0_feed_37 : decode cX0_feed 37 = .ok (.athrow, 1) := by decide +kernel
theorem dX0_feed_38 : decode cX0_feed 38 = .ok (.aload_n 0, 1) := by decide +kernel
theorem dX0_feed_39 : decode cX0_feed 39 = .ok (.getfield 33, 3) := by decide +kernel
theorem dX0_feed_42 : decode cX0_feed 42 = .ok (.iconst 0, 1) := by decide +kernel
theorem dX0_feed_43 : decode cX0_feed 43 = .ok (.aload_n 0, 1) := by decide +kernel
theorem dX0_feed_44 : decode cX0_feed 44 = .ok (.getfield 36, 3) := by decide +kernel
theorem dX0_feed_47 : decode cX0_feed 47 = .ok (.lload_n 2, 1) := by decide +kernel
theorem dX0_feed_48 : decode cX0_feed 48 = .ok (.iload_n 1, 1) := by decide +kernel
theorem dX0_feed_49 : decode cX0_feed 49 = .ok (.invokestatic 72, 3) := by decide +kernel
theorem dX0_feed_52 : decode cX0_feed 52 = .ok (.aload_n 0, 1) := by decide +kernel
theorem dX0_feed_53 : decode cX0_feed 53 = .ok (.dup, 1) := by decide +kernel
theorem dX0_feed_54 : decode cX0_feed 54 = .ok (.getfield 36, 3) := by decide +kernel
theorem dX0_feed_57 : decode cX0_feed 57 = .ok (.iload_n 1, 1) := by decide +kernel
theorem dX0_feed_58 : decode cX0_feed 58 = .ok (.iadd, 1) := by decide +kernel
theorem dX0_feed_59 : decode cX0_feed 59 = .ok (.putfield 36, 3) := by decide +kernel
theorem dX0_feed_62 : decode cX0_feed 62 = .ok (.aload_n 0, 1) := by decide +kernel
theorem dX0_feed_63 : decode cX0_feed 63 = .ok (.getfield 36, 3) := by decide +kernel
theorem dX0_feed_66 : decode cX0_feed 66 = .ok (.ireturn, 1) := by decide +kernel
theorem dX0_write_0 : decode cX0_write 0 = .ok (.iload_n 1, 1) := by decide +kernel
theorem dX0_write_1 : decode cX0_write 1 = .ok (.iload_n 2, 1) := by decide +kernel
theorem dX0_write_2 : decode cX0_write 2 = .ok (.invokestatic 76, 3) := by decide +kernel
theorem dX0_write_5 : decode cX0_write 5 = .ok (.ifCond .eq 13, 3) := by decide +kernel
theorem dX0_write_8 : decode cX0_write 8 = .ok (.iload_n 3, 1) := by decide +kernel
theorem dX0_write_9 : decode cX0_write 9 = .ok (.ifCond .lt 9, 3) := by decide +kernel
theorem dX0_write_12 : decode cX0_write 12 = .ok (.iload_n 3, 1) := by decide +kernel
theorem dX0_write_13 : decode cX0_write 13 = .ok (.ldc 80, 2) := by decide +kernel
theorem dX0_write_15 : decode cX0_write 15 = .ok (.if_icmp .le 13, 3) := by decide +kernel
theorem dX0_write_18 : decode cX0_write 18 = .ok (.new 60, 3) := by decide +kernel
theorem dX0_write_21 : decode cX0_write 21 = .ok (.dup, 1) := by decide +kernel
theorem dX0_write_22 : decode cX0_write 22 = .ok (.ldc 81, 2) := by decide +kernel
theorem dX0_write_24 : decode cX0_write 24 = .ok (.invokespecial 64, 3) := by decide +kernel
theorem dX0_write_27 : decode cX0_write 27 = .ok (.athrow, 1) := by decide +kernel
theorem dX0_write_28 : decode cX0_write 28 = .ok (.aload_n 0, 1) := by decide +kernel
theorem dX0_write_29 : decode cX0_write 29 = .ok (.iload_n 1, 1) := by decide +kernel
theorem dX0_write_30 : decode cX0_write 30 = .ok (.invokevirtual 83, 3) := by decide +kernel
theorem dX0_write_33 : decode cX0_write 33 = .ok (.ifCond .ne 13, 3) := by decide +kernel
theorem dX0_write_36 : decode cX0_write 36 = .ok (.new 67, 3) := by decide +kernel
theorem dX0_write_39 : decode cX0_write 39 = .ok (.dup, 1) := by decide +kernel
theorem dX0_write_40 : decode cX0_write 40 = .ok (.ldc 86, 2) := by decide +kernel
theorem dX0_write_42 : decode cX0_write 42 = .ok (.invokespecial 71, 3) := by decide +kernel
theorem dX0_write_45 : decode cX0_write 45 = .ok (.athrow, 1) := by decide +kernel
theorem dX0_write_46 : decode cX0_write 46 = .ok (.aload_n 0, 1) := by decide +kernel
theorem dX0_write_47 : decode cX0_write 47 = .ok (.invokevirtual 88, 3) := by decide +kernel
theorem dX0_write_50 : decode cX0_write 50 = .ok (.istore 4, 2) := by decide +kernel
theorem dX0_write_52 : decode cX0_write 52 = .ok (.iload 4, 2) := by decide +kernel
theorem dX0_write_54 : decode cX0_write 54 = .ok (.ifCond .eq 23, 3) := by decide +kernel
theorem dX0_write_57 : decode cX0_write 57 = .ok (.aload_n 0, 1) := by decide +kernel
theorem dX0_write_58 : decode cX0_write 58 = .ok (.iload_n 1, 1) := by decide +kernel
theorem dX0_write_59 : decode cX0_write 59 = .ok (.iload_n 2, 1) := by decide +kernel
theorem dX0_write_60 : decode cX0_write 60 = .ok (.invokestatic 92, 3) := by decide +kernel
theorem dX0_write_63 : decode cX0_write 63 = .ok (.iload_n 3, 1) := by decide +kernel
theorem dX0_write_64 : decode cX0_write 64 = .ok (.invokevirtual 96, 3) := by decide +kernel
theorem dX0_write_67 : decode cX0_write 67 = .ok (.aload_n 0, 1) := by decide +kernel
theorem dX0_write_68 : decode cX0_write 68 = .ok (.dup, 1) := by decide +kernel
theorem dX0_write_69 : decode cX0_write 69 = .ok (.getfield 52, 3) := by decide +kernel
theorem dX0_write_72 : decode cX0_write 72 = .ok (.lconst 1, 1) := by decide +kernel
theorem dX0_write_73 : decode cX0_write 73 = .ok (.ladd, 1) := by decide +kernel
theorem dX0_write_74 : decode cX0_write 74 = .ok (.putfield 52, 3) := by decide +kernel
theorem dX0_write_77 : decode cX0_write 77 = .ok (.aload_n 0, 1) := by decide +kernel
theorem dX0_write_78 : decode cX0_write 78 = .ok (.invokevirtual 100, 3) := by decide +kernel
theorem dX0_write_81 : decode cX0_write 81 = .ok (.iload 4, 2) := by decide +kernel
theorem dX0_write_83 : decode cX0_write 83 = .ok (.ireturn, 1) := by decide +kernel
theorem dX0_read_0 : decode cX0_read 0 = .ok (.iload_n 1, 1) := by decide +kernel
theorem dX0_read_1 : decode cX0_read 1 = .ok (.iload_n 2, 1) := by decide +kernel
theorem dX0_read_2 : decode cX0_read 2 = .ok (.invokestatic 103, 3) := by decide +kernel
theorem dX0_read_5 : decode cX0_read 5 = .ok (.iload_n 1, 1) := by decide +kernel
theorem dX0_read_6 : decode cX0_read 6 = .ok (.iload_n 2, 1) := by decide +kernel
theorem dX0_read_7 : decode cX0_read 7 = .ok (.invokestatic 92, 3) := by decide +kernel
theorem dX0_read_10 : decode cX0_read 10 = .ok (.istore_n 3, 1) := by decide +kernel
theorem dX0_read_11 : decode cX0_read 11 = .ok (.aload_n 0, 1) := by decide +kernel
theorem dX0_read_12 : decode cX0_read 12 = .ok (.getfield 16, 3) := by decide +kernel
theorem dX0_read_15 : decode cX0_read 15 = .ok (.iload_n 3, 1) := by decide +kernel
theorem dX0_read_16 : decode cX0_read 16 = .ok (.iaload, 1) := by decide +kernel
theorem dX0_read_17 : decode cX0_read 17 = .ok (.iconst 2, 1) := by decide +kernel
theorem dX0_read_18 : decode cX0_read 18 = .ok (.if_icmp .ne 7, 3) := by decide +kernel
theorem dX0_read_21 : decode cX0_read 21 = .ok (.iconst 1, 1) := by decide +kernel
theorem dX0_read_22 : decode cX0_read 22 = .ok (.goto 4, 3) := by decide +kernel
theorem dX0_read_25 : decode cX0_read 25 = .ok (.iconst 0, 1) := by decide +kernel
theorem dX0_read_26 : decode cX0_read 26 = .ok (.istore 4, 2) := by decide +kernel
theorem dX0_read_28 : decode cX0_read 28 = .ok (.iload 4, 2) := by decide +kernel
theorem dX0_read_30 : decode cX0_read 30 = .ok (.ifCond .eq 21, 3) := by decide +kernel
theorem dX0_read_33 : decode cX0_read 33 = .ok (.aload_n 0, 1) := by decide +kernel
theorem dX0_read_34 : decode cX0_read 34 = .ok (.getfield 9, 3) := by decide +kernel
theorem dX0_read_37 : decode cX0_read 37 = .ok (.iload_n 3, 1) := by decide +kernel
theorem dX0_read_38 : decode cX0_read 38 = .ok (.bipush 9, 2) := by decide +kernel
theorem dX0_read_40 : decode cX0_read 40 = .ok (.imul, 1) := by decide +kernel
theorem dX0_read_41 : decode cX0_read 41 = .ok (.aload_n 0, 1) := by decide +kernel
theorem dX0_read_42 : decode cX0_read 42 = .ok (.getfield 39, 3) := by decide +kernel
theorem dX0_read_45 : decode cX0_read 45 = .ok (.iconst 0, 1) := by decide +kernel
theorem dX0_read_46 : decode cX0_read 46 = .ok (.bipush 8, 2) := by decide +kernel
theorem dX0_read_48 : decode cX0_read 48 = .ok (.invokestatic 106, 3) := by decide +kernel
theorem dX0_read_51 : decode cX0_read 51 = .ok (.aload_n 0, 1) := by decide +kernel
theorem dX0_read_52 : decode cX0_read 52 = .ok (.iload 4, 2) := by decide +kernel
theorem dX0_read_54 : decode cX0_read 54 = .ok (.ifCond .eq 8, 3) := by decide +kernel
theorem dX0_read_57 : decode cX0_read 57 = .ok (.bipush 64, 2) := by decide +kernel
theorem dX0_read_59 : decode cX0_read 59 = .ok (.goto 4, 3) := by decide +kernel
theorem dX0_read_62 : decode cX0_read 62 = .ok (.iconst 0, 1) := by decide +kernel
theorem dX0_read_63 : decode cX0_read 63 = .ok (.putfield 42, 3) := by decide +kernel
theorem dX0_read_66 : decode cX0_read 66 = .ok (.iload 4, 2) := by decide +kernel
theorem dX0_read_68 : decode cX0_read 68 = .ok (.ireturn, 1) := by decide +kernel
theorem dX0_outs_0 : decode cX0_outs 0 = .ok (.iload_n 1, 1) := by decide +kernel
theorem dX0_outs_1 : decode cX0_outs 1 = .ok (.ifCond .lt 11, 3) := by decide +kernel
theorem dX0_outs_4 : decode cX0_outs 4 = .ok (.iload_n 1, 1) := by decide +kernel
theorem dX0_outs_5 : decode cX0_outs 5 = .ok (.aload_n 0, 1) := by decide +kernel
theorem dX0_outs_6 : decode cX0_outs 6 = .ok (.getfield 42, 3) := by decide +kernel
theorem dX0_outs_9 : decode cX0_outs 9 = .ok (.if_icmp .lt 13, 3) := by decide +kernel
theorem dX0_outs_12 : decode cX0_outs 12 = .ok (.new 112, 3) := by decide +kernel
theorem dX0_outs_15 : decode cX0_outs 15 = .ok (.dup, 1) := by decide +kernel
theorem dX0_outs_16 : decode cX0_outs 16 = .ok (.ldc 114, 2) := by decide +kernel
theorem dX0_outs_18 : decode cX0_outs 18 = .ok (.invokespecial 116, 3) := by decide +kernel
theorem dX0_outs_21 : decode cX0_outs 21 = .ok (.athrow, 1) := by decide +kernel
theorem dX0_outs_22 : decode cX0_outs 22 = .ok (.iload_n 1, 1) := by decide +kernel
theorem dX0_outs_23 : decode cX0_outs 23 = .ok (.bipush 8, 2) := by decide +kernel
theorem dX0_outs_25 : decode cX0_outs 25 = .ok (.iadd, 1) := by decide +kernel
theorem dX0_outs_26 : decode cX0_outs 26 = .ok (.aload_n 0, 1) := by decide +kernel
theorem dX0_outs_27 : decode cX0_outs 27 = .ok (.getfield 42, 3) := by decide +kernel
theorem dX0_outs_30 : decode cX0_outs 30 = .ok (.invokestatic 117, 3) := by decide +kernel
theorem dX0_outs_33 : decode cX0_outs 33 = .ok (.istore_n 2, 1) := by decide +kernel
theorem dX0_outs_34 : decode cX0_outs 34 = .ok (.lconst 0, 1) := by decide +kernel
theorem dX0_outs_35 : decode cX0_outs 35 = .ok (.lstore_n 3, 1) := by decide +kernel
theorem dX0_outs_36 : decode cX0_outs 36 = .ok (.iload_n 2, 1) := by decide +kernel
theorem dX0_outs_37 : decode cX0_outs 37 = .ok (.iconst 1, 1) := by decide +kernel
theorem dX0_outs_38 : decode cX0_outs 38 = .ok (.isub, 1) := by decide +kernel
theorem dX0_outs_39 : decode cX0_outs 39 = .ok (.istore 5, 2) := by decide +kernel
theorem dX0_outs_41 : decode cX0_outs 41 = .ok (.iload 5, 2) := by decide +kernel
theorem dX0_outs_43 : decode cX0_outs 43 = .ok (.iload_n 1, 1) := by decide +kernel
theorem dX0_outs_44 : decode cX0_outs 44 = .ok (.if_icmp .lt 26, 3) := by decide +kernel
theorem dX0_outs_47 : decode cX0_outs 47 = .ok (.lload_n 3, 1) := by decide +kernel
theorem dX0_outs_48 : decode cX0_outs 48 = .ok (.bipush 8, 2) := by decide +kernel
theorem dX0_outs_50 : decode cX0_outs 50 = .ok (.lshl, 1) := by decide +kernel
theorem dX0_outs_51 : decode cX0_outs 51 = .ok (.aload_n 0, 1) := by decide +kernel
theorem dX0_outs_52 : decode cX0_outs 52 = .ok (.getfield 39, 3) := by decide +kernel
theorem dX0_outs_55 : decode cX0_outs 55 = .ok (.iconst 0, 1) := by decide +kernel
theorem dX0_outs_56 : decode cX0_outs 56 = .ok (.iload 5, 2) := by decide +kernel
theorem dX0_outs_58 : decode cX0_outs 58 = .ok (.invokestatic 122, 3) := by decide +kernel
theorem dX0_outs_61 : decode cX0_outs 61 = .ok (.i2l, 1) := by decide +kernel
theorem dX0_outs_62 : decode cX0_outs 62 = .ok (.lor, 1) := by decide +kernel
theorem dX0_outs_63 : decode cX0_outs 63 = .ok (.lstore_n 3, 1) := by decide +kernel
theorem dX0_outs_64 : decode cX0_outs 64 = .ok (.iinc 5 (-1), 3) := by decide +kernel
theorem dX0_outs_67 : decode cX0_outs 67 = .ok (.goto (-26), 3) := by decide +kernel
theorem dX0_outs_70 : decode cX0_outs 70 = .ok (.lload_n 3, 1) := by decide +kernel
theorem dX0_outs_71 : decode cX0_outs 71 = .ok (.lreturn, 1) := by decide +kernel
theorem dX0_tag_0 : decode cX0_tag 0 = .ok (.iload_n 1, 1) := by decide +kernel
theorem dX0_tag_1 : decode cX0_tag 1 = .ok (.iload_n 2, 1) := by decide +kernel
theorem dX0_tag_2 : decode cX0_tag 2 = .ok (.invokestatic 103, 3) := by decide +kernel
theorem dX0_tag_5 : decode cX0_tag 5 = .ok (.iload_n 1, 1) := by decide +kernel
theorem dX0_tag_6 : decode cX0_tag 6 = .ok (.iload_n 2, 1) := by decide +kernel
theorem dX0_tag_7 : decode cX0_tag 7 = .ok (.invokestatic 92, 3) := by decide +kernel
theorem dX0_tag_10 : decode cX0_tag 10 = .ok (.istore_n 3, 1) := by decide +kernel
theorem dX0_tag_11 : decode cX0_tag 11 = .ok (.aload_n 0, 1) := by decide +kernel
theorem dX0_tag_12 : decode cX0_tag 12 = .ok (.getfield 16, 3) := by decide +kernel
theorem dX0_tag_15 : decode cX0_tag 15 = .ok (.iload_n 3, 1) := by decide +kernel
theorem dX0_tag_16 : decode cX0_tag 16 = .ok (.iaload, 1) := by decide +kernel
theorem dX0_tag_17 : decode cX0_tag 17 = .ok (.iconst 2, 1) := by decide +kernel
theorem dX0_tag_18 : decode cX0_tag 18 = .ok (.if_icmp .ne 23, 3) := by decide +kernel
theorem dX0_tag_21 : decode cX0_tag 21 = .ok (.aload_n 0, 1) := by decide +kernel
theorem dX0_tag_22 : decode cX0_tag 22 = .ok (.getfield 9, 3) := by decide +kernel
theorem dX0_tag_25 : decode cX0_tag 25 = .ok (.iload_n 3, 1) := by decide +kernel
theorem dX0_tag_26 : decode cX0_tag 26 = .ok (.bipush 9, 2) := by decide +kernel
theorem dX0_tag_28 : decode cX0_tag 28 = .ok (.imul, 1) := by decide +kernel
theorem dX0_tag_29 : decode cX0_tag 29 = .ok (.bipush 8, 2) := by decide +kernel
theorem dX0_tag_31 : decode cX0_tag 31 = .ok (.iadd, 1) := by decide +kernel
theorem dX0_tag_32 : decode cX0_tag 32 = .ok (.laload, 1) := by decide +kernel
theorem dX0_tag_33 : decode cX0_tag 33 = .ok (.ldc2_w 126, 3) := by decide +kernel
theorem dX0_tag_36 : decode cX0_tag 36 = .ok (.land, 1) := by decide +kernel
theorem dX0_tag_37 : decode cX0_tag 37 = .ok (.l2i, 1) := by decide +kernel
theorem dX0_tag_38 : decode cX0_tag 38 = .ok (.goto 4, 3) := by decide +kernel
theorem dX0_tag_41 : decode cX0_tag 41 = .ok (.iconst (-1), 1) := by decide +kernel
theorem dX0_tag_42 : decode cX0_tag 42 = .ok (.ireturn, 1) := by decide +kernel
theorem dX0_cell_0 : decode cX0_cell 0 = .ok (.iload_n 1, 1) := by decide +kernel
theorem dX0_cell_1 : decode cX0_cell 1 = .ok (.iload_n 2, 1) := by decide +kernel
theorem dX0_cell_2 : decode cX0_cell 2 = .ok (.invokestatic 103, 3) := by decide +kernel
theorem dX0_cell_5 : decode cX0_cell 5 = .ok (.aload_n 0, 1) := by decide +kernel
theorem dX0_cell_6 : decode cX0_cell 6 = .ok (.getfield 16, 3) := by decide +kernel
theorem dX0_cell_9 : decode cX0_cell 9 = .ok (.iload_n 1, 1) := by decide +kernel
theorem dX0_cell_10 : decode cX0_cell 10 = .ok (.iload_n 2, 1) := by decide +kernel
theorem dX0_cell_11 : decode cX0_cell 11 = .ok (.invokestatic 92, 3) := by decide +kernel
theorem dX0_cell_14 : decode cX0_cell 14 = .ok (.iaload, 1) := by decide +kernel
theorem dX0_cell_15 : decode cX0_cell 15 = .ok (.ireturn, 1) := by decide +kernel
theorem dX0_at_0 : decode cX0_at 0 = .ok (.iload_n 1, 1) := by decide +kernel
theorem dX0_at_1 : decode cX0_at 1 = .ok (.iload_n 2, 1) := by decide +kernel
theorem dX0_at_2 : decode cX0_at 2 = .ok (.invokestatic 103, 3) := by decide +kernel
theorem dX0_at_5 : decode cX0_at 5 = .ok (.iload_n 1, 1) := by decide +kernel
theorem dX0_at_6 : decode cX0_at 6 = .ok (.iload_n 2, 1) := by decide +kernel
theorem dX0_at_7 : decode cX0_at 7 = .ok (.invokestatic 92, 3) := by decide +kernel
theorem dX0_at_10 : decode cX0_at 10 = .ok (.istore 4, 2) := by decide +kernel
theorem dX0_at_12 : decode cX0_at 12 = .ok (.aload_n 0, 1) := by decide +kernel
theorem dX0_at_13 : decode cX0_at 13 = .ok (.iload 4, 2) := by decide +kernel
theorem dX0_at_15 : decode cX0_at 15 = .ok (.invokevirtual 128, 3) := by decide +kernel
theorem dX0_at_18 : decode cX0_at 18 = .ok (.ifCond .eq 13, 3) := by decide +kernel
theorem dX0_at_21 : decode cX0_at 21 = .ok (.iload_n 3, 1) := by decide +kernel
theorem dX0_at_22 : decode cX0_at 22 = .ok (.ifCond .lt 9, 3) := by decide +kernel
theorem dX0_at_25 : decode cX0_at 25 = .ok (.iload_n 3, 1) := by decide +kernel
theorem dX0_at_26 : decode cX0_at 26 = .ok (.bipush 70, 2) := by decide +kernel
theorem dX0_at_28 : decode cX0_at 28 = .ok (.if_icmp .lt 13, 3) := by decide +kernel
theorem dX0_at_31 : decode cX0_at 31 = .ok (.new 112, 3) := by decide +kernel
theorem dX0_at_34 : decode cX0_at 34 = .ok (.dup, 1) := by decide +kernel
theorem dX0_at_35 : decode cX0_at 35 = .ok (.ldc 131, 2) := by decide +kernel
theorem dX0_at_37 : decode cX0_at 37 = .ok (.invokespecial 116, 3) := by decide +kernel
theorem dX0_at_40 : decode cX0_at 40 = .ok (.athrow, 1) := by decide +kernel
theorem dX0_at_41 : decode cX0_at 41 = .ok (.aload_n 0, 1) := by decide +kernel
theorem dX0_at_42 : decode cX0_at 42 = .ok (.getfield 9, 3) := by decide +kernel
theorem dX0_at_45 : decode cX0_at 45 = .ok (.iload 4, 2) := by decide +kernel
theorem dX0_at_47 : decode cX0_at 47 = .ok (.bipush 9, 2) := by decide +kernel
theorem dX0_at_49 : decode cX0_at 49 = .ok (.imul, 1) := by decide +kernel
theorem dX0_at_50 : decode cX0_at 50 = .ok (.iload_n 3, 1) := by decide +kernel
theorem dX0_at_51 : decode cX0_at 51 = .ok (.invokestatic 122, 3) := by decide +kernel
theorem dX0_at_54 : decode cX0_at 54 = .ok (.ireturn, 1) := by decide +kernel
theorem dX0_fail_0 : decode cX0_fail 0 = .ok (.iload_n 1, 1) := by decide +kernel
theorem dX0_fail_1 : decode cX0_fail 1 = .ok (.invokestatic 133, 3) := by decide +kernel
theorem dX0_fail_4 : decode cX0_fail 4 = .ok (.aload_n 0, 1) := by decide +kernel
theorem dX0_fail_5 : decode cX0_fail 5 = .ok (.iload_n 1, 1) := by decide +kernel
theorem dX0_fail_6 : decode cX0_fail 6 = .ok (.invokevirtual 83, 3) := by decide +kernel
theorem dX0_fail_9 : decode cX0_fail 9 = .ok (.ifCond .ne 5, 3) := by decide +kernel
theorem dX0_fail_12 : decode cX0_fail 12 = .ok (.iconst 0, 1) := by decide +kernel
theorem dX0_fail_13 : decode cX0_fail 13 = .ok (.ireturn, 1) := by decide +kernel
theorem dX0_fail_14 : decode cX0_fail 14 = .ok (.aload_n 0, 1) := by decide +kernel
theorem dX0_fail_15 : decode cX0_fail 15 = .ok (.iload_n 1, 1) := by decide +kernel
theorem dX0_fail_16 : decode cX0_fail 16 = .ok (.iconst 0, 1) := by decide +kernel
theorem dX0_fail_17 : decode cX0_fail 17 = .ok (.invokevirtual 137, 3) := by decide +kernel
theorem dX0_fail_20 : decode cX0_fail 20 = .ok (.aload_n 0, 1) := by decide +kernel
theorem dX0_fail_21 : decode cX0_fail 21 = .ok (.dup, 1) := by decide +kernel
theorem dX0_fail_22 : decode cX0_fail 22 = .ok (.getfield 29, 3) := by decide +kernel
theorem dX0_fail_25 : decode cX0_fail 25 = .ok (.iconst 1, 1) := by decide +kernel
theorem dX0_fail_26 : decode cX0_fail 26 = .ok (.isub, 1) := by decide +kernel
theorem dX0_fail_27 : decode cX0_fail 27 = .ok (.putfield 29, 3) := by decide +kernel
theorem dX0_fail_30 : decode cX0_fail 30 = .ok (.iconst 1, 1) := by decide +kernel
theorem dX0_fail_31 : decode cX0_fail 31 = .ok (.ireturn, 1) := by decide +kernel
theorem dX0_replace_0 : decode cX0_replace 0 = .ok (.iload_n 1, 1) := by decide +kernel
theorem dX0_replace_1 : decode cX0_replace 1 = .ok (.invokestatic 133, 3) := by decide +kernel
theorem dX0_replace_4 : decode cX0_replace 4 = .ok (.aload_n 0, 1) := by decide +kernel
theorem dX0_replace_5 : decode cX0_replace 5 = .ok (.iload_n 1, 1) := by decide +kernel
theorem dX0_replace_6 : decode cX0_replace 6 = .ok (.invokevirtual 83, 3) := by decide +kernel
theorem dX0_replace_9 : decode cX0_replace 9 = .ok (.ifCond .eq 5, 3) := by decide +kernel
theorem dX0_replace_12 : decode cX0_replace 12 = .ok (.iconst 0, 1) := by decide +kernel
theorem dX0_replace_13 : decode cX0_replace 13 = .ok (.ireturn, 1) := by decide +kernel
theorem dX0_replace_14 : decode cX0_replace 14 = .ok (.aload_n 0, 1) := by decide +kernel
theorem dX0_replace_15 : decode cX0_replace 15 = .ok (.iload_n 1, 1) := by decide +kernel
theorem dX0_replace_16 : decode cX0_replace 16 = .ok (.iconst 1, 1) := by decide +kernel
theorem dX0_replace_17 : decode cX0_replace 17 = .ok (.invokevirtual 137, 3) := by decide +kernel
theorem dX0_replace_20 : decode cX0_replace 20 = .ok (.aload_n 0, 1) := by decide +kernel
theorem dX0_replace_21 : decode cX0_replace 21 = .ok (.dup, 1) := by decide +kernel
theorem dX0_replace_22 : decode cX0_replace 22 = .ok (.getfield 29, 3) := by decide +kernel
theorem dX0_replace_25 : decode cX0_replace 25 = .ok (.iconst 1, 1) := by decide +kernel
theorem dX0_replace_26 : decode cX0_replace 26 = .ok (.iadd, 1) := by decide +kernel
theorem dX0_replace_27 : decode cX0_replace 27 = .ok (.putfield 29, 3) := by decide +kernel
theorem dX0_replace_30 : decode cX0_replace 30 = .ok (.iconst 1, 1) := by decide +kernel
theorem dX0_replace_31 : decode cX0_replace 31 = .ok (.ireturn, 1) := by decide +kernel
theorem dX0_corrupt_0 : decode cX0_corrupt 0 = .ok (.iload_n 1, 1) := by decide +kernel
theorem dX0_corrupt_1 : decode cX0_corrupt 1 = .ok (.iload_n 2, 1) := by decide +kernel
theorem dX0_corrupt_2 : decode cX0_corrupt 2 = .ok (.invokestatic 76, 3) := by decide +kernel
theorem dX0_corrupt_5 : decode cX0_corrupt 5 = .ok (.ifCond .eq 24, 3) := by decide +kernel
theorem dX0_corrupt_8 : decode cX0_corrupt 8 = .ok (.iload 6, 2) := by decide +kernel
theorem dX0_corrupt_10 : decode cX0_corrupt 10 = .ok (.invokestatic 56, 3) := by decide +kernel
theorem dX0_corrupt_13 : decode cX0_corrupt 13 = .ok (.ifCond .eq 16, 3) := by decide +kernel
theorem dX0_corrupt_16 : decode cX0_corrupt 16 = .ok (.iload_n 3, 1) := by decide +kernel
theorem dX0_corrupt_17 : decode cX0_corrupt 17 = .ok (.ifCond .lt 12, 3) := by decide +kernel
theorem dX0_corrupt_20 : decode cX0_corrupt 20 = .ok (.iload_n 3, 1) := by decide +kernel
theorem dX0_corrupt_21 : decode cX0_corrupt 21 = .ok (.bipush 70, 2) := by decide +kernel
theorem dX0_corrupt_23 : decode cX0_corrupt 23 = .ok (.iload 6, 2) := by decide +kernel
theorem dX0_corrupt_25 : decode cX0_corrupt 25 = .ok (.isub, 1) := by decide +kernel
theorem dX0_corrupt_26 : decode cX0_corrupt 26 = .ok (.if_icmp .le 13, 3) := by decide +kernel
theorem dX0_corrupt_29 : decode cX0_corrupt 29 = .ok (.new 60, 3) := by decide +kernel
theorem dX0_corrupt_32 : decode cX0_corrupt 32 = .ok (.dup, 1) := by decide +kernel
theorem dX0_corrupt_33 : decode cX0_corrupt 33 = .ok (.ldc 140, 2) := by decide +kernel
theorem dX0_corrupt_35 : decode cX0_corrupt 35 = .ok (.invokespecial 64, 3) := by decide +kernel
theorem dX0_corrupt_38 : decode cX0_corrupt 38 = .ok (.athrow, 1) := by decide +kernel
theorem dX0_corrupt_39 : decode cX0_corrupt 39 = .ok (.iload_n 1, 1) := by decide +kernel
theorem dX0_corrupt_40 : decode cX0_corrupt 40 = .ok (.iload_n 2, 1) := by decide +kernel
theorem dX0_corrupt_41 : decode cX0_corrupt 41 = .ok (.invokestatic 92, 3) := by decide +kernel
theorem dX0_corrupt_44 : decode cX0_corrupt 44 = .ok (.istore 7, 2) := by decide +kernel
theorem dX0_corrupt_46 : decode cX0_corrupt 46 = .ok (.aload_n 0, 1) := by decide +kernel
theorem dX0_corrupt_47 : decode cX0_corrupt 47 = .ok (.iload 7, 2) := by decide +kernel
theorem dX0_corrupt_49 : decode cX0_corrupt 49 = .ok (.invokevirtual 128, 3) := by decide +kernel
theorem dX0_corrupt_52 : decode cX0_corrupt 52 = .ok (.ifCond .ne 5, 3) := by decide +kernel
theorem dX0_corrupt_55 : decode cX0_corrupt 55 = .ok (.iconst 0, 1) := by decide +kernel
theorem dX0_corrupt_56 : decode cX0_corrupt 56 = .ok (.ireturn, 1) := by decide +kernel
theorem dX0_corrupt_57 : decode cX0_corrupt 57 = .ok (.iload 7, 2) := by decide +kernel
theorem dX0_corrupt_59 : decode cX0_corrupt 59 = .ok (.bipush 9, 2) := by decide +kernel
theorem dX0_corrupt_61 : decode cX0_corrupt 61 = .ok (.imul, 1) := by decide +kernel
theorem dX0_corrupt_62 : decode cX0_corrupt 62 = .ok (.istore 8, 2) := by decide +kernel
theorem dX0_corrupt_64 : decode cX0_corrupt 64 = .ok (.aload_n 0, 1) := by decide +kernel
theorem dX0_corrupt_65 : decode cX0_corrupt 65 = .ok (.getfield 9, 3) := by decide +kernel
theorem dX0_corrupt_68 : decode cX0_corrupt 68 = .ok (.iload 8, 2) := by decide +kernel
theorem dX0_corrupt_70 : decode cX0_corrupt 70 = .ok (.iload_n 3, 1) := by decide +kernel
theorem dX0_corrupt_71 : decode cX0_corrupt 71 = .ok (.lload 4, 2) := by decide +kernel
theorem dX0_corrupt_73 : decode cX0_corrupt 73 = .ok (.iload 6, 2) := by decide +kernel
theorem dX0_corrupt_75 : decode cX0_corrupt 75 = .ok (.invokestatic 72, 3) := by decide +kernel
theorem dX0_corrupt_78 : decode cX0_corrupt 78 = .ok (.aload_n 0, 1) := by decide +kernel
theorem dX0_corrupt_79 : decode cX0_corrupt 79 = .ok (.iload 8, 2) := by decide +kernel
theorem dX0_corrupt_81 : decode cX0_corrupt 81 = .ok (.invokevirtual 142, 3) := by decide +kernel
theorem dX0_corrupt_84 : decode cX0_corrupt 84 = .ok (.ifCond .eq 12, 3) := by decide +kernel
theorem dX0_corrupt_87 : decode cX0_corrupt 87 = .ok (.aload_n 0, 1) := by decide +kernel
theorem dX0_corrupt_88 : decode cX0_corrupt 88 = .ok (.iload 7, 2) := by decide +kernel
theorem dX0_corrupt_90 : decode cX0_corrupt 90 = .ok (.iconst 2, 1) := by decide +kernel
theorem dX0_corrupt_91 : decode cX0_corrupt 91 = .ok (.invokevirtual 145, 3) := by decide +kernel
theorem dX0_corrupt_94 : decode cX0_corrupt 94 = .ok (.iconst 1, 1) := by decide +kernel
theorem dX0_corrupt_95 : decode cX0_corrupt 95 = .ok (.ireturn, 1) := by decide +kernel
theorem dX0_corrupt_96 : decode cX0_corrupt 96 = .ok (.aload_n 0, 1) := by decide +kernel
theorem dX0_corrupt_97 : decode cX0_corrupt 97 = .ok (.iload 8, 2) := by decide +kernel
theorem dX0_corrupt_99 : decode cX0_corrupt 99 = .ok (.invokevirtual 148, 3) := by decide +kernel
theorem dX0_corrupt_102 : decode cX0_corrupt 102 = .ok (.ifCond .eq 19, 3) := by decide +kernel
theorem dX0_corrupt_105 : decode cX0_corrupt 105 = .ok (.aload_n 0, 1) := by decide +kernel
theorem dX0_corrupt_106 : decode cX0_corrupt 106 = .ok (.getfield 9, 3) := by decide +kernel
theorem dX0_corrupt_109 : decode cX0_corrupt 109 = .ok (.iload 8, 2) := by decide +kernel
theorem dX0_corrupt_111 : decode cX0_corrupt 111 = .ok (.iload_n 3, 1) := by decide +kernel
theorem dX0_corrupt_112 : decode cX0_corrupt 112 = .ok (.lload 4, 2) := by decide +kernel
theorem dX0_corrupt_114 : decode cX0_corrupt 114 = .ok (.iload 6, 2) := by decide +kernel
theorem dX0_corrupt_116 : decode cX0_corrupt 116 = .ok (.invokestatic 72, 3) := by decide +kernel
theorem dX0_corrupt_119 : decode cX0_corrupt 119 = .ok (.iconst 0, 1) := by decide +kernel
theorem dX0_corrupt_120 : decode cX0_corrupt 120 = .ok (.ireturn, 1) := by decide +kernel
theorem dX0_corrupt_121 : decode cX0_corrupt 121 = .ok (.aload_n 0, 1) := by decide +kernel
theorem dX0_corrupt_122 : decode cX0_corrupt 122 = .ok (.iload 7, 2) := by decide +kernel
theorem dX0_corrupt_124 : decode cX0_corrupt 124 = .ok (.iconst 3, 1) := by decide +kernel
theorem dX0_corrupt_125 : decode cX0_corrupt 125 = .ok (.invokevirtual 145, 3) := by decide +kernel
theorem dX0_corrupt_128 : decode cX0_corrupt 128 = .ok (.iconst 1, 1) := by decide +kernel
theorem dX0_corrupt_129 : decode cX0_corrupt 129 = .ok (.ireturn, 1) := by decide +kernel
theorem dX0_lose_0 : decode cX0_lose 0 = .ok (.iload_n 1, 1) := by decide +kernel
theorem dX0_lose_1 : decode cX0_lose 1 = .ok (.iconst 1, 1) := by decide +kernel
theorem dX0_lose_2 : decode cX0_lose 2 = .ok (.if_icmp .ge 13, 3) := by decide +kernel
theorem dX0_lose_5 : decode cX0_lose 5 = .ok (.new 60, 3) := by decide +kernel
theorem dX0_lose_8 : decode cX0_lose 8 = .ok (.dup, 1) := by decide +kernel
theorem dX0_lose_9 : decode cX0_lose 9 = .ok (.ldc 151, 2) := by decide +kernel
theorem dX0_lose_11 : decode cX0_lose 11 = .ok (.invokespecial 64, 3) := by decide +kernel
theorem dX0_lose_14 : decode cX0_lose 14 = .ok (.athrow, 1) := by decide +kernel
theorem dX0_lose_15 : decode cX0_lose 15 = .ok (.aload_n 0, 1) := by decide +kernel
theorem dX0_lose_16 : decode cX0_lose 16 = .ok (.getfield 45, 3) := by decide +kernel
theorem dX0_lose_19 : decode cX0_lose 19 = .ok (.ifCond .eq 13, 3) := by decide +kernel
theorem dX0_lose_22 : decode cX0_lose 22 = .ok (.new 67, 3) := by decide +kernel
theorem dX0_lose_25 : decode cX0_lose 25 = .ok (.dup, 1) := by decide +kernel
theorem dX0_lose_26 : decode cX0_lose 26 = .ok (.ldc 153, 2) := by decide +kernel
theorem dX0_lose_28 : decode cX0_lose 28 = .ok (.invokespecial 71, 3) := by decide +kernel
theorem dX0_lose_31 : decode cX0_lose 31 = .ok (.athrow, 1) := by decide +kernel
theorem dX0_lose_32 : decode cX0_lose 32 = .ok (.aload_n 0, 1) := by decide +kernel
theorem dX0_lose_33 : decode cX0_lose 33 = .ok (.iload_n 1, 1) := by decide +kernel
theorem dX0_lose_34 : decode cX0_lose 34 = .ok (.iconst 1, 1) := by decide +kernel
theorem dX0_lose_35 : decode cX0_lose 35 = .ok (.isub, 1) := by decide +kernel
theorem dX0_lose_36 : decode cX0_lose 36 = .ok (.putfield 49, 3) := by decide +kernel
theorem dX0_lose_39 : decode cX0_lose 39 = .ok (.return_, 1) := by decide +kernel
theorem dX0_power_0 : decode cX0_power 0 = .ok (.aload_n 0, 1) := by decide +kernel
theorem dX0_power_1 : decode cX0_power 1 = .ok (.getfield 45, 3) := by decide +kernel
theorem dX0_power_4 : decode cX0_power 4 = .ok (.istore_n 1, 1) := by decide +kernel
theorem dX0_power_5 : decode cX0_power 5 = .ok (.aload_n 0, 1) := by decide +kernel
theorem dX0_power_6 : decode cX0_power 6 = .ok (.iconst 0, 1) := by decide +kernel
theorem dX0_power_7 : decode cX0_power 7 = .ok (.putfield 45, 3) := by decide +kernel
theorem dX0_power_10 : decode cX0_power 10 = .ok (.aload_n 0, 1) := by decide +kernel
theorem dX0_power_11 : decode cX0_power 11 = .ok (.iconst (-1), 1) := by decide +kernel
theorem dX0_power_12 : decode cX0_power 12 = .ok (.putfield 49, 3) := by decide +kernel
theorem dX0_power_15 : decode cX0_power 15 = .ok (.iload_n 1, 1) := by decide +kernel
theorem dX0_power_16 : decode cX0_power 16 = .ok (.ireturn, 1) := by decide +kernel
theorem dX0_look_0 : decode cX0_look 0 = .ok (.iload_n 1, 1) := by decide +kernel
theorem dX0_look_1 : decode cX0_look 1 = .ok (.tableswitch 85 0 5 #[39, 44, 57, 63, 69, 77], 39) := by decide +kernel
theorem dX0_look_40 : decode cX0_look 40 = .ok (.aload_n 0, 1) := by decide +kernel
theorem dX0_look_41 : decode cX0_look 41 = .ok (.getfield 52, 3) := by decide +kernel
theorem dX0_look_44 : decode cX0_look 44 = .ok (.lreturn, 1) := by decide +kernel
theorem dX0_look_45 : decode cX0_look 45 = .ok (.aload_n 0, 1) := by decide +kernel
theorem dX0_look_46 : decode cX0_look 46 = .ok (.getfield 45, 3) := by decide +kernel
theorem dX0_look_49 : decode cX0_look 49 = .ok (.ifCond .eq 7, 3) := by decide +kernel
theorem dX0_look_52 : decode cX0_look 52 = .ok (.lconst 1, 1) := by decide +kernel
theorem dX0_look_53 : decode cX0_look 53 = .ok (.goto 4, 3) := by decide +kernel
theorem dX0_look_56 : decode cX0_look 56 = .ok (.lconst 0, 1) := by decide +kernel
theorem dX0_look_57 : decode cX0_look 57 = .ok (.lreturn, 1) := by decide +kernel
theorem dX0_look_58 : decode cX0_look 58 = .ok (.aload_n 0, 1) := by decide +kernel
theorem dX0_look_59 : decode cX0_look 59 = .ok (.getfield 49, 3) := by decide +kernel
theorem dX0_look_62 : decode cX0_look 62 = .ok (.i2l, 1) := by decide +kernel
theorem dX0_look_63 : decode cX0_look 63 = .ok (.lreturn, 1) := by decide +kernel
theorem dX0_look_64 : decode cX0_look 64 = .ok (.aload_n 0, 1) := by decide +kernel
theorem dX0_look_65 : decode cX0_look 65 = .ok (.getfield 29, 3) := by decide +kernel
theorem dX0_look_68 : decode cX0_look 68 = .ok (.i2l, 1) := by decide +kernel
theorem dX0_look_69 : decode cX0_look 69 = .ok (.lreturn, 1) := by decide +kernel
theorem dX0_look_70 : decode cX0_look 70 = .ok (.aload_n 0, 1) := by decide +kernel
theorem dX0_look_71 : decode cX0_look 71 = .ok (.getfield 26, 3) := by decide +kernel
theorem dX0_look_74 : decode cX0_look 74 = .ok (.iconst 2, 1) := by decide +kernel
theorem dX0_look_75 : decode cX0_look 75 = .ok (.iaload, 1) := by decide +kernel
theorem dX0_look_76 : decode cX0_look 76 = .ok (.i2l, 1) := by decide +kernel
theorem dX0_look_77 : decode cX0_look 77 = .ok (.lreturn, 1) := by decide +kernel
theorem dX0_look_78 : decode cX0_look 78 = .ok (.aload_n 0, 1) := by decide +kernel
theorem dX0_look_79 : decode cX0_look 79 = .ok (.getfield 26, 3) := by decide +kernel
theorem dX0_look_82 : decode cX0_look 82 = .ok (.iconst 3, 1) := by decide +kernel
theorem dX0_look_83 : decode cX0_look 83 = .ok (.iaload, 1) := by decide +kernel
theorem dX0_look_84 : decode cX0_look 84 = .ok (.i2l, 1) := by decide +kernel
theorem dX0_look_85 : decode cX0_look 85 = .ok (.lreturn, 1) := by decide +kernel
theorem dX0_look_86 : decode cX0_look 86 = .ok (.new 112, 3) := by decide +kernel
theorem dX0_look_89 : decode cX0_look 89 = .ok (.dup, 1) := by decide +kernel
theorem dX0_look_90 : decode cX0_look 90 = .ok (.ldc 155, 2) := by decide +kernel
theorem dX0_look_92 : decode cX0_look 92 = .ok (.invokespecial 116, 3) := by decide +kernel
theorem dX0_look_95 : decode cX0_look 95 = .ok (.athrow, 1) := by decide +kernel
theorem dX0_isDisk_0 : decode cX0_isDisk 0 = .ok (.iload_n 0, 1) := by decide +kernel
theorem dX0_isDisk_1 : decode cX0_isDisk 1 = .ok (.ifCond .lt 13, 3) := by decide +kernel
theorem dX0_isDisk_4 : decode cX0_isDisk 4 = .ok (.iload_n 0, 1) := by decide +kernel
theorem dX0_isDisk_5 : decode cX0_isDisk 5 = .ok (.bipush 16, 2) := by decide +kernel
theorem dX0_isDisk_7 : decode cX0_isDisk 7 = .ok (.if_icmp .ge 7, 3) := by decide +kernel
theorem dX0_isDisk_10 : decode cX0_isDisk 10 = .ok (.iconst 1, 1) := by decide +kernel
theorem dX0_isDisk_11 : decode cX0_isDisk 11 = .ok (.goto 4, 3) := by decide +kernel
theorem dX0_isDisk_14 : decode cX0_isDisk 14 = .ok (.iconst 0, 1) := by decide +kernel
theorem dX0_isDisk_15 : decode cX0_isDisk 15 = .ok (.ireturn, 1) := by decide +kernel
theorem dX0_isCell_0 : decode cX0_isCell 0 = .ok (.iload_n 0, 1) := by decide +kernel
theorem dX0_isCell_1 : decode cX0_isCell 1 = .ok (.invokestatic 157, 3) := by decide +kernel
theorem dX0_isCell_4 : decode cX0_isCell 4 = .ok (.ifCond .eq 17, 3) := by decide +kernel
theorem dX0_isCell_7 : decode cX0_isCell 7 = .ok (.iload_n 1, 1) := by decide +kernel
theorem dX0_isCell_8 : decode cX0_isCell 8 = .ok (.ifCond .lt 13, 3) := by decide +kernel
theorem dX0_isCell_11 : decode cX0_isCell 11 = .ok (.iload_n 1, 1) := by decide +kernel
theorem dX0_isCell_12 : decode cX0_isCell 12 = .ok (.bipush 66, 2) := by decide +kernel
theorem dX0_isCell_14 : decode cX0_isCell 14 = .ok (.if_icmp .ge 7, 3) := by decide +kernel
theorem dX0_isCell_17 : decode cX0_isCell 17 = .ok (.iconst 1, 1) := by decide +kernel
theorem dX0_isCell_18 : decode cX0_isCell 18 = .ok (.goto 4, 3) := by decide +kernel
theorem dX0_isCell_21 : decode cX0_isCell 21 = .ok (.iconst 0, 1) := by decide +kernel
theorem dX0_isCell_22 : decode cX0_isCell 22 = .ok (.ireturn, 1) := by decide +kernel
theorem dX0_isCount_0 : decode cX0_isCount 0 = .ok (.iload_n 0, 1) := by decide +kernel
theorem dX0_isCount_1 : decode cX0_isCount 1 = .ok (.iconst 1, 1) := by decide +kernel
theorem dX0_isCount_2 : decode cX0_isCount 2 = .ok (.if_icmp .lt 13, 3) := by decide +kernel
theorem dX0_isCount_5 : decode cX0_isCount 5 = .ok (.iload_n 0, 1) := by decide +kernel
theorem dX0_isCount_6 : decode cX0_isCount 6 = .ok (.bipush 8, 2) := by decide +kernel
theorem dX0_isCount_8 : decode cX0_isCount 8 = .ok (.if_icmp .gt 7, 3) := by decide +kernel
theorem dX0_isCount_11 : decode cX0_isCount 11 = .ok (.iconst 1, 1) := by decide +kernel
theorem dX0_isCount_12 : decode cX0_isCount 12 = .ok (.goto 4, 3) := by decide +kernel
theorem dX0_isCount_15 : decode cX0_isCount 15 = .ok (.iconst 0, 1) := by decide +kernel
theorem dX0_isCount_16 : decode cX0_isCount 16 = .ok (.ireturn, 1) := by decide +kernel
theorem dX0_needDisk_0 : decode cX0_needDisk 0 = .ok (.iload_n 0, 1) := by decide +kernel
theorem dX0_needDisk_1 : decode cX0_needDisk 1 = .ok (.invokestatic 157, 3) := by decide +kernel
theorem dX0_needDisk_4 : decode cX0_needDisk 4 = .ok (.ifCond .ne 13, 3) := by decide +kernel
theorem dX0_needDisk_7 : decode cX0_needDisk 7 = .ok (.new 60, 3) := by decide +kernel
theorem dX0_needDisk_10 : decode cX0_needDisk 10 = .ok (.dup, 1) := by decide +kernel
theorem dX0_needDisk_11 : decode cX0_needDisk 11 = .ok (.ldc 160, 2) := by decide +kernel
theorem dX0_needDisk_13 : decode cX0_needDisk 13 = .ok (.invokespecial 64, 3) := by decide +kernel
theorem dX0_needDisk_16 : decode cX0_needDisk 16 = .ok (.athrow, 1) := by decide +kernel
theorem dX0_needDisk_17 : decode cX0_needDisk 17 = .ok (.return_, 1) := by decide +kernel
theorem dX0_needCell_0 : decode cX0_needCell 0 = .ok (.iload_n 0, 1) := by decide +kernel
theorem dX0_needCell_1 : decode cX0_needCell 1 = .ok (.iload_n 1, 1) := by decide +kernel
theorem dX0_needCell_2 : decode cX0_needCell 2 = .ok (.invokestatic 76, 3) := by decide +kernel
theorem dX0_needCell_5 : decode cX0_needCell 5 = .ok (.ifCond .ne 13, 3) := by decide +kernel
theorem dX0_needCell_8 : decode cX0_needCell 8 = .ok (.new 60, 3) := by decide +kernel
theorem dX0_needCell_11 : decode cX0_needCell 11 = .ok (.dup, 1) := by decide +kernel
theorem dX0_needCell_12 : decode cX0_needCell 12 = .ok (.ldc 162, 2) := by decide +kernel
theorem dX0_needCell_14 : decode cX0_needCell 14 = .ok (.invokespecial 64, 3) := by decide +kernel
theorem dX0_needCell_17 : decode cX0_needCell 17 = .ok (.athrow, 1) := by decide +kernel
theorem dX0_needCell_18 : decode cX0_needCell 18 = .ok (.return_, 1) := by decide +kernel
theorem dX0_spotOf_0 : decode cX0_spotOf 0 = .ok (.iload_n 0, 1) := by decide +kernel
theorem dX0_spotOf_1 : decode cX0_spotOf 1 = .ok (.bipush 66, 2) := by decide +kernel
theorem dX0_spotOf_3 : decode cX0_spotOf 3 = .ok (.imul, 1) := by decide +kernel
theorem dX0_spotOf_4 : decode cX0_spotOf 4 = .ok (.iload_n 1, 1) := by decide +kernel
theorem dX0_spotOf_5 : decode cX0_spotOf 5 = .ok (.iadd, 1) := by decide +kernel
theorem dX0_spotOf_6 : decode cX0_spotOf 6 = .ok (.ireturn, 1) := by decide +kernel
theorem dX0_isLive_0 : decode cX0_isLive 0 = .ok (.aload_n 0, 1) := by decide +kernel
theorem dX0_isLive_1 : decode cX0_isLive 1 = .ok (.getfield 16, 3) := by decide +kernel
theorem dX0_isLive_4 : decode cX0_isLive 4 = .ok (.iload_n 1, 1) := by decide +kernel
theorem dX0_isLive_5 : decode cX0_isLive 5 = .ok (.iconst 0, 1) := by decide +kernel
theorem dX0_isLive_6 : decode cX0_isLive 6 = .ok (.invokestatic 92, 3) := by decide +kernel
theorem dX0_isLive_9 : decode cX0_isLive 9 = .ok (.iaload, 1) := by decide +kernel
theorem dX0_isLive_10 : decode cX0_isLive 10 = .ok (.ifCond .eq 7, 3) := by decide +kernel
theorem dX0_isLive_13 : decode cX0_isLive 13 = .ok (.iconst 1, 1) := by decide +kernel
theorem dX0_isLive_14 : decode cX0_isLive 14 = .ok (.goto 4, 3) := by decide +kernel
theorem dX0_isLive_17 : decode cX0_isLive 17 = .ok (.iconst 0, 1) := by decide +kernel
theorem dX0_isLive_18 : decode cX0_isLive 18 = .ok (.ireturn, 1) := by decide +kernel
theorem dX0_hasBytes_0 : decode cX0_hasBytes 0 = .ok (.aload_n 0, 1) := by decide +kernel
theorem dX0_hasBytes_1 : decode cX0_hasBytes 1 = .ok (.getfield 16, 3) := by decide +kernel
theorem dX0_hasBytes_4 : decode cX0_hasBytes 4 = .ok (.iload_n 1, 1) := by decide +kernel
theorem dX0_hasBytes_5 : decode cX0_hasBytes 5 = .ok (.iaload, 1) := by decide +kernel
theorem dX0_hasBytes_6 : decode cX0_hasBytes 6 = .ok (.iconst 2, 1) := by decide +kernel
theorem dX0_hasBytes_7 : decode cX0_hasBytes 7 = .ok (.if_icmp .eq 13, 3) := by decide +kernel
theorem dX0_hasBytes_10 : decode cX0_hasBytes 10 = .ok (.aload_n 0, 1) := by decide +kernel
theorem dX0_hasBytes_11 : decode cX0_hasBytes 11 = .ok (.getfield 16, 3) := by decide +kernel
theorem dX0_hasBytes_14 : decode cX0_hasBytes 14 = .ok (.iload_n 1, 1) := by decide +kernel
theorem dX0_hasBytes_15 : decode cX0_hasBytes 15 = .ok (.iaload, 1) := by decide +kernel
theorem dX0_hasBytes_16 : decode cX0_hasBytes 16 = .ok (.iconst 3, 1) := by decide +kernel
theorem dX0_hasBytes_17 : decode cX0_hasBytes 17 = .ok (.if_icmp .ne 7, 3) := by decide +kernel
theorem dX0_hasBytes_20 : decode cX0_hasBytes 20 = .ok (.iconst 1, 1) := by decide +kernel
theorem dX0_hasBytes_21 : decode cX0_hasBytes 21 = .ok (.goto 4, 3) := by decide +kernel
theorem dX0_hasBytes_24 : decode cX0_hasBytes 24 = .ok (.iconst 0, 1) := by decide +kernel
theorem dX0_hasBytes_25 : decode cX0_hasBytes 25 = .ok (.ireturn, 1) := by decide +kernel
theorem dX0_setKind_0 : decode cX0_setKind 0 = .ok (.aload_n 0, 1) := by decide +kernel
theorem dX0_setKind_1 : decode cX0_setKind 1 = .ok (.getfield 26, 3) := by decide +kernel
theorem dX0_setKind_4 : decode cX0_setKind 4 = .ok (.aload_n 0, 1) := by decide +kernel
theorem dX0_setKind_5 : decode cX0_setKind 5 = .ok (.getfield 16, 3) := by decide +kernel
theorem dX0_setKind_8 : decode cX0_setKind 8 = .ok (.iload_n 1, 1) := by decide +kernel
theorem dX0_setKind_9 : decode cX0_setKind 9 = .ok (.iaload, 1) := by decide +kernel
theorem dX0_setKind_10 : decode cX0_setKind 10 = .ok (.dup2, 1) := by decide +kernel
theorem dX0_setKind_11 : decode cX0_setKind 11 = .ok (.iaload, 1) := by decide +kernel
theorem dX0_setKind_12 : decode cX0_setKind 12 = .ok (.iconst 1, 1) := by decide +kernel
theorem dX0_setKind_13 : decode cX0_setKind 13 = .ok (.isub, 1) := by decide +kernel
theorem dX0_setKind_14 : decode cX0_setKind 14 = .ok (.iastore, 1) := by decide +kernel
theorem dX0_setKind_15 : decode cX0_setKind 15 = .ok (.aload_n 0, 1) := by decide +kernel
theorem dX0_setKind_16 : decode cX0_setKind 16 = .ok (.getfield 16, 3) := by decide +kernel
theorem dX0_setKind_19 : decode cX0_setKind 19 = .ok (.iload_n 1, 1) := by decide +kernel
theorem dX0_setKind_20 : decode cX0_setKind 20 = .ok (.iload_n 2, 1) := by decide +kernel
theorem dX0_setKind_21 : decode cX0_setKind 21 = .ok (.iastore, 1) := by decide +kernel
theorem dX0_setKind_22 : decode cX0_setKind 22 = .ok (.aload_n 0, 1) := by decide +kernel
theorem dX0_setKind_23 : decode cX0_setKind 23 = .ok (.getfield 26, 3) := by decide +kernel
theorem dX0_setKind_26 : decode cX0_setKind 26 = .ok (.iload_n 2, 1) := by decide +kernel
theorem dX0_setKind_27 : decode cX0_setKind 27 = .ok (.dup2, 1) := by decide +kernel
theorem dX0_setKind_28 : decode cX0_setKind 28 = .ok (.iaload, 1) := by decide +kernel
theorem dX0_setKind_29 : decode cX0_setKind 29 = .ok (.iconst 1, 1) := by decide +kernel
theorem dX0_setKind_30 : decode cX0_setKind 30 = .ok (.iadd, 1) := by decide +kernel
theorem dX0_setKind_31 : decode cX0_setKind 31 = .ok (.iastore, 1) := by decide +kernel
theorem dX0_setKind_32 : decode cX0_setKind 32 = .ok (.return_, 1) := by decide +kernel
theorem dX0_setKindOfAll_0 : decode cX0_setKindOfAll 0 = .ok (.iconst 0, 1) := by decide +kernel
theorem dX0_setKindOfAll_1 : decode cX0_setKindOfAll 1 = .ok (.istore_n 3, 1) := by decide +kernel
theorem dX0_setKindOfAll_2 : decode cX0_setKindOfAll 2 = .ok (.iload_n 3, 1) := by decide +kernel
theorem dX0_setKindOfAll_3 : decode cX0_setKindOfAll 3 = .ok (.bipush 66, 2) := by decide +kernel
theorem dX0_setKindOfAll_5 : decode cX0_setKindOfAll 5 = .ok (.if_icmp .ge 19, 3) := by decide +kernel
theorem dX0_setKindOfAll_8 : decode cX0_setKindOfAll 8 = .ok (.aload_n 0, 1) := by decide +kernel
theorem dX0_setKindOfAll_9 : decode cX0_setKindOfAll 9 = .ok (.iload_n 1, 1) := by decide +kernel
theorem dX0_setKindOfAll_10 : decode cX0_setKindOfAll 10 = .ok (.iload_n 3, 1) := by decide +kernel
theorem dX0_setKindOfAll_11 : decode cX0_setKindOfAll 11 = .ok (.invokestatic 92, 3) := by decide +kernel
theorem dX0_setKindOfAll_14 : decode cX0_setKindOfAll 14 = .ok (.iload_n 2, 1) := by decide +kernel
theorem dX0_setKindOfAll_15 : decode cX0_setKindOfAll 15 = .ok (.invokevirtual 145, 3) := by decide +kernel
theorem dX0_setKindOfAll_18 : decode cX0_setKindOfAll 18 = .ok (.iinc 3 1, 3) := by decide +kernel
theorem dX0_setKindOfAll_21 : decode cX0_setKindOfAll 21 = .ok (.goto (-19), 3) := by decide +kernel
theorem dX0_setKindOfAll_24 : decode cX0_setKindOfAll 24 = .ok (.return_, 1) := by decide +kernel
theorem dX0_drawPower_0 : decode cX0_drawPower 0 = .ok (.aload_n 0, 1) := by decide +kernel
theorem dX0_drawPower_1 : decode cX0_drawPower 1 = .ok (.getfield 49, 3) := by decide +kernel
theorem dX0_drawPower_4 : decode cX0_drawPower 4 = .ok (.ifCond .ne 8, 3) := by decide +kernel
theorem dX0_drawPower_7 : decode cX0_drawPower 7 = .ok (.aload_n 0, 1) := by decide +kernel
theorem dX0_drawPower_8 : decode cX0_drawPower 8 = .ok (.iconst 1, 1) := by decide +kernel
theorem dX0_drawPower_9 : decode cX0_drawPower 9 = .ok (.putfield 45, 3) := by decide +kernel
theorem dX0_drawPower_12 : decode cX0_drawPower 12 = .ok (.aload_n 0, 1) := by decide +kernel
theorem dX0_drawPower_13 : decode cX0_drawPower 13 = .ok (.getfield 45, 3) := by decide +kernel
theorem dX0_drawPower_16 : decode cX0_drawPower 16 = .ok (.ifCond .eq 5, 3) := by decide +kernel
theorem dX0_drawPower_19 : decode cX0_drawPower 19 = .ok (.iconst 0, 1) := by decide +kernel
theorem dX0_drawPower_20 : decode cX0_drawPower 20 = .ok (.ireturn, 1) := by decide +kernel
theorem dX0_drawPower_21 : decode cX0_drawPower 21 = .ok (.aload_n 0, 1) := by decide +kernel
theorem dX0_drawPower_22 : decode cX0_drawPower 22 = .ok (.getfield 49, 3) := by decide +kernel
theorem dX0_drawPower_25 : decode cX0_drawPower 25 = .ok (.iconst (-1), 1) := by decide +kernel
theorem dX0_drawPower_26 : decode cX0_drawPower 26 = .ok (.if_icmp .eq 13, 3) := by decide +kernel
theorem dX0_drawPower_29 : decode cX0_drawPower 29 = .ok (.aload_n 0, 1) := by decide +kernel
theorem dX0_drawPower_30 : decode cX0_drawPower 30 = .ok (.dup, 1) := by decide +kernel
theorem dX0_drawPower_31 : decode cX0_drawPower 31 = .ok (.getfield 49, 3) := by decide +kernel
theorem dX0_drawPower_34 : decode cX0_drawPower 34 = .ok (.iconst 1, 1) := by decide +kernel
theorem dX0_drawPower_35 : decode cX0_drawPower 35 = .ok (.isub, 1) := by decide +kernel
theorem dX0_drawPower_36 : decode cX0_drawPower 36 = .ok (.putfield 49, 3) := by decide +kernel
theorem dX0_drawPower_39 : decode cX0_drawPower 39 = .ok (.iconst 1, 1) := by decide +kernel
theorem dX0_drawPower_40 : decode cX0_drawPower 40 = .ok (.ireturn, 1) := by decide +kernel
theorem dX0_putTape_0 : decode cX0_putTape 0 = .ok (.iload_n 1, 1) := by decide +kernel
theorem dX0_putTape_1 : decode cX0_putTape 1 = .ok (.bipush 9, 2) := by decide +kernel
theorem dX0_putTape_3 : decode cX0_putTape 3 = .ok (.imul, 1) := by decide +kernel
theorem dX0_putTape_4 : decode cX0_putTape 4 = .ok (.istore_n 3, 1) := by decide +kernel
theorem dX0_putTape_5 : decode cX0_putTape 5 = .ok (.aload_n 0, 1) := by decide +kernel
theorem dX0_putTape_6 : decode cX0_putTape 6 = .ok (.getfield 33, 3) := by decide +kernel
theorem dX0_putTape_9 : decode cX0_putTape 9 = .ok (.iconst 0, 1) := by decide +kernel
theorem dX0_putTape_10 : decode cX0_putTape 10 = .ok (.aload_n 0, 1) := by decide +kernel
theorem dX0_putTape_11 : decode cX0_putTape 11 = .ok (.getfield 9, 3) := by decide +kernel
theorem dX0_putTape_14 : decode cX0_putTape 14 = .ok (.iload_n 3, 1) := by decide +kernel
theorem dX0_putTape_15 : decode cX0_putTape 15 = .ok (.bipush 8, 2) := by decide +kernel
theorem dX0_putTape_17 : decode cX0_putTape 17 = .ok (.invokestatic 106, 3) := by decide +kernel
theorem dX0_putTape_20 : decode cX0_putTape 20 = .ok (.aload_n 0, 1) := by decide +kernel
theorem dX0_putTape_21 : decode cX0_putTape 21 = .ok (.getfield 9, 3) := by decide +kernel
theorem dX0_putTape_24 : decode cX0_putTape 24 = .ok (.iload_n 3, 1) := by decide +kernel
theorem dX0_putTape_25 : decode cX0_putTape 25 = .ok (.bipush 8, 2) := by decide +kernel
theorem dX0_putTape_27 : decode cX0_putTape 27 = .ok (.iadd, 1) := by decide +kernel
theorem dX0_putTape_28 : decode cX0_putTape 28 = .ok (.iload_n 2, 1) := by decide +kernel
theorem dX0_putTape_29 : decode cX0_putTape 29 = .ok (.i2l, 1) := by decide +kernel
theorem dX0_putTape_30 : decode cX0_putTape 30 = .ok (.lastore, 1) := by decide +kernel
theorem dX0_putTape_31 : decode cX0_putTape 31 = .ok (.aload_n 0, 1) := by decide +kernel
theorem dX0_putTape_32 : decode cX0_putTape 32 = .ok (.getfield 9, 3) := by decide +kernel
theorem dX0_putTape_35 : decode cX0_putTape 35 = .ok (.iload_n 3, 1) := by decide +kernel
theorem dX0_putTape_36 : decode cX0_putTape 36 = .ok (.bipush 8, 2) := by decide +kernel
theorem dX0_putTape_38 : decode cX0_putTape 38 = .ok (.iadd, 1) := by decide +kernel
theorem dX0_putTape_39 : decode cX0_putTape 39 = .ok (.dup2, 1) := by decide +kernel
theorem dX0_putTape_40 : decode cX0_putTape 40 = .ok (.laload, 1) := by decide +kernel
theorem dX0_putTape_41 : decode cX0_putTape 41 = .ok (.aload_n 0, 1) := by decide +kernel
theorem dX0_putTape_42 : decode cX0_putTape 42 = .ok (.iload_n 3, 1) := by decide +kernel
theorem dX0_putTape_43 : decode cX0_putTape 43 = .ok (.invokevirtual 164, 3) := by decide +kernel
theorem dX0_putTape_46 : decode cX0_putTape 46 = .ok (.bipush 16, 2) := by decide +kernel
theorem dX0_putTape_48 : decode cX0_putTape 48 = .ok (.lshl, 1) := by decide +kernel
theorem dX0_putTape_49 : decode cX0_putTape 49 = .ok (.lor, 1) := by decide +kernel
theorem dX0_putTape_50 : decode cX0_putTape 50 = .ok (.lastore, 1) := by decide +kernel
theorem dX0_putTape_51 : decode cX0_putTape 51 = .ok (.aload_n 0, 1) := by decide +kernel
theorem dX0_putTape_52 : decode cX0_putTape 52 = .ok (.getfield 9, 3) := by decide +kernel
theorem dX0_putTape_55 : decode cX0_putTape 55 = .ok (.iload_n 3, 1) := by decide +kernel
theorem dX0_putTape_56 : decode cX0_putTape 56 = .ok (.aload_n 0, 1) := by decide +kernel
theorem dX0_putTape_57 : decode cX0_putTape 57 = .ok (.getfield 13, 3) := by decide +kernel
theorem dX0_putTape_60 : decode cX0_putTape 60 = .ok (.iload_n 3, 1) := by decide +kernel
theorem dX0_putTape_61 : decode cX0_putTape 61 = .ok (.bipush 9, 2) := by decide +kernel
theorem dX0_putTape_63 : decode cX0_putTape 63 = .ok (.invokestatic 106, 3) := by decide +kernel
theorem dX0_putTape_66 : decode cX0_putTape 66 = .ok (.aload_n 0, 1) := by decide +kernel
theorem dX0_putTape_67 : decode cX0_putTape 67 = .ok (.iload_n 1, 1) := by decide +kernel
theorem dX0_putTape_68 : decode cX0_putTape 68 = .ok (.iconst 2, 1) := by decide +kernel
theorem dX0_putTape_69 : decode cX0_putTape 69 = .ok (.invokevirtual 145, 3) := by decide +kernel
theorem dX0_putTape_72 : decode cX0_putTape 72 = .ok (.return_, 1) := by decide +kernel
theorem dX0_clearTape_0 : decode cX0_clearTape 0 = .ok (.aload_n 0, 1) := by decide +kernel
theorem dX0_clearTape_1 : decode cX0_clearTape 1 = .ok (.getfield 33, 3) := by decide +kernel
theorem dX0_clearTape_4 : decode cX0_clearTape 4 = .ok (.lconst 0, 1) := by decide +kernel
theorem dX0_clearTape_5 : decode cX0_clearTape 5 = .ok (.invokestatic 168, 3) := by decide +kernel
theorem dX0_clearTape_8 : decode cX0_clearTape 8 = .ok (.aload_n 0, 1) := by decide +kernel
theorem dX0_clearTape_9 : decode cX0_clearTape 9 = .ok (.iconst 0, 1) := by decide +kernel
theorem dX0_clearTape_10 : decode cX0_clearTape 10 = .ok (.putfield 36, 3) := by decide +kernel
theorem dX0_clearTape_13 : decode cX0_clearTape 13 = .ok (.return_, 1) := by decide +kernel
theorem dX0_isAsWritten_0 : decode cX0_isAsWritten 0 = .ok (.iload_n 1, 1) := by decide +kernel
theorem dX0_isAsWritten_1 : decode cX0_isAsWritten 1 = .ok (.istore_n 2, 1) := by decide +kernel
theorem dX0_isAsWritten_2 : decode cX0_isAsWritten 2 = .ok (.iload_n 2, 1) := by decide +kernel
theorem dX0_isAsWritten_3 : decode cX0_isAsWritten 3 = .ok (.iload_n 1, 1) := by decide +kernel
theorem dX0_isAsWritten_4 : decode cX0_isAsWritten 4 = .ok (.bipush 9, 2) := by decide +kernel
theorem dX0_isAsWritten_6 : decode cX0_isAsWritten 6 = .ok (.iadd, 1) := by decide +kernel
theorem dX0_isAsWritten_7 : decode cX0_isAsWritten 7 = .ok (.if_icmp .ge 27, 3) := by decide +kernel
theorem dX0_isAsWritten_10 : decode cX0_isAsWritten 10 = .ok (.aload_n 0, 1) := by decide +kernel
theorem dX0_isAsWritten_11 : decode cX0_isAsWritten 11 = .ok (.getfield 9, 3) := by decide +kernel
theorem dX0_isAsWritten_14 : decode cX0_isAsWritten 14 = .ok (.iload_n 2, 1) := by decide +kernel
theorem dX0_isAsWritten_15 : decode cX0_isAsWritten 15 = .ok (.laload, 1) := by decide +kernel
theorem dX0_isAsWritten_16 : decode cX0_isAsWritten 16 = .ok (.aload_n 0, 1) := by decide +kernel
theorem dX0_isAsWritten_17 : decode cX0_isAsWritten 17 = .ok (.getfield 13, 3) := by decide +kernel
theorem dX0_isAsWritten_20 : decode cX0_isAsWritten 20 = .ok (.iload_n 2, 1) := by decide +kernel
theorem dX0_isAsWritten_21 : decode cX0_isAsWritten 21 = .ok (.laload, 1) := by decide +kernel
theorem dX0_isAsWritten_22 : decode cX0_isAsWritten 22 = .ok (.lcmp, 1) := by decide +kernel
theorem dX0_isAsWritten_23 : decode cX0_isAsWritten 23 = .ok (.ifCond .eq 5, 3) := by decide +kernel
theorem dX0_isAsWritten_26 : decode cX0_isAsWritten 26 = .ok (.iconst 0, 1) := by decide +kernel
theorem dX0_isAsWritten_27 : decode cX0_isAsWritten 27 = .ok (.ireturn, 1) := by decide +kernel
theorem dX0_isAsWritten_28 : decode cX0_isAsWritten 28 = .ok (.iinc 2 1, 3) := by decide +kernel
theorem dX0_isAsWritten_31 : decode cX0_isAsWritten 31 = .ok (.goto (-29), 3) := by decide +kernel
theorem dX0_isAsWritten_34 : decode cX0_isAsWritten 34 = .ok (.iconst 1, 1) := by decide +kernel
theorem dX0_isAsWritten_35 : decode cX0_isAsWritten 35 = .ok (.ireturn, 1) := by decide +kernel
theorem dX0_hasItsCheck_0 : decode cX0_hasItsCheck 0 = .ok (.aload_n 0, 1) := by decide +kernel
theorem dX0_hasItsCheck_1 : decode cX0_hasItsCheck 1 = .ok (.getfield 9, 3) := by decide +kernel
theorem dX0_hasItsCheck_4 : decode cX0_hasItsCheck 4 = .ok (.iload_n 1, 1) := by decide +kernel
theorem dX0_hasItsCheck_5 : decode cX0_hasItsCheck 5 = .ok (.bipush 8, 2) := by decide +kernel
theorem dX0_hasItsCheck_7 : decode cX0_hasItsCheck 7 = .ok (.iadd, 1) := by decide +kernel
theorem dX0_hasItsCheck_8 : decode cX0_hasItsCheck 8 = .ok (.laload, 1) := by decide +kernel
theorem dX0_hasItsCheck_9 : decode cX0_hasItsCheck 9 = .ok (.bipush 16, 2) := by decide +kernel
theorem dX0_hasItsCheck_11 : decode cX0_hasItsCheck 11 = .ok (.lushr, 1) := by decide +kernel
theorem dX0_hasItsCheck_12 : decode cX0_hasItsCheck 12 = .ok (.aload_n 0, 1) := by decide +kernel
theorem dX0_hasItsCheck_13 : decode cX0_hasItsCheck 13 = .ok (.iload_n 1, 1) := by decide +kernel
theorem dX0_hasItsCheck_14 : decode cX0_hasItsCheck 14 = .ok (.invokevirtual 164, 3) := by decide +kernel
theorem dX0_hasItsCheck_17 : decode cX0_hasItsCheck 17 = .ok (.lcmp, 1) := by decide +kernel
theorem dX0_hasItsCheck_18 : decode cX0_hasItsCheck 18 = .ok (.ifCond .ne 7, 3) := by decide +kernel
theorem dX0_hasItsCheck_21 : decode cX0_hasItsCheck 21 = .ok (.iconst 1, 1) := by decide +kernel
theorem dX0_hasItsCheck_22 : decode cX0_hasItsCheck 22 = .ok (.goto 4, 3) := by decide +kernel
theorem dX0_hasItsCheck_25 : decode cX0_hasItsCheck 25 = .ok (.iconst 0, 1) := by decide +kernel
theorem dX0_hasItsCheck_26 : decode cX0_hasItsCheck 26 = .ok (.ireturn, 1) := by decide +kernel
theorem dX0_checkOf_0 : decode cX0_checkOf 0 = .ok (.ldc2_w 171, 3) := by decide +kernel
end
section
theorem dX0_checkOf_3 : decode cX0_checkOf 3 = .ok (.lstore_n 2, 1) := by decide +kernel
theorem dX0_checkOf_4 : decode cX0_checkOf 4 = .ok (.iconst 0, 1) := by decide +kernel
theorem dX0_checkOf_5 : decode cX0_checkOf 5 = .ok (.istore 4, 2) := by decide +kernel
theorem dX0_checkOf_7 : decode cX0_checkOf 7 = .ok (.iload 4, 2) := by decide +kernel
theorem dX0_checkOf_9 : decode cX0_checkOf 9 = .ok (.bipush 66, 2) := by decide +kernel
theorem dX0_checkOf_11 : decode cX0_checkOf 11 = .ok (.if_icmp .ge 61, 3) := by decide +kernel
theorem dX0_checkOf_14 : decode cX0_checkOf 14 = .ok (.lload_n 2, 1) := by decide +kernel
theorem dX0_checkOf_15 : decode cX0_checkOf 15 = .ok (.aload_n 0, 1) := by decide +kernel
theorem dX0_checkOf_16 : decode cX0_checkOf 16 = .ok (.getfield 9, 3) := by decide +kernel
theorem dX0_checkOf_19 : decode cX0_checkOf 19 = .ok (.iload_n 1, 1) := by decide +kernel
theorem dX0_checkOf_20 : decode cX0_checkOf 20 = .ok (.iload 4, 2) := by decide +kernel
theorem dX0_checkOf_22 : decode cX0_checkOf 22 = .ok (.invokestatic 122, 3) := by decide +kernel
theorem dX0_checkOf_25 : decode cX0_checkOf 25 = .ok (.i2l, 1) := by decide +kernel
theorem dX0_checkOf_26 : decode cX0_checkOf 26 = .ok (.lxor, 1) := by decide +kernel
theorem dX0_checkOf_27 : decode cX0_checkOf 27 = .ok (.lstore_n 2, 1) := by decide +kernel
theorem dX0_checkOf_28 : decode cX0_checkOf 28 = .ok (.iconst 0, 1) := by decide +kernel
theorem dX0_checkOf_29 : decode cX0_checkOf 29 = .ok (.istore 5, 2) := by decide +kernel
theorem dX0_checkOf_31 : decode cX0_checkOf 31 = .ok (.iload 5, 2) := by decide +kernel
theorem dX0_checkOf_33 : decode cX0_checkOf 33 = .ok (.bipush 8, 2) := by decide +kernel
theorem dX0_checkOf_35 : decode cX0_checkOf 35 = .ok (.if_icmp .ge 31, 3) := by decide +kernel
theorem dX0_checkOf_38 : decode cX0_checkOf 38 = .ok (.lload_n 2, 1) := by decide +kernel
theorem dX0_checkOf_39 : decode cX0_checkOf 39 = .ok (.lconst 1, 1) := by decide +kernel
theorem dX0_checkOf_40 : decode cX0_checkOf 40 = .ok (.land, 1) := by decide +kernel
theorem dX0_checkOf_41 : decode cX0_checkOf 41 = .ok (.lconst 0, 1) := by decide +kernel
theorem dX0_checkOf_42 : decode cX0_checkOf 42 = .ok (.lcmp, 1) := by decide +kernel
theorem dX0_checkOf_43 : decode cX0_checkOf 43 = .ok (.ifCond .eq 13, 3) := by decide +kernel
theorem dX0_checkOf_46 : decode cX0_checkOf 46 = .ok (.lload_n 2, 1) := by decide +kernel
theorem dX0_checkOf_47 : decode cX0_checkOf 47 = .ok (.iconst 1, 1) := by decide +kernel
theorem dX0_checkOf_48 : decode cX0_checkOf 48 = .ok (.lushr, 1) := by decide +kernel
theorem dX0_checkOf_49 : decode cX0_checkOf 49 = .ok (.ldc2_w 173, 3) := by decide +kernel
theorem dX0_checkOf_52 : decode cX0_checkOf 52 = .ok (.lxor, 1) := by decide +kernel
theorem dX0_checkOf_53 : decode cX0_checkOf 53 = .ok (.goto 6, 3) := by decide +kernel
theorem dX0_checkOf_56 : decode cX0_checkOf 56 = .ok (.lload_n 2, 1) := by decide +kernel
theorem dX0_checkOf_57 : decode cX0_checkOf 57 = .ok (.iconst 1, 1) := by decide +kernel
theorem dX0_checkOf_58 : decode cX0_checkOf 58 = .ok (.lushr, 1) := by decide +kernel
theorem dX0_checkOf_59 : decode cX0_checkOf 59 = .ok (.lstore_n 2, 1) := by decide +kernel
theorem dX0_checkOf_60 : decode cX0_checkOf 60 = .ok (.iinc 5 1, 3) := by decide +kernel
theorem dX0_checkOf_63 : decode cX0_checkOf 63 = .ok (.goto (-32), 3) := by decide +kernel
theorem dX0_checkOf_66 : decode cX0_checkOf 66 = .ok (.iinc 4 1, 3) := by decide +kernel
theorem dX0_checkOf_69 : decode cX0_checkOf 69 = .ok (.goto (-62), 3) := by decide +kernel
theorem dX0_checkOf_72 : decode cX0_checkOf 72 = .ok (.lload_n 2, 1) := by decide +kernel
theorem dX0_checkOf_73 : decode cX0_checkOf 73 = .ok (.ldc2_w 171, 3) := by decide +kernel
theorem dX0_checkOf_76 : decode cX0_checkOf 76 = .ok (.lxor, 1) := by decide +kernel
theorem dX0_checkOf_77 : decode cX0_checkOf 77 = .ok (.lreturn, 1) := by decide +kernel
theorem dX0_byteOf_0 : decode cX0_byteOf 0 = .ok (.aload_n 0, 1) := by decide +kernel
theorem dX0_byteOf_1 : decode cX0_byteOf 1 = .ok (.iload_n 1, 1) := by decide +kernel
theorem dX0_byteOf_2 : decode cX0_byteOf 2 = .ok (.iload_n 2, 1) := by decide +kernel
theorem dX0_byteOf_3 : decode cX0_byteOf 3 = .ok (.bipush 8, 2) := by decide +kernel
theorem dX0_byteOf_5 : decode cX0_byteOf 5 = .ok (.idiv, 1) := by decide +kernel
theorem dX0_byteOf_6 : decode cX0_byteOf 6 = .ok (.iadd, 1) := by decide +kernel
theorem dX0_byteOf_7 : decode cX0_byteOf 7 = .ok (.laload, 1) := by decide +kernel
theorem dX0_byteOf_8 : decode cX0_byteOf 8 = .ok (.iload_n 2, 1) := by decide +kernel
theorem dX0_byteOf_9 : decode cX0_byteOf 9 = .ok (.bipush 8, 2) := by decide +kernel
theorem dX0_byteOf_11 : decode cX0_byteOf 11 = .ok (.irem, 1) := by decide +kernel
theorem dX0_byteOf_12 : decode cX0_byteOf 12 = .ok (.bipush 8, 2) := by decide +kernel
theorem dX0_byteOf_14 : decode cX0_byteOf 14 = .ok (.imul, 1) := by decide +kernel
theorem dX0_byteOf_15 : decode cX0_byteOf 15 = .ok (.lushr, 1) := by decide +kernel
theorem dX0_byteOf_16 : decode cX0_byteOf 16 = .ok (.l2i, 1) := by decide +kernel
theorem dX0_byteOf_17 : decode cX0_byteOf 17 = .ok (.sipush 255, 3) := by decide +kernel
theorem dX0_byteOf_20 : decode cX0_byteOf 20 = .ok (.iand, 1) := by decide +kernel
theorem dX0_byteOf_21 : decode cX0_byteOf 21 = .ok (.ireturn, 1) := by decide +kernel
theorem dX0_turnBytes_0 : decode cX0_turnBytes 0 = .ok (.iconst 0, 1) := by decide +kernel
theorem dX0_turnBytes_1 : decode cX0_turnBytes 1 = .ok (.istore 6, 2) := by decide +kernel
theorem dX0_turnBytes_3 : decode cX0_turnBytes 3 = .ok (.iload 6, 2) := by decide +kernel
theorem dX0_turnBytes_5 : decode cX0_turnBytes 5 = .ok (.iload 5, 2) := by decide +kernel
theorem dX0_turnBytes_7 : decode cX0_turnBytes 7 = .ok (.if_icmp .ge 47, 3) := by decide +kernel
theorem dX0_turnBytes_10 : decode cX0_turnBytes 10 = .ok (.iload_n 2, 1) := by decide +kernel
theorem dX0_turnBytes_11 : decode cX0_turnBytes 11 = .ok (.iload 6, 2) := by decide +kernel
theorem dX0_turnBytes_13 : decode cX0_turnBytes 13 = .ok (.iadd, 1) := by decide +kernel
theorem dX0_turnBytes_14 : decode cX0_turnBytes 14 = .ok (.istore 7, 2) := by decide +kernel
theorem dX0_turnBytes_16 : decode cX0_turnBytes 16 = .ok (.aload_n 0, 1) := by decide +kernel
theorem dX0_turnBytes_17 : decode cX0_turnBytes 17 = .ok (.iload_n 1, 1) := by decide +kernel
theorem dX0_turnBytes_18 : decode cX0_turnBytes 18 = .ok (.iload 7, 2) := by decide +kernel
theorem dX0_turnBytes_20 : decode cX0_turnBytes 20 = .ok (.bipush 8, 2) := by decide +kernel
theorem dX0_turnBytes_22 : decode cX0_turnBytes 22 = .ok (.idiv, 1) := by decide +kernel
theorem dX0_turnBytes_23 : decode cX0_turnBytes 23 = .ok (.iadd, 1) := by decide +kernel
theorem dX0_turnBytes_24 : decode cX0_turnBytes 24 = .ok (.dup2, 1) := by decide +kernel
theorem dX0_turnBytes_25 : decode cX0_turnBytes 25 = .ok (.laload, 1) := by decide +kernel
theorem dX0_turnBytes_26 : decode cX0_turnBytes 26 = .ok (.lload_n 3, 1) := by decide +kernel
theorem dX0_turnBytes_27 : decode cX0_turnBytes 27 = .ok (.iload 6, 2) := by decide +kernel
theorem dX0_turnBytes_29 : decode cX0_turnBytes 29 = .ok (.bipush 8, 2) := by decide +kernel
theorem dX0_turnBytes_31 : decode cX0_turnBytes 31 = .ok (.imul, 1) := by decide +kernel
theorem dX0_turnBytes_32 : decode cX0_turnBytes 32 = .ok (.lushr, 1) := by decide +kernel
theorem dX0_turnBytes_33 : decode cX0_turnBytes 33 = .ok (.ldc2_w 175, 3) := by decide +kernel
theorem dX0_turnBytes_36 : decode cX0_turnBytes 36 = .ok (.land, 1) := by decide +kernel
theorem dX0_turnBytes_37 : decode cX0_turnBytes 37 = .ok (.iload 7, 2) := by decide +kernel
theorem dX0_turnBytes_39 : decode cX0_turnBytes 39 = .ok (.bipush 8, 2) := by decide +kernel
theorem dX0_turnBytes_41 : decode cX0_turnBytes 41 = .ok (.irem, 1) := by decide +kernel
theorem dX0_turnBytes_42 : decode cX0_turnBytes 42 = .ok (.bipush 8, 2) := by decide +kernel
theorem dX0_turnBytes_44 : decode cX0_turnBytes 44 = .ok (.imul, 1) := by decide +kernel
theorem dX0_turnBytes_45 : decode cX0_turnBytes 45 = .ok (.lshl, 1) := by decide +kernel
theorem dX0_turnBytes_46 : decode cX0_turnBytes 46 = .ok (.lxor, 1) := by decide +kernel
theorem dX0_turnBytes_47 : decode cX0_turnBytes 47 = .ok (.lastore, 1) := by decide +kernel
theorem dX0_turnBytes_48 : decode cX0_turnBytes 48 = .ok (.iinc 6 1, 3) := by decide +kernel
theorem dX0_turnBytes_51 : decode cX0_turnBytes 51 = .ok (.goto (-48), 3) := by decide +kernel
theorem dX0_turnBytes_54 : decode cX0_turnBytes 54 = .ok (.return_, 1) := by decide +kernel
theorem dX1_init_0 : decode cX1_init 0 = .ok (.aload_n 0, 1) := by decide +kernel
theorem dX1_init_1 : decode cX1_init 1 = .ok (.invokespecial 1, 3) := by decide +kernel
theorem dX1_init_4 : decode cX1_init 4 = .ok (.aload_n 0, 1) := by decide +kernel
theorem dX1_init_5 : decode cX1_init 5 = .ok (.bipush 64, 2) := by decide +kernel
theorem dX1_init_7 : decode cX1_init 7 = .ok (.newarray .int, 2) := by decide +kernel
theorem dX1_init_9 : decode cX1_init 9 = .ok (.putfield 7, 3) := by decide +kernel
theorem dX1_init_12 : decode cX1_init 12 = .ok (.aload_n 0, 1) := by decide +kernel
theorem dX1_init_13 : decode cX1_init 13 = .ok (.bipush 64, 2) := by decide +kernel
theorem dX1_init_15 : decode cX1_init 15 = .ok (.newarray .int, 2) := by decide +kernel
theorem dX1_init_17 : decode cX1_init 17 = .ok (.putfield 13, 3) := by decide +kernel
theorem dX1_init_20 : decode cX1_init 20 = .ok (.aload_n 0, 1) := by decide +kernel
theorem dX1_init_21 : decode cX1_init 21 = .ok (.bipush 16, 2) := by decide +kernel
theorem dX1_init_23 : decode cX1_init 23 = .ok (.newarray .boolean, 2) := by decide +kernel
theorem dX1_init_25 : decode cX1_init 25 = .ok (.putfield 16, 3) := by decide +kernel
theorem dX1_init_28 : decode cX1_init 28 = .ok (.aload_n 0, 1) := by decide +kernel
theorem dX1_init_29 : decode cX1_init 29 = .ok (.sipush 1056, 3) := by decide +kernel
theorem dX1_init_32 : decode cX1_init 32 = .ok (.newarray .boolean, 2) := by decide +kernel
theorem dX1_init_34 : decode cX1_init 34 = .ok (.putfield 20, 3) := by decide +kernel
theorem dX1_init_37 : decode cX1_init 37 = .ok (.aload_n 0, 1) := by decide +kernel
theorem dX1_init_38 : decode cX1_init 38 = .ok (.ldc 23, 2) := by decide +kernel
theorem dX1_init_40 : decode cX1_init 40 = .ok (.newarray .byte, 2) := by decide +kernel
theorem dX1_init_42 : decode cX1_init 42 = .ok (.putfield 24, 3) := by decide +kernel
theorem dX1_init_45 : decode cX1_init 45 = .ok (.aload_n 0, 1) := by decide +kernel
theorem dX1_init_46 : decode cX1_init 46 = .ok (.ldc 23, 2) := by decide +kernel
theorem dX1_init_48 : decode cX1_init 48 = .ok (.newarray .byte, 2) := by decide +kernel
theorem dX1_init_50 : decode cX1_init 50 = .ok (.putfield 28, 3) := by decide +kernel
theorem dX1_init_53 : decode cX1_init 53 = .ok (.aload_n 0, 1) := by decide +kernel
theorem dX1_init_54 : decode cX1_init 54 = .ok (.ldc2_w 31, 3) := by decide +kernel
theorem dX1_init_57 : decode cX1_init 57 = .ok (.putfield 33, 3) := by decide +kernel
theorem dX1_init_60 : decode cX1_init 60 = .ok (.aload_n 0, 1) := by decide +kernel
theorem dX1_init_61 : decode cX1_init 61 = .ok (.sipush 560, 3) := by decide +kernel
theorem dX1_init_64 : decode cX1_init 64 = .ok (.newarray .boolean, 2) := by decide +kernel
theorem dX1_init_66 : decode cX1_init 66 = .ok (.putfield 37, 3) := by decide +kernel
theorem dX1_init_69 : decode cX1_init 69 = .ok (.iconst 0, 1) := by decide +kernel
theorem dX1_init_70 : decode cX1_init 70 = .ok (.istore_n 1, 1) := by decide +kernel
theorem dX1_init_71 : decode cX1_init 71 = .ok (.iload_n 1, 1) := by decide +kernel
theorem dX1_init_72 : decode cX1_init 72 = .ok (.bipush 16, 2) := by decide +kernel
theorem dX1_init_74 : decode cX1_init 74 = .ok (.if_icmp .ge 16, 3) := by decide +kernel
theorem dX1_init_77 : decode cX1_init 77 = .ok (.aload_n 0, 1) := by decide +kernel
theorem dX1_init_78 : decode cX1_init 78 = .ok (.getfield 16, 3) := by decide +kernel
theorem dX1_init_81 : decode cX1_init 81 = .ok (.iload_n 1, 1) := by decide +kernel
theorem dX1_init_82 : decode cX1_init 82 = .ok (.iconst 1, 1) := by decide +kernel
theorem dX1_init_83 : decode cX1_init 83 = .ok (.bastore, 1) := by decide +kernel
theorem dX1_init_84 : decode cX1_init 84 = .ok (.iinc 1 1, 3) := by decide +kernel
theorem dX1_init_87 : decode cX1_init 87 = .ok (.goto (-16), 3) := by decide +kernel
theorem dX1_init_90 : decode cX1_init 90 = .ok (.return_, 1) := by decide +kernel
theorem dX1_thrown_0 : decode cX1_thrown 0 = .ok (.aload_n 0, 1) := by decide +kernel
theorem dX1_thrown_1 : decode cX1_thrown 1 = .ok (.getfield 40, 3) := by decide +kernel
theorem dX1_thrown_4 : decode cX1_thrown 4 = .ok (.ireturn, 1) := by decide +kernel
theorem dX1_fails_0 : decode cX1_fails 0 = .ok (.aload_n 0, 1) := by decide +kernel
theorem dX1_fails_1 : decode cX1_fails 1 = .ok (.iload_n 1, 1) := by decide +kernel
theorem dX1_fails_2 : decode cX1_fails 2 = .ok (.ifCond .eq 7, 3) := by decide +kernel
theorem dX1_fails_5 : decode cX1_fails 5 = .ok (.iload_n 2, 1) := by decide +kernel
theorem dX1_fails_6 : decode cX1_fails 6 = .ok (.goto 4, 3) := by decide +kernel
theorem dX1_fails_9 : decode cX1_fails 9 = .ok (.iconst 0, 1) := by decide +kernel
theorem dX1_fails_10 : decode cX1_fails 10 = .ok (.putfield 40, 3) := by decide +kernel
theorem dX1_fails_13 : decode cX1_fails 13 = .ok (.iload_n 1, 1) := by decide +kernel
theorem dX1_fails_14 : decode cX1_fails 14 = .ok (.ireturn, 1) := by decide +kernel
theorem dX1_within_0 : decode cX1_within 0 = .ok (.iload_n 0, 1) := by decide +kernel
theorem dX1_within_1 : decode cX1_within 1 = .ok (.iload_n 1, 1) := by decide +kernel
theorem dX1_within_2 : decode cX1_within 2 = .ok (.if_icmp .lt 12, 3) := by decide +kernel
theorem dX1_within_5 : decode cX1_within 5 = .ok (.iload_n 0, 1) := by decide +kernel
theorem dX1_within_6 : decode cX1_within 6 = .ok (.iload_n 2, 1) := by decide +kernel
theorem dX1_within_7 : decode cX1_within 7 = .ok (.if_icmp .gt 7, 3) := by decide +kernel
theorem dX1_within_10 : decode cX1_within 10 = .ok (.iconst 1, 1) := by decide +kernel
theorem dX1_within_11 : decode cX1_within 11 = .ok (.goto 4, 3) := by decide +kernel
theorem dX1_within_14 : decode cX1_within 14 = .ok (.iconst 0, 1) := by decide +kernel
theorem dX1_within_15 : decode cX1_within 15 = .ok (.ireturn, 1) := by decide +kernel
theorem dX1_none_0 : decode cX1_none 0 = .ok (.iload_n 0, 1) := by decide +kernel
theorem dX1_none_1 : decode cX1_none 1 = .ok (.iconst 0, 1) := by decide +kernel
theorem dX1_none_2 : decode cX1_none 2 = .ok (.bipush 15, 2) := by decide +kernel
theorem dX1_none_4 : decode cX1_none 4 = .ok (.invokestatic 44, 3) := by decide +kernel
theorem dX1_none_7 : decode cX1_none 7 = .ok (.ifCond .eq 13, 3) := by decide +kernel
theorem dX1_none_10 : decode cX1_none 10 = .ok (.iload_n 1, 1) := by decide +kernel
theorem dX1_none_11 : decode cX1_none 11 = .ok (.iconst 0, 1) := by decide +kernel
theorem dX1_none_12 : decode cX1_none 12 = .ok (.bipush 65, 2) := by decide +kernel
theorem dX1_none_14 : decode cX1_none 14 = .ok (.invokestatic 44, 3) := by decide +kernel
theorem dX1_none_17 : decode cX1_none 17 = .ok (.ifCond .ne 7, 3) := by decide +kernel
theorem dX1_none_20 : decode cX1_none 20 = .ok (.iconst 1, 1) := by decide +kernel
theorem dX1_none_21 : decode cX1_none 21 = .ok (.goto 4, 3) := by decide +kernel
theorem dX1_none_24 : decode cX1_none 24 = .ok (.iconst 0, 1) := by decide +kernel
theorem dX1_none_25 : decode cX1_none 25 = .ok (.ireturn, 1) := by decide +kernel
theorem dX1_spot_0 : decode cX1_spot 0 = .ok (.bipush 66, 2) := by decide +kernel
theorem dX1_spot_2 : decode cX1_spot 2 = .ok (.iload_n 0, 1) := by decide +kernel
theorem dX1_spot_3 : decode cX1_spot 3 = .ok (.imul, 1) := by decide +kernel
theorem dX1_spot_4 : decode cX1_spot 4 = .ok (.iload_n 1, 1) := by decide +kernel
theorem dX1_spot_5 : decode cX1_spot 5 = .ok (.iadd, 1) := by decide +kernel
theorem dX1_spot_6 : decode cX1_spot 6 = .ok (.ireturn, 1) := by decide +kernel
theorem dX1_divide_0 : decode cX1_divide 0 = .ok (.iconst 0, 1) := by decide +kernel
theorem dX1_divide_1 : decode cX1_divide 1 = .ok (.istore_n 2, 1) := by decide +kernel
theorem dX1_divide_2 : decode cX1_divide 2 = .ok (.iload_n 2, 1) := by decide +kernel
theorem dX1_divide_3 : decode cX1_divide 3 = .ok (.bipush 32, 2) := by decide +kernel
theorem dX1_divide_5 : decode cX1_divide 5 = .ok (.iadd, 1) := by decide +kernel
theorem dX1_divide_6 : decode cX1_divide 6 = .ok (.iload_n 1, 1) := by decide +kernel
theorem dX1_divide_7 : decode cX1_divide 7 = .ok (.if_icmp .ge 63, 3) := by decide +kernel
theorem dX1_divide_10 : decode cX1_divide 10 = .ok (.aload_n 0, 1) := by decide +kernel
theorem dX1_divide_11 : decode cX1_divide 11 = .ok (.getfield 37, 3) := by decide +kernel
theorem dX1_divide_14 : decode cX1_divide 14 = .ok (.iload_n 2, 1) := by decide +kernel
theorem dX1_divide_15 : decode cX1_divide 15 = .ok (.baload, 1) := by decide +kernel
theorem dX1_divide_16 : decode cX1_divide 16 = .ok (.ifCond .ne 6, 3) := by decide +kernel
theorem dX1_divide_19 : decode cX1_divide 19 = .ok (.goto 45, 3) := by decide +kernel
theorem dX1_divide_22 : decode cX1_divide 22 = .ok (.iconst 0, 1) := by decide +kernel
theorem dX1_divide_23 : decode cX1_divide 23 = .ok (.istore_n 3, 1) := by decide +kernel
theorem dX1_divide_24 : decode cX1_divide 24 = .ok (.iload_n 3, 1) := by decide +kernel
theorem dX1_divide_25 : decode cX1_divide 25 = .ok (.bipush 33, 2) := by decide +kernel
theorem dX1_divide_27 : decode cX1_divide 27 = .ok (.if_icmp .ge 37, 3) := by decide +kernel
theorem dX1_divide_30 : decode cX1_divide 30 = .ok (.aload_n 0, 1) := by decide +kernel
theorem dX1_divide_31 : decode cX1_divide 31 = .ok (.getfield 37, 3) := by decide +kernel
theorem dX1_divide_34 : decode cX1_divide 34 = .ok (.iload_n 2, 1) := by decide +kernel
theorem dX1_divide_35 : decode cX1_divide 35 = .ok (.iload_n 3, 1) := by decide +kernel
theorem dX1_divide_36 : decode cX1_divide 36 = .ok (.iadd, 1) := by decide +kernel
theorem dX1_divide_37 : decode cX1_divide 37 = .ok (.dup2, 1) := by decide +kernel
theorem dX1_divide_38 : decode cX1_divide 38 = .ok (.baload, 1) := by decide +kernel
theorem dX1_divide_39 : decode cX1_divide 39 = .ok (.ldc2_w 48, 3) := by decide +kernel
theorem dX1_divide_42 : decode cX1_divide 42 = .ok (.iload_n 3, 1) := by decide +kernel
theorem dX1_divide_43 : decode cX1_divide 43 = .ok (.lshr, 1) := by decide +kernel
theorem dX1_divide_44 : decode cX1_divide 44 = .ok (.lconst 1, 1) := by decide +kernel
theorem dX1_divide_45 : decode cX1_divide 45 = .ok (.land, 1) := by decide +kernel
theorem dX1_divide_46 : decode cX1_divide 46 = .ok (.lconst 1, 1) := by decide +kernel
theorem dX1_divide_47 : decode cX1_divide 47 = .ok (.lcmp, 1) := by decide +kernel
theorem dX1_divide_48 : decode cX1_divide 48 = .ok (.ifCond .ne 7, 3) := by decide +kernel
theorem dX1_divide_51 : decode cX1_divide 51 = .ok (.iconst 1, 1) := by decide +kernel
theorem dX1_divide_52 : decode cX1_divide 52 = .ok (.goto 4, 3) := by decide +kernel
theorem dX1_divide_55 : decode cX1_divide 55 = .ok (.iconst 0, 1) := by decide +kernel
theorem dX1_divide_56 : decode cX1_divide 56 = .ok (.ixor, 1) := by decide +kernel
theorem dX1_divide_57 : decode cX1_divide 57 = .ok (.bastore, 1) := by decide +kernel
theorem dX1_divide_58 : decode cX1_divide 58 = .ok (.iinc 3 1, 3) := by decide +kernel
theorem dX1_divide_61 : decode cX1_divide 61 = .ok (.goto (-37), 3) := by decide +kernel
theorem dX1_divide_64 : decode cX1_divide 64 = .ok (.iinc 2 1, 3) := by decide +kernel
theorem dX1_divide_67 : decode cX1_divide 67 = .ok (.goto (-65), 3) := by decide +kernel
theorem dX1_divide_70 : decode cX1_divide 70 = .ok (.return_, 1) := by decide +kernel
theorem dX1_spread_0 : decode cX1_spread 0 = .ok (.iconst 0, 1) := by decide +kernel
theorem dX1_spread_1 : decode cX1_spread 1 = .ok (.istore 4, 2) := by decide +kernel
theorem dX1_spread_3 : decode cX1_spread 3 = .ok (.iload 4, 2) := by decide +kernel
theorem dX1_spread_5 : decode cX1_spread 5 = .ok (.bipush 8, 2) := by decide +kernel
theorem dX1_spread_7 : decode cX1_spread 7 = .ok (.iload_n 3, 1) := by decide +kernel
theorem dX1_spread_8 : decode cX1_spread 8 = .ok (.imul, 1) := by decide +kernel
theorem dX1_spread_9 : decode cX1_spread 9 = .ok (.if_icmp .ge 42, 3) := by decide +kernel
theorem dX1_spread_12 : decode cX1_spread 12 = .ok (.aload_n 0, 1) := by decide +kernel
theorem dX1_spread_13 : decode cX1_spread 13 = .ok (.getfield 37, 3) := by decide +kernel
theorem dX1_spread_16 : decode cX1_spread 16 = .ok (.iload 4, 2) := by decide +kernel
theorem dX1_spread_18 : decode cX1_spread 18 = .ok (.aload_n 1, 1) := by decide +kernel
theorem dX1_spread_19 : decode cX1_spread 19 = .ok (.iload_n 2, 1) := by decide +kernel
theorem dX1_spread_20 : decode cX1_spread 20 = .ok (.iload 4, 2) := by decide +kernel
theorem dX1_spread_22 : decode cX1_spread 22 = .ok (.bipush 8, 2) := by decide +kernel
theorem dX1_spread_24 : decode cX1_spread 24 = .ok (.idiv, 1) := by decide +kernel
theorem dX1_spread_25 : decode cX1_spread 25 = .ok (.iadd, 1) := by decide +kernel
theorem dX1_spread_26 : decode cX1_spread 26 = .ok (.baload, 1) := by decide +kernel
theorem dX1_spread_27 : decode cX1_spread 27 = .ok (.iload 4, 2) := by decide +kernel
theorem dX1_spread_29 : decode cX1_spread 29 = .ok (.bipush 8, 2) := by decide +kernel
theorem dX1_spread_31 : decode cX1_spread 31 = .ok (.irem, 1) := by decide +kernel
theorem dX1_spread_32 : decode cX1_spread 32 = .ok (.ishr, 1) := by decide +kernel
theorem dX1_spread_33 : decode cX1_spread 33 = .ok (.iconst 1, 1) := by decide +kernel
theorem dX1_spread_34 : decode cX1_spread 34 = .ok (.iand, 1) := by decide +kernel
theorem dX1_spread_35 : decode cX1_spread 35 = .ok (.iconst 1, 1) := by decide +kernel
theorem dX1_spread_36 : decode cX1_spread 36 = .ok (.if_icmp .ne 7, 3) := by decide +kernel
theorem dX1_spread_39 : decode cX1_spread 39 = .ok (.iconst 1, 1) := by decide +kernel
theorem dX1_spread_40 : decode cX1_spread 40 = .ok (.goto 4, 3) := by decide +kernel
theorem dX1_spread_43 : decode cX1_spread 43 = .ok (.iconst 0, 1) := by decide +kernel
theorem dX1_spread_44 : decode cX1_spread 44 = .ok (.bastore, 1) := by decide +kernel
theorem dX1_spread_45 : decode cX1_spread 45 = .ok (.iinc 4 1, 3) := by decide +kernel
theorem dX1_spread_48 : decode cX1_spread 48 = .ok (.goto (-45), 3) := by decide +kernel
theorem dX1_spread_51 : decode cX1_spread 51 = .ok (.return_, 1) := by decide +kernel
theorem dX1_check_0 : decode cX1_check 0 = .ok (.aload_n 0, 1) := by decide +kernel
theorem dX1_check_1 : decode cX1_check 1 = .ok (.aload_n 0, 1) := by decide +kernel
theorem dX1_check_2 : decode cX1_check 2 = .ok (.getfield 24, 3) := by decide +kernel
theorem dX1_check_5 : decode cX1_check 5 = .ok (.iload_n 1, 1) := by decide +kernel
theorem dX1_check_6 : decode cX1_check 6 = .ok (.bipush 66, 2) := by decide +kernel
theorem dX1_check_8 : decode cX1_check 8 = .ok (.invokevirtual 50, 3) := by decide +kernel
theorem dX1_check_11 : decode cX1_check 11 = .ok (.sipush 528, 3) := by decide +kernel
theorem dX1_check_14 : decode cX1_check 14 = .ok (.istore_n 2, 1) := by decide +kernel
theorem dX1_check_15 : decode cX1_check 15 = .ok (.iload_n 2, 1) := by decide +kernel
theorem dX1_check_16 : decode cX1_check 16 = .ok (.sipush 560, 3) := by decide +kernel
theorem dX1_check_19 : decode cX1_check 19 = .ok (.if_icmp .ge 16, 3) := by decide +kernel
theorem dX1_check_22 : decode cX1_check 22 = .ok (.aload_n 0, 1) := by decide +kernel
theorem dX1_check_23 : decode cX1_check 23 = .ok (.getfield 37, 3) := by decide +kernel
theorem dX1_check_26 : decode cX1_check 26 = .ok (.iload_n 2, 1) := by decide +kernel
theorem dX1_check_27 : decode cX1_check 27 = .ok (.iconst 0, 1) := by decide +kernel
theorem dX1_check_28 : decode cX1_check 28 = .ok (.bastore, 1) := by decide +kernel
theorem dX1_check_29 : decode cX1_check 29 = .ok (.iinc 2 1, 3) := by decide +kernel
theorem dX1_check_32 : decode cX1_check 32 = .ok (.goto (-17), 3) := by decide +kernel
theorem dX1_check_35 : decode cX1_check 35 = .ok (.iconst 0, 1) := by decide +kernel
theorem dX1_check_36 : decode cX1_check 36 = .ok (.istore_n 2, 1) := by decide +kernel
theorem dX1_check_37 : decode cX1_check 37 = .ok (.iload_n 2, 1) := by decide +kernel
theorem dX1_check_38 : decode cX1_check 38 = .ok (.bipush 32, 2) := by decide +kernel
theorem dX1_check_40 : decode cX1_check 40 = .ok (.if_icmp .ge 29, 3) := by decide +kernel
theorem dX1_check_43 : decode cX1_check 43 = .ok (.aload_n 0, 1) := by decide +kernel
theorem dX1_check_44 : decode cX1_check 44 = .ok (.getfield 37, 3) := by decide +kernel
theorem dX1_check_47 : decode cX1_check 47 = .ok (.iload_n 2, 1) := by decide +kernel
theorem dX1_check_48 : decode cX1_check 48 = .ok (.aload_n 0, 1) := by decide +kernel
theorem dX1_check_49 : decode cX1_check 49 = .ok (.getfield 37, 3) := by decide +kernel
theorem dX1_check_52 : decode cX1_check 52 = .ok (.iload_n 2, 1) := by decide +kernel
theorem dX1_check_53 : decode cX1_check 53 = .ok (.baload, 1) := by decide +kernel
theorem dX1_check_54 : decode cX1_check 54 = .ok (.ifCond .ne 7, 3) := by decide +kernel
theorem dX1_check_57 : decode cX1_check 57 = .ok (.iconst 1, 1) := by decide +kernel
theorem dX1_check_58 : decode cX1_check 58 = .ok (.goto 4, 3) := by decide +kernel
theorem dX1_check_61 : decode cX1_check 61 = .ok (.iconst 0, 1) := by decide +kernel
theorem dX1_check_62 : decode cX1_check 62 = .ok (.bastore, 1) := by decide +kernel
theorem dX1_check_63 : decode cX1_check 63 = .ok (.iinc 2 1, 3) := by decide +kernel
theorem dX1_check_66 : decode cX1_check 66 = .ok (.goto (-29), 3) := by decide +kernel
theorem dX1_check_69 : decode cX1_check 69 = .ok (.aload_n 0, 1) := by decide +kernel
theorem dX1_check_70 : decode cX1_check 70 = .ok (.sipush 560, 3) := by decide +kernel
theorem dX1_check_73 : decode cX1_check 73 = .ok (.invokevirtual 54, 3) := by decide +kernel
theorem dX1_check_76 : decode cX1_check 76 = .ok (.bipush 66, 2) := by decide +kernel
theorem dX1_check_78 : decode cX1_check 78 = .ok (.istore_n 2, 1) := by decide +kernel
theorem dX1_check_79 : decode cX1_check 79 = .ok (.iload_n 2, 1) := by decide +kernel
theorem dX1_check_80 : decode cX1_check 80 = .ok (.bipush 70, 2) := by decide +kernel
theorem dX1_check_82 : decode cX1_check 82 = .ok (.if_icmp .ge 63, 3) := by decide +kernel
theorem dX1_check_85 : decode cX1_check 85 = .ok (.iconst 0, 1) := by decide +kernel
theorem dX1_check_86 : decode cX1_check 86 = .ok (.istore_n 3, 1) := by decide +kernel
theorem dX1_check_87 : decode cX1_check 87 = .ok (.iconst 0, 1) := by decide +kernel
theorem dX1_check_88 : decode cX1_check 88 = .ok (.istore 4, 2) := by decide +kernel
theorem dX1_check_90 : decode cX1_check 90 = .ok (.iload 4, 2) := by decide +kernel
theorem dX1_check_92 : decode cX1_check 92 = .ok (.bipush 8, 2) := by decide +kernel
theorem dX1_check_94 : decode cX1_check 94 = .ok (.if_icmp .ge 35, 3) := by decide +kernel
theorem dX1_check_97 : decode cX1_check 97 = .ok (.iload_n 3, 1) := by decide +kernel
theorem dX1_check_98 : decode cX1_check 98 = .ok (.aload_n 0, 1) := by decide +kernel
theorem dX1_check_99 : decode cX1_check 99 = .ok (.getfield 37, 3) := by decide +kernel
theorem dX1_check_102 : decode cX1_check 102 = .ok (.bipush 8, 2) := by decide +kernel
theorem dX1_check_104 : decode cX1_check 104 = .ok (.iload_n 2, 1) := by decide +kernel
theorem dX1_check_105 : decode cX1_check 105 = .ok (.imul, 1) := by decide +kernel
theorem dX1_check_106 : decode cX1_check 106 = .ok (.iload 4, 2) := by decide +kernel
theorem dX1_check_108 : decode cX1_check 108 = .ok (.iadd, 1) := by decide +kernel
theorem dX1_check_109 : decode cX1_check 109 = .ok (.baload, 1) := by decide +kernel
theorem dX1_check_110 : decode cX1_check 110 = .ok (.ifCond .eq 7, 3) := by decide +kernel
theorem dX1_check_113 : decode cX1_check 113 = .ok (.iconst 0, 1) := by decide +kernel
theorem dX1_check_114 : decode cX1_check 114 = .ok (.goto 7, 3) := by decide +kernel
theorem dX1_check_117 : decode cX1_check 117 = .ok (.iconst 1, 1) := by decide +kernel
theorem dX1_check_118 : decode cX1_check 118 = .ok (.iload 4, 2) := by decide +kernel
theorem dX1_check_120 : decode cX1_check 120 = .ok (.ishl, 1) := by decide +kernel
theorem dX1_check_121 : decode cX1_check 121 = .ok (.iadd, 1) := by decide +kernel
theorem dX1_check_122 : decode cX1_check 122 = .ok (.istore_n 3, 1) := by decide +kernel
theorem dX1_check_123 : decode cX1_check 123 = .ok (.iinc 4 1, 3) := by decide +kernel
theorem dX1_check_126 : decode cX1_check 126 = .ok (.goto (-36), 3) := by decide +kernel
theorem dX1_check_129 : decode cX1_check 129 = .ok (.aload_n 0, 1) := by decide +kernel
theorem dX1_check_130 : decode cX1_check 130 = .ok (.getfield 24, 3) := by decide +kernel
theorem dX1_check_133 : decode cX1_check 133 = .ok (.iload_n 1, 1) := by decide +kernel
theorem dX1_check_134 : decode cX1_check 134 = .ok (.iload_n 2, 1) := by decide +kernel
theorem dX1_check_135 : decode cX1_check 135 = .ok (.iadd, 1) := by decide +kernel
theorem dX1_check_136 : decode cX1_check 136 = .ok (.iload_n 3, 1) := by decide +kernel
theorem dX1_check_137 : decode cX1_check 137 = .ok (.i2b, 1) := by decide +kernel
theorem dX1_check_138 : decode cX1_check 138 = .ok (.bastore, 1) := by decide +kernel
theorem dX1_check_139 : decode cX1_check 139 = .ok (.iinc 2 1, 3) := by decide +kernel
theorem dX1_check_142 : decode cX1_check 142 = .ok (.goto (-63), 3) := by decide +kernel
theorem dX1_check_145 : decode cX1_check 145 = .ok (.return_, 1) := by decide +kernel
theorem dX1_isDamaged_0 : decode cX1_isDamaged 0 = .ok (.iconst 0, 1) := by decide +kernel
theorem dX1_isDamaged_1 : decode cX1_isDamaged 1 = .ok (.istore_n 2, 1) := by decide +kernel
theorem dX1_isDamaged_2 : decode cX1_isDamaged 2 = .ok (.iconst 0, 1) := by decide +kernel
theorem dX1_isDamaged_3 : decode cX1_isDamaged 3 = .ok (.istore_n 3, 1) := by decide +kernel
theorem dX1_isDamaged_4 : decode cX1_isDamaged 4 = .ok (.iload_n 3, 1) := by decide +kernel
theorem dX1_isDamaged_5 : decode cX1_isDamaged 5 = .ok (.bipush 70, 2) := by decide +kernel
theorem dX1_isDamaged_7 : decode cX1_isDamaged 7 = .ok (.if_icmp .ge 33, 3) := by decide +kernel
theorem dX1_isDamaged_10 : decode cX1_isDamaged 10 = .ok (.iload_n 2, 1) := by decide +kernel
theorem dX1_isDamaged_11 : decode cX1_isDamaged 11 = .ok (.ifCond .ne 17, 3) := by decide +kernel
theorem dX1_isDamaged_14 : decode cX1_isDamaged 14 = .ok (.aload_n 0, 1) := by decide +kernel
theorem dX1_isDamaged_15 : decode cX1_isDamaged 15 = .ok (.getfield 28, 3) := by decide +kernel
theorem dX1_isDamaged_18 : decode cX1_isDamaged 18 = .ok (.bipush 70, 2) := by decide +kernel
theorem dX1_isDamaged_20 : decode cX1_isDamaged 20 = .ok (.iload_n 1, 1) := by decide +kernel
theorem dX1_isDamaged_21 : decode cX1_isDamaged 21 = .ok (.imul, 1) := by decide +kernel
theorem dX1_isDamaged_22 : decode cX1_isDamaged 22 = .ok (.iload_n 3, 1) := by decide +kernel
theorem dX1_isDamaged_23 : decode cX1_isDamaged 23 = .ok (.iadd, 1) := by decide +kernel
theorem dX1_isDamaged_24 : decode cX1_isDamaged 24 = .ok (.baload, 1) := by decide +kernel
theorem dX1_isDamaged_25 : decode cX1_isDamaged 25 = .ok (.ifCond .eq 7, 3) := by decide +kernel
theorem dX1_isDamaged_28 : decode cX1_isDamaged 28 = .ok (.iconst 1, 1) := by decide +kernel
theorem dX1_isDamaged_29 : decode cX1_isDamaged 29 = .ok (.goto 4, 3) := by decide +kernel
theorem dX1_isDamaged_32 : decode cX1_isDamaged 32 = .ok (.iconst 0, 1) := by decide +kernel
theorem dX1_isDamaged_33 : decode cX1_isDamaged 33 = .ok (.istore_n 2, 1) := by decide +kernel
theorem dX1_isDamaged_34 : decode cX1_isDamaged 34 = .ok (.iinc 3 1, 3) := by decide +kernel
theorem dX1_isDamaged_37 : decode cX1_isDamaged 37 = .ok (.goto (-33), 3) := by decide +kernel
theorem dX1_isDamaged_40 : decode cX1_isDamaged 40 = .ok (.iload_n 2, 1) := by decide +kernel
theorem dX1_isDamaged_41 : decode cX1_isDamaged 41 = .ok (.ireturn, 1) := by decide +kernel
theorem dX1_isUnseen_0 : decode cX1_isUnseen 0 = .ok (.aload_n 0, 1) := by decide +kernel
theorem dX1_isUnseen_1 : decode cX1_isUnseen 1 = .ok (.aload_n 0, 1) := by decide +kernel
theorem dX1_isUnseen_2 : decode cX1_isUnseen 2 = .ok (.getfield 28, 3) := by decide +kernel
theorem dX1_isUnseen_5 : decode cX1_isUnseen 5 = .ok (.bipush 70, 2) := by decide +kernel
theorem dX1_isUnseen_7 : decode cX1_isUnseen 7 = .ok (.iload_n 1, 1) := by decide +kernel
theorem dX1_isUnseen_8 : decode cX1_isUnseen 8 = .ok (.imul, 1) := by decide +kernel
theorem dX1_isUnseen_9 : decode cX1_isUnseen 9 = .ok (.bipush 70, 2) := by decide +kernel
theorem dX1_isUnseen_11 : decode cX1_isUnseen 11 = .ok (.invokevirtual 50, 3) := by decide +kernel
theorem dX1_isUnseen_14 : decode cX1_isUnseen 14 = .ok (.aload_n 0, 1) := by decide +kernel
theorem dX1_isUnseen_15 : decode cX1_isUnseen 15 = .ok (.sipush 560, 3) := by decide +kernel
theorem dX1_isUnseen_18 : decode cX1_isUnseen 18 = .ok (.invokevirtual 54, 3) := by decide +kernel
theorem dX1_isUnseen_21 : decode cX1_isUnseen 21 = .ok (.iconst 1, 1) := by decide +kernel
theorem dX1_isUnseen_22 : decode cX1_isUnseen 22 = .ok (.istore_n 2, 1) := by decide +kernel
theorem dX1_isUnseen_23 : decode cX1_isUnseen 23 = .ok (.sipush 528, 3) := by decide +kernel
theorem dX1_isUnseen_26 : decode cX1_isUnseen 26 = .ok (.istore_n 3, 1) := by decide +kernel
theorem dX1_isUnseen_27 : decode cX1_isUnseen 27 = .ok (.iload_n 3, 1) := by decide +kernel
theorem dX1_isUnseen_28 : decode cX1_isUnseen 28 = .ok (.sipush 560, 3) := by decide +kernel
theorem dX1_isUnseen_31 : decode cX1_isUnseen 31 = .ok (.if_icmp .ge 28, 3) := by decide +kernel
theorem dX1_isUnseen_34 : decode cX1_isUnseen 34 = .ok (.iload_n 2, 1) := by decide +kernel
theorem dX1_isUnseen_35 : decode cX1_isUnseen 35 = .ok (.ifCond .eq 16, 3) := by decide +kernel
theorem dX1_isUnseen_38 : decode cX1_isUnseen 38 = .ok (.aload_n 0, 1) := by decide +kernel
theorem dX1_isUnseen_39 : decode cX1_isUnseen 39 = .ok (.getfield 37, 3) := by decide +kernel
theorem dX1_isUnseen_42 : decode cX1_isUnseen 42 = .ok (.iload_n 3, 1) := by decide +kernel
theorem dX1_isUnseen_43 : decode cX1_isUnseen 43 = .ok (.baload, 1) := by decide +kernel
theorem dX1_isUnseen_44 : decode cX1_isUnseen 44 = .ok (.ifCond .ne 7, 3) := by decide +kernel
theorem dX1_isUnseen_47 : decode cX1_isUnseen 47 = .ok (.iconst 1, 1) := by decide +kernel
theorem dX1_isUnseen_48 : decode cX1_isUnseen 48 = .ok (.goto 4, 3) := by decide +kernel
theorem dX1_isUnseen_51 : decode cX1_isUnseen 51 = .ok (.iconst 0, 1) := by decide +kernel
theorem dX1_isUnseen_52 : decode cX1_isUnseen 52 = .ok (.istore_n 2, 1) := by decide +kernel
theorem dX1_isUnseen_53 : decode cX1_isUnseen 53 = .ok (.iinc 3 1, 3) := by decide +kernel
theorem dX1_isUnseen_56 : decode cX1_isUnseen 56 = .ok (.goto (-29), 3) := by decide +kernel
theorem dX1_isUnseen_59 : decode cX1_isUnseen 59 = .ok (.iload_n 2, 1) := by decide +kernel
theorem dX1_isUnseen_60 : decode cX1_isUnseen 60 = .ok (.ireturn, 1) := by decide +kernel
theorem dX1_stateOf_0 : decode cX1_stateOf 0 = .ok (.aload_n 0, 1) := by decide +kernel
theorem dX1_stateOf_1 : decode cX1_stateOf 1 = .ok (.getfield 16, 3) := by decide +kernel
theorem dX1_stateOf_4 : decode cX1_stateOf 4 = .ok (.iload_n 1, 1) := by decide +kernel
theorem dX1_stateOf_5 : decode cX1_stateOf 5 = .ok (.baload, 1) := by decide +kernel
theorem dX1_stateOf_6 : decode cX1_stateOf 6 = .ok (.ifCond .ne 5, 3) := by decide +kernel
theorem dX1_stateOf_9 : decode cX1_stateOf 9 = .ok (.iconst 0, 1) := by decide +kernel
theorem dX1_stateOf_10 : decode cX1_stateOf 10 = .ok (.ireturn, 1) := by decide +kernel
theorem dX1_stateOf_11 : decode cX1_stateOf 11 = .ok (.aload_n 0, 1) := by decide +kernel
theorem dX1_stateOf_12 : decode cX1_stateOf 12 = .ok (.getfield 20, 3) := by decide +kernel
theorem dX1_stateOf_15 : decode cX1_stateOf 15 = .ok (.iload_n 1, 1) := by decide +kernel
theorem dX1_stateOf_16 : decode cX1_stateOf 16 = .ok (.iload_n 2, 1) := by decide +kernel
theorem dX1_stateOf_17 : decode cX1_stateOf 17 = .ok (.invokestatic 58, 3) := by decide +kernel
theorem dX1_stateOf_20 : decode cX1_stateOf 20 = .ok (.baload, 1) := by decide +kernel
theorem dX1_stateOf_21 : decode cX1_stateOf 21 = .ok (.ifCond .ne 7, 3) := by decide +kernel
theorem dX1_stateOf_24 : decode cX1_stateOf 24 = .ok (.iconst 1, 1) := by decide +kernel
theorem dX1_stateOf_25 : decode cX1_stateOf 25 = .ok (.goto 20, 3) := by decide +kernel
theorem dX1_stateOf_28 : decode cX1_stateOf 28 = .ok (.aload_n 0, 1) := by decide +kernel
theorem dX1_stateOf_29 : decode cX1_stateOf 29 = .ok (.iload_n 1, 1) := by decide +kernel
theorem dX1_stateOf_30 : decode cX1_stateOf 30 = .ok (.iload_n 2, 1) := by decide +kernel
theorem dX1_stateOf_31 : decode cX1_stateOf 31 = .ok (.invokestatic 58, 3) := by decide +kernel
theorem dX1_stateOf_34 : decode cX1_stateOf 34 = .ok (.invokevirtual 62, 3) := by decide +kernel
theorem dX1_stateOf_37 : decode cX1_stateOf 37 = .ok (.ifCond .eq 7, 3) := by decide +kernel
theorem dX1_stateOf_40 : decode cX1_stateOf 40 = .ok (.iconst 3, 1) := by decide +kernel
theorem dX1_stateOf_41 : decode cX1_stateOf 41 = .ok (.goto 4, 3) := by decide +kernel
theorem dX1_stateOf_44 : decode cX1_stateOf 44 = .ok (.iconst 2, 1) := by decide +kernel
theorem dX1_stateOf_45 : decode cX1_stateOf 45 = .ok (.ireturn, 1) := by decide +kernel
theorem dX1_feed_0 : decode cX1_feed 0 = .ok (.aload_n 0, 1) := by decide +kernel
theorem dX1_feed_1 : decode cX1_feed 1 = .ok (.iload_n 1, 1) := by decide +kernel
theorem dX1_feed_2 : decode cX1_feed 2 = .ok (.iconst 1, 1) := by decide +kernel
theorem dX1_feed_3 : decode cX1_feed 3 = .ok (.bipush 8, 2) := by decide +kernel
theorem dX1_feed_5 : decode cX1_feed 5 = .ok (.invokestatic 44, 3) := by decide +kernel
theorem dX1_feed_8 : decode cX1_feed 8 = .ok (.ifCond .ne 7, 3) := by decide +kernel
theorem dX1_feed_11 : decode cX1_feed 11 = .ok (.iconst 1, 1) := by decide +kernel
theorem dX1_feed_12 : decode cX1_feed 12 = .ok (.goto 4, 3) := by decide +kernel
theorem dX1_feed_15 : decode cX1_feed 15 = .ok (.iconst 0, 1) := by decide +kernel
theorem dX1_feed_16 : decode cX1_feed 16 = .ok (.iconst 1, 1) := by decide +kernel
theorem dX1_feed_17 : decode cX1_feed 17 = .ok (.invokevirtual 66, 3) := by decide +kernel
theorem dX1_feed_20 : decode cX1_feed 20 = .ok (.ifCond .ne 27, 3) := by decide +kernel
theorem dX1_feed_23 : decode cX1_feed 23 = .ok (.aload_n 0, 1) := by decide +kernel
theorem dX1_feed_24 : decode cX1_feed 24 = .ok (.aload_n 0, 1) := by decide +kernel
theorem dX1_feed_25 : decode cX1_feed 25 = .ok (.getfield 70, 3) := by decide +kernel
theorem dX1_feed_28 : decode cX1_feed 28 = .ok (.iload_n 1, 1) := by decide +kernel
theorem dX1_feed_29 : decode cX1_feed 29 = .ok (.iadd, 1) := by decide +kernel
theorem dX1_feed_30 : decode cX1_feed 30 = .ok (.bipush 64, 2) := by decide +kernel
theorem dX1_feed_32 : decode cX1_feed 32 = .ok (.if_icmp .le 7, 3) := by decide +kernel
theorem dX1_feed_35 : decode cX1_feed 35 = .ok (.iconst 1, 1) := by decide +kernel
theorem dX1_feed_36 : decode cX1_feed 36 = .ok (.goto 4, 3) := by decide +kernel
theorem dX1_feed_39 : decode cX1_feed 39 = .ok (.iconst 0, 1) := by decide +kernel
theorem dX1_feed_40 : decode cX1_feed 40 = .ok (.iconst 2, 1) := by decide +kernel
theorem dX1_feed_41 : decode cX1_feed 41 = .ok (.invokevirtual 66, 3) := by decide +kernel
theorem dX1_feed_44 : decode cX1_feed 44 = .ok (.ifCond .eq 5, 3) := by decide +kernel
theorem dX1_feed_47 : decode cX1_feed 47 = .ok (.iconst 0, 1) := by decide +kernel
theorem dX1_feed_48 : decode cX1_feed 48 = .ok (.ireturn, 1) := by decide +kernel
theorem dX1_feed_49 : decode cX1_feed 49 = .ok (.iconst 0, 1) := by decide +kernel
theorem dX1_feed_50 : decode cX1_feed 50 = .ok (.istore 4, 2) := by decide +kernel
theorem dX1_feed_52 : decode cX1_feed 52 = .ok (.iload 4, 2) := by decide +kernel
theorem dX1_feed_54 : decode cX1_feed 54 = .ok (.iload_n 1, 1) := by decide +kernel
theorem dX1_feed_55 : decode cX1_feed 55 = .ok (.if_icmp .ge 33, 3) := by decide +kernel
theorem dX1_feed_58 : decode cX1_feed 58 = .ok (.aload_n 0, 1) := by decide +kernel
theorem dX1_feed_59 : decode cX1_feed 59 = .ok (.getfield 7, 3) := by decide +kernel
theorem dX1_feed_62 : decode cX1_feed 62 = .ok (.aload_n 0, 1) := by decide +kernel
theorem dX1_feed_63 : decode cX1_feed 63 = .ok (.getfield 70, 3) := by decide +kernel
theorem dX1_feed_66 : decode cX1_feed 66 = .ok (.iload 4, 2) := by decide +kernel
theorem dX1_feed_68 : decode cX1_feed 68 = .ok (.iadd, 1) := by decide +kernel
theorem dX1_feed_69 : decode cX1_feed 69 = .ok (.lload_n 2, 1) := by decide +kernel
theorem dX1_feed_70 : decode cX1_feed 70 = .ok (.bipush 8, 2) := by decide +kernel
theorem dX1_feed_72 : decode cX1_feed 72 = .ok (.iload 4, 2) := by decide +kernel
theorem dX1_feed_74 : decode cX1_feed 74 = .ok (.imul, 1) := by decide +kernel
theorem dX1_feed_75 : decode cX1_feed 75 = .ok (.lshr, 1) := by decide +kernel
theorem dX1_feed_76 : decode cX1_feed 76 = .ok (.ldc2_w 73, 3) := by decide +kernel
theorem dX1_feed_79 : decode cX1_feed 79 = .ok (.land, 1) := by decide +kernel
theorem dX1_feed_80 : decode cX1_feed 80 = .ok (.l2i, 1) := by decide +kernel
theorem dX1_feed_81 : decode cX1_feed 81 = .ok (.iastore, 1) := by decide +kernel
theorem dX1_feed_82 : decode cX1_feed 82 = .ok (.iinc 4 1, 3) := by decide +kernel
theorem dX1_feed_85 : decode cX1_feed 85 = .ok (.goto (-33), 3) := by decide +kernel
theorem dX1_feed_88 : decode cX1_feed 88 = .ok (.aload_n 0, 1) := by decide +kernel
theorem dX1_feed_89 : decode cX1_feed 89 = .ok (.dup, 1) := by decide +kernel
theorem dX1_feed_90 : decode cX1_feed 90 = .ok (.getfield 70, 3) := by decide +kernel
theorem dX1_feed_93 : decode cX1_feed 93 = .ok (.iload_n 1, 1) := by decide +kernel
theorem dX1_feed_94 : decode cX1_feed 94 = .ok (.iadd, 1) := by decide +kernel
theorem dX1_feed_95 : decode cX1_feed 95 = .ok (.putfield 70, 3) := by decide +kernel
theorem dX1_feed_98 : decode cX1_feed 98 = .ok (.aload_n 0, 1) := by decide +kernel
theorem dX1_feed_99 : decode cX1_feed 99 = .ok (.getfield 70, 3) := by decide +kernel
theorem dX1_feed_102 : decode cX1_feed 102 = .ok (.ireturn, 1) := by decide +kernel
theorem dX1_write_0 : decode cX1_write 0 = .ok (.aload_n 0, 1) := by decide +kernel
theorem dX1_write_1 : decode cX1_write 1 = .ok (.iload_n 1, 1) := by decide +kernel
theorem dX1_write_2 : decode cX1_write 2 = .ok (.iload_n 2, 1) := by decide +kernel
theorem dX1_write_3 : decode cX1_write 3 = .ok (.invokestatic 75, 3) := by decide +kernel
theorem dX1_write_6 : decode cX1_write 6 = .ok (.ifCond .ne 13, 3) := by decide +kernel
theorem dX1_write_9 : decode cX1_write 9 = .ok (.iload_n 3, 1) := by decide +kernel
theorem dX1_write_10 : decode cX1_write 10 = .ok (.iconst 0, 1) := by decide +kernel
theorem dX1_write_11 : decode cX1_write 11 = .ok (.ldc 79, 2) := by decide +kernel
theorem dX1_write_13 : decode cX1_write 13 = .ok (.invokestatic 44, 3) := by decide +kernel
theorem dX1_write_16 : decode cX1_write 16 = .ok (.ifCond .ne 7, 3) := by decide +kernel
theorem dX1_write_19 : decode cX1_write 19 = .ok (.iconst 1, 1) := by decide +kernel
theorem dX1_write_20 : decode cX1_write 20 = .ok (.goto 4, 3) := by decide +kernel
theorem dX1_write_23 : decode cX1_write 23 = .ok (.iconst 0, 1) := by decide +kernel
theorem dX1_write_24 : decode cX1_write 24 = .ok (.iconst 1, 1) := by decide +kernel
theorem dX1_write_25 : decode cX1_write 25 = .ok (.invokevirtual 66, 3) := by decide +kernel
theorem dX1_write_28 : decode cX1_write 28 = .ok (.ifCond .ne 25, 3) := by decide +kernel
theorem dX1_write_31 : decode cX1_write 31 = .ok (.aload_n 0, 1) := by decide +kernel
theorem dX1_write_32 : decode cX1_write 32 = .ok (.aload_n 0, 1) := by decide +kernel
theorem dX1_write_33 : decode cX1_write 33 = .ok (.getfield 16, 3) := by decide +kernel
theorem dX1_write_36 : decode cX1_write 36 = .ok (.iload_n 1, 1) := by decide +kernel
theorem dX1_write_37 : decode cX1_write 37 = .ok (.baload, 1) := by decide +kernel
theorem dX1_write_38 : decode cX1_write 38 = .ok (.ifCond .ne 7, 3) := by decide +kernel
theorem dX1_write_41 : decode cX1_write 41 = .ok (.iconst 1, 1) := by decide +kernel
theorem dX1_write_42 : decode cX1_write 42 = .ok (.goto 4, 3) := by decide +kernel
theorem dX1_write_45 : decode cX1_write 45 = .ok (.iconst 0, 1) := by decide +kernel
theorem dX1_write_46 : decode cX1_write 46 = .ok (.iconst 2, 1) := by decide +kernel
theorem dX1_write_47 : decode cX1_write 47 = .ok (.invokevirtual 66, 3) := by decide +kernel
theorem dX1_write_50 : decode cX1_write 50 = .ok (.ifCond .eq 5, 3) := by decide +kernel
theorem dX1_write_53 : decode cX1_write 53 = .ok (.iconst 0, 1) := by decide +kernel
theorem dX1_write_54 : decode cX1_write 54 = .ok (.ireturn, 1) := by decide +kernel
theorem dX1_write_55 : decode cX1_write 55 = .ok (.aload_n 0, 1) := by decide +kernel
theorem dX1_write_56 : decode cX1_write 56 = .ok (.getfield 70, 3) := by decide +kernel
theorem dX1_write_59 : decode cX1_write 59 = .ok (.istore 4, 2) := by decide +kernel
theorem dX1_write_61 : decode cX1_write 61 = .ok (.aload_n 0, 1) := by decide +kernel
theorem dX1_write_62 : decode cX1_write 62 = .ok (.iconst 0, 1) := by decide +kernel
theorem dX1_write_63 : decode cX1_write 63 = .ok (.putfield 70, 3) := by decide +kernel
theorem dX1_write_66 : decode cX1_write 66 = .ok (.aload_n 0, 1) := by decide +kernel
theorem dX1_write_67 : decode cX1_write 67 = .ok (.aload_n 0, 1) := by decide +kernel
theorem dX1_write_68 : decode cX1_write 68 = .ok (.getfield 80, 3) := by decide +kernel
theorem dX1_write_71 : decode cX1_write 71 = .ok (.ifCond .ne 12, 3) := by decide +kernel
theorem dX1_write_74 : decode cX1_write 74 = .ok (.aload_n 0, 1) := by decide +kernel
theorem dX1_write_75 : decode cX1_write 75 = .ok (.getfield 33, 3) := by decide +kernel
theorem dX1_write_78 : decode cX1_write 78 = .ok (.lconst 0, 1) := by decide +kernel
theorem dX1_write_79 : decode cX1_write 79 = .ok (.lcmp, 1) := by decide +kernel
theorem dX1_write_80 : decode cX1_write 80 = .ok (.ifCond .ne 7, 3) := by decide +kernel
theorem dX1_write_83 : decode cX1_write 83 = .ok (.iconst 1, 1) := by decide +kernel
theorem dX1_write_84 : decode cX1_write 84 = .ok (.goto 4, 3) := by decide +kernel
theorem dX1_write_87 : decode cX1_write 87 = .ok (.iconst 0, 1) := by decide +kernel
theorem dX1_write_88 : decode cX1_write 88 = .ok (.putfield 80, 3) := by decide +kernel
theorem dX1_write_91 : decode cX1_write 91 = .ok (.aload_n 0, 1) := by decide +kernel
theorem dX1_write_92 : decode cX1_write 92 = .ok (.getfield 80, 3) := by decide +kernel
theorem dX1_write_95 : decode cX1_write 95 = .ok (.ifCond .eq 5, 3) := by decide +kernel
theorem dX1_write_98 : decode cX1_write 98 = .ok (.iconst 0, 1) := by decide +kernel
theorem dX1_write_99 : decode cX1_write 99 = .ok (.ireturn, 1) := by decide +kernel
theorem dX1_write_100 : decode cX1_write 100 = .ok (.aload_n 0, 1) := by decide +kernel
theorem dX1_write_101 : decode cX1_write 101 = .ok (.dup, 1) := by decide +kernel
theorem dX1_write_102 : decode cX1_write 102 = .ok (.getfield 33, 3) := by decide +kernel
theorem dX1_write_105 : decode cX1_write 105 = .ok (.aload_n 0, 1) := by decide +kernel
theorem dX1_write_106 : decode cX1_write 106 = .ok (.getfield 33, 3) := by decide +kernel
theorem dX1_write_109 : decode cX1_write 109 = .ok (.lconst 0, 1) := by decide +kernel
theorem dX1_write_110 : decode cX1_write 110 = .ok (.lcmp, 1) := by decide +kernel
theorem dX1_write_111 : decode cX1_write 111 = .ok (.ifCond .le 7, 3) := by decide +kernel
theorem dX1_write_114 : decode cX1_write 114 = .ok (.lconst 1, 1) := by decide +kernel
theorem dX1_write_115 : decode cX1_write 115 = .ok (.goto 4, 3) := by decide +kernel
theorem dX1_write_118 : decode cX1_write 118 = .ok (.lconst 0, 1) := by decide +kernel
theorem dX1_write_119 : decode cX1_write 119 = .ok (.lsub, 1) := by decide +kernel
theorem dX1_write_120 : decode cX1_write 120 = .ok (.putfield 33, 3) := by decide +kernel
theorem dX1_write_123 : decode cX1_write 123 = .ok (.aload_n 0, 1) := by decide +kernel
theorem dX1_write_124 : decode cX1_write 124 = .ok (.dup, 1) := by decide +kernel
theorem dX1_write_125 : decode cX1_write 125 = .ok (.getfield 84, 3) := by decide +kernel
theorem dX1_write_128 : decode cX1_write 128 = .ok (.lconst 1, 1) := by decide +kernel
theorem dX1_write_129 : decode cX1_write 129 = .ok (.ladd, 1) := by decide +kernel
theorem dX1_write_130 : decode cX1_write 130 = .ok (.putfield 84, 3) := by decide +kernel
theorem dX1_write_133 : decode cX1_write 133 = .ok (.iload_n 1, 1) := by decide +kernel
theorem dX1_write_134 : decode cX1_write 134 = .ok (.iload_n 2, 1) := by decide +kernel
theorem dX1_write_135 : decode cX1_write 135 = .ok (.invokestatic 58, 3) := by decide +kernel
theorem dX1_write_138 : decode cX1_write 138 = .ok (.istore 5, 2) := by decide +kernel
theorem dX1_write_140 : decode cX1_write 140 = .ok (.aload_n 0, 1) := by decide +kernel
theorem dX1_write_141 : decode cX1_write 141 = .ok (.getfield 20, 3) := by decide +kernel
theorem dX1_write_144 : decode cX1_write 144 = .ok (.iload 5, 2) := by decide +kernel
theorem dX1_write_146 : decode cX1_write 146 = .ok (.iconst 1, 1) := by decide +kernel
theorem dX1_write_147 : decode cX1_write 147 = .ok (.bastore, 1) := by decide +kernel
theorem dX1_write_148 : decode cX1_write 148 = .ok (.iconst 0, 1) := by decide +kernel
theorem dX1_write_149 : decode cX1_write 149 = .ok (.istore 6, 2) := by decide +kernel
theorem dX1_write_151 : decode cX1_write 151 = .ok (.iload 6, 2) := by decide +kernel
theorem dX1_write_153 : decode cX1_write 153 = .ok (.bipush 70, 2) := by decide +kernel
theorem dX1_write_155 : decode cX1_write 155 = .ok (.if_icmp .ge 84, 3) := by decide +kernel
theorem dX1_write_158 : decode cX1_write 158 = .ok (.aload_n 0, 1) := by decide +kernel
theorem dX1_write_159 : decode cX1_write 159 = .ok (.getfield 28, 3) := by decide +kernel
theorem dX1_write_162 : decode cX1_write 162 = .ok (.bipush 70, 2) := by decide +kernel
theorem dX1_write_164 : decode cX1_write 164 = .ok (.iload 5, 2) := by decide +kernel
theorem dX1_write_166 : decode cX1_write 166 = .ok (.imul, 1) := by decide +kernel
theorem dX1_write_167 : decode cX1_write 167 = .ok (.iload 6, 2) := by decide +kernel
theorem dX1_write_169 : decode cX1_write 169 = .ok (.iadd, 1) := by decide +kernel
theorem dX1_write_170 : decode cX1_write 170 = .ok (.iconst 0, 1) := by decide +kernel
theorem dX1_write_171 : decode cX1_write 171 = .ok (.bastore, 1) := by decide +kernel
theorem dX1_write_172 : decode cX1_write 172 = .ok (.aload_n 0, 1) := by decide +kernel
theorem dX1_write_173 : decode cX1_write 173 = .ok (.getfield 24, 3) := by decide +kernel
theorem dX1_write_176 : decode cX1_write 176 = .ok (.bipush 70, 2) := by decide +kernel
theorem dX1_write_178 : decode cX1_write 178 = .ok (.iload 5, 2) := by decide +kernel
theorem dX1_write_180 : decode cX1_write 180 = .ok (.imul, 1) := by decide +kernel
theorem dX1_write_181 : decode cX1_write 181 = .ok (.iload 6, 2) := by decide +kernel
theorem dX1_write_183 : decode cX1_write 183 = .ok (.iadd, 1) := by decide +kernel
theorem dX1_write_184 : decode cX1_write 184 = .ok (.iload 6, 2) := by decide +kernel
theorem dX1_write_186 : decode cX1_write 186 = .ok (.iload 4, 2) := by decide +kernel
theorem dX1_write_188 : decode cX1_write 188 = .ok (.if_icmp .ge 13, 3) := by decide +kernel
theorem dX1_write_191 : decode cX1_write 191 = .ok (.aload_n 0, 1) := by decide +kernel
theorem dX1_write_192 : decode cX1_write 192 = .ok (.getfield 7, 3) := by decide +kernel
theorem dX1_write_195 : decode cX1_write 195 = .ok (.iload 6, 2) := by decide +kernel
theorem dX1_write_197 : decode cX1_write 197 = .ok (.iaload, 1) := by decide +kernel
theorem dX1_write_198 : decode cX1_write 198 = .ok (.goto 33, 3) := by decide +kernel
theorem dX1_write_201 : decode cX1_write 201 = .ok (.iload 6, 2) := by decide +kernel
theorem dX1_write_203 : decode cX1_write 203 = .ok (.bipush 64, 2) := by decide +kernel
theorem dX1_write_205 : decode cX1_write 205 = .ok (.if_icmp .ne 11, 3) := by decide +kernel
theorem dX1_write_208 : decode cX1_write 208 = .ok (.iload_n 3, 1) := by decide +kernel
theorem dX1_write_209 : decode cX1_write 209 = .ok (.sipush 255, 3) := by decide +kernel
theorem dX1_write_212 : decode cX1_write 212 = .ok (.iand, 1) := by decide +kernel
theorem dX1_write_213 : decode cX1_write 213 = .ok (.goto 18, 3) := by decide +kernel
theorem dX1_write_216 : decode cX1_write 216 = .ok (.iload 6, 2) := by decide +kernel
theorem dX1_write_218 : decode cX1_write 218 = .ok (.bipush 65, 2) := by decide +kernel
theorem dX1_write_220 : decode cX1_write 220 = .ok (.if_icmp .ne 10, 3) := by decide +kernel
theorem dX1_write_223 : decode cX1_write 223 = .ok (.iload_n 3, 1) := by decide +kernel
theorem dX1_write_224 : decode cX1_write 224 = .ok (.bipush 8, 2) := by decide +kernel
theorem dX1_write_226 : decode cX1_write 226 = .ok (.ishr, 1) := by decide +kernel
theorem dX1_write_227 : decode cX1_write 227 = .ok (.goto 4, 3) := by decide +kernel
theorem dX1_write_230 : decode cX1_write 230 = .ok (.iconst 0, 1) := by decide +kernel
theorem dX1_write_231 : decode cX1_write 231 = .ok (.i2b, 1) := by decide +kernel
theorem dX1_write_232 : decode cX1_write 232 = .ok (.bastore, 1) := by decide +kernel
theorem dX1_write_233 : decode cX1_write 233 = .ok (.iinc 6 1, 3) := by decide +kernel
theorem dX1_write_236 : decode cX1_write 236 = .ok (.goto (-85), 3) := by decide +kernel
theorem dX1_write_239 : decode cX1_write 239 = .ok (.aload_n 0, 1) := by decide +kernel
theorem dX1_write_240 : decode cX1_write 240 = .ok (.bipush 70, 2) := by decide +kernel
theorem dX1_write_242 : decode cX1_write 242 = .ok (.iload 5, 2) := by decide +kernel
theorem dX1_write_244 : decode cX1_write 244 = .ok (.imul, 1) := by decide +kernel
theorem dX1_write_245 : decode cX1_write 245 = .ok (.invokevirtual 87, 3) := by decide +kernel
theorem dX1_write_248 : decode cX1_write 248 = .ok (.iconst 1, 1) := by decide +kernel
theorem dX1_write_249 : decode cX1_write 249 = .ok (.ireturn, 1) := by decide +kernel
theorem dX1_byteAt_0 : decode cX1_byteAt 0 = .ok (.aload_n 0, 1) := by decide +kernel
theorem dX1_byteAt_1 : decode cX1_byteAt 1 = .ok (.getfield 24, 3) := by decide +kernel
theorem dX1_byteAt_4 : decode cX1_byteAt 4 = .ok (.bipush 70, 2) := by decide +kernel
theorem dX1_byteAt_6 : decode cX1_byteAt 6 = .ok (.iload_n 1, 1) := by decide +kernel
theorem dX1_byteAt_7 : decode cX1_byteAt 7 = .ok (.imul, 1) := by decide +kernel
theorem dX1_byteAt_8 : decode cX1_byteAt 8 = .ok (.iload_n 2, 1) := by decide +kernel
theorem dX1_byteAt_9 : decode cX1_byteAt 9 = .ok (.iadd, 1) := by decide +kernel
theorem dX1_byteAt_10 : decode cX1_byteAt 10 = .ok (.baload, 1) := by decide +kernel
theorem dX1_byteAt_11 : decode cX1_byteAt 11 = .ok (.aload_n 0, 1) := by decide +kernel
theorem dX1_byteAt_12 : decode cX1_byteAt 12 = .ok (.getfield 28, 3) := by decide +kernel
theorem dX1_byteAt_15 : decode cX1_byteAt 15 = .ok (.bipush 70, 2) := by decide +kernel
theorem dX1_byteAt_17 : decode cX1_byteAt 17 = .ok (.iload_n 1, 1) := by decide +kernel
theorem dX1_byteAt_18 : decode cX1_byteAt 18 = .ok (.imul, 1) := by decide +kernel
theorem dX1_byteAt_19 : decode cX1_byteAt 19 = .ok (.iload_n 2, 1) := by decide +kernel
theorem dX1_byteAt_20 : decode cX1_byteAt 20 = .ok (.iadd, 1) := by decide +kernel
theorem dX1_byteAt_21 : decode cX1_byteAt 21 = .ok (.baload, 1) := by decide +kernel
theorem dX1_byteAt_22 : decode cX1_byteAt 22 = .ok (.ixor, 1) := by decide +kernel
theorem dX1_byteAt_23 : decode cX1_byteAt 23 = .ok (.sipush 255, 3) := by decide +kernel
theorem dX1_byteAt_26 : decode cX1_byteAt 26 = .ok (.iand, 1) := by decide +kernel
theorem dX1_byteAt_27 : decode cX1_byteAt 27 = .ok (.ireturn, 1) := by decide +kernel
theorem dX1_read_0 : decode cX1_read 0 = .ok (.aload_n 0, 1) := by decide +kernel
theorem dX1_read_1 : decode cX1_read 1 = .ok (.iload_n 1, 1) := by decide +kernel
theorem dX1_read_2 : decode cX1_read 2 = .ok (.iload_n 2, 1) := by decide +kernel
theorem dX1_read_3 : decode cX1_read 3 = .ok (.invokestatic 75, 3) := by decide +kernel
theorem dX1_read_6 : decode cX1_read 6 = .ok (.iconst 1, 1) := by decide +kernel
theorem dX1_read_7 : decode cX1_read 7 = .ok (.invokevirtual 66, 3) := by decide +kernel
theorem dX1_read_10 : decode cX1_read 10 = .ok (.ifCond .eq 5, 3) := by decide +kernel
theorem dX1_read_13 : decode cX1_read 13 = .ok (.iconst 0, 1) := by decide +kernel
theorem dX1_read_14 : decode cX1_read 14 = .ok (.ireturn, 1) := by decide +kernel
theorem dX1_read_15 : decode cX1_read 15 = .ok (.aload_n 0, 1) := by decide +kernel
theorem dX1_read_16 : decode cX1_read 16 = .ok (.iconst 0, 1) := by decide +kernel
theorem dX1_read_17 : decode cX1_read 17 = .ok (.putfield 90, 3) := by decide +kernel
theorem dX1_read_20 : decode cX1_read 20 = .ok (.aload_n 0, 1) := by decide +kernel
theorem dX1_read_21 : decode cX1_read 21 = .ok (.iload_n 1, 1) := by decide +kernel
theorem dX1_read_22 : decode cX1_read 22 = .ok (.iload_n 2, 1) := by decide +kernel
theorem dX1_read_23 : decode cX1_read 23 = .ok (.invokevirtual 93, 3) := by decide +kernel
theorem dX1_read_26 : decode cX1_read 26 = .ok (.iconst 2, 1) := by decide +kernel
theorem dX1_read_27 : decode cX1_read 27 = .ok (.if_icmp .eq 5, 3) := by decide +kernel
theorem dX1_read_30 : decode cX1_read 30 = .ok (.iconst 0, 1) := by decide +kernel
theorem dX1_read_31 : decode cX1_read 31 = .ok (.ireturn, 1) := by decide +kernel
theorem dX1_read_32 : decode cX1_read 32 = .ok (.iconst 0, 1) := by decide +kernel
theorem dX1_read_33 : decode cX1_read 33 = .ok (.istore_n 3, 1) := by decide +kernel
theorem dX1_read_34 : decode cX1_read 34 = .ok (.iload_n 3, 1) := by decide +kernel
theorem dX1_read_35 : decode cX1_read 35 = .ok (.bipush 64, 2) := by decide +kernel
theorem dX1_read_37 : decode cX1_read 37 = .ok (.if_icmp .ge 25, 3) := by decide +kernel
theorem dX1_read_40 : decode cX1_read 40 = .ok (.aload_n 0, 1) := by decide +kernel
theorem dX1_read_41 : decode cX1_read 41 = .ok (.getfield 13, 3) := by decide +kernel
theorem dX1_read_44 : decode cX1_read 44 = .ok (.iload_n 3, 1) := by decide +kernel
theorem dX1_read_45 : decode cX1_read 45 = .ok (.aload_n 0, 1) := by decide +kernel
theorem dX1_read_46 : decode cX1_read 46 = .ok (.iload_n 1, 1) := by decide +kernel
theorem dX1_read_47 : decode cX1_read 47 = .ok (.iload_n 2, 1) := by decide +kernel
theorem dX1_read_48 : decode cX1_read 48 = .ok (.invokestatic 58, 3) := by decide +kernel
theorem dX1_read_51 : decode cX1_read 51 = .ok (.iload_n 3, 1) := by decide +kernel
theorem dX1_read_52 : decode cX1_read 52 = .ok (.invokevirtual 96, 3) := by decide +kernel
theorem dX1_read_55 : decode cX1_read 55 = .ok (.iastore, 1) := by decide +kernel
theorem dX1_read_56 : decode cX1_read 56 = .ok (.iinc 3 1, 3) := by decide +kernel
theorem dX1_read_59 : decode cX1_read 59 = .ok (.goto (-25), 3) := by decide +kernel
theorem dX1_read_62 : decode cX1_read 62 = .ok (.aload_n 0, 1) := by decide +kernel
theorem dX1_read_63 : decode cX1_read 63 = .ok (.bipush 64, 2) := by decide +kernel
theorem dX1_read_65 : decode cX1_read 65 = .ok (.putfield 90, 3) := by decide +kernel
theorem dX1_read_68 : decode cX1_read 68 = .ok (.iconst 1, 1) := by decide +kernel
theorem dX1_read_69 : decode cX1_read 69 = .ok (.ireturn, 1) := by decide +kernel
theorem dX1_outs_0 : decode cX1_outs 0 = .ok (.aload_n 0, 1) := by decide +kernel
theorem dX1_outs_1 : decode cX1_outs 1 = .ok (.iload_n 1, 1) := by decide +kernel
theorem dX1_outs_2 : decode cX1_outs 2 = .ok (.ifCond .lt 11, 3) := by decide +kernel
theorem dX1_outs_5 : decode cX1_outs 5 = .ok (.iload_n 1, 1) := by decide +kernel
theorem dX1_outs_6 : decode cX1_outs 6 = .ok (.aload_n 0, 1) := by decide +kernel
theorem dX1_outs_7 : decode cX1_outs 7 = .ok (.getfield 90, 3) := by decide +kernel
theorem dX1_outs_10 : decode cX1_outs 10 = .ok (.if_icmp .lt 7, 3) := by decide +kernel
theorem dX1_outs_13 : decode cX1_outs 13 = .ok (.iconst 1, 1) := by decide +kernel
theorem dX1_outs_14 : decode cX1_outs 14 = .ok (.goto 4, 3) := by decide +kernel
theorem dX1_outs_17 : decode cX1_outs 17 = .ok (.iconst 0, 1) := by decide +kernel
theorem dX1_outs_18 : decode cX1_outs 18 = .ok (.iconst 1, 1) := by decide +kernel
theorem dX1_outs_19 : decode cX1_outs 19 = .ok (.invokevirtual 66, 3) := by decide +kernel
theorem dX1_outs_22 : decode cX1_outs 22 = .ok (.ifCond .eq 5, 3) := by decide +kernel
theorem dX1_outs_25 : decode cX1_outs 25 = .ok (.lconst 0, 1) := by decide +kernel
theorem dX1_outs_26 : decode cX1_outs 26 = .ok (.lreturn, 1) := by decide +kernel
theorem dX1_outs_27 : decode cX1_outs 27 = .ok (.lconst 0, 1) := by decide +kernel
theorem dX1_outs_28 : decode cX1_outs 28 = .ok (.lstore_n 2, 1) := by decide +kernel
end
section
theorem dX1_outs_29 : decode cX1_outs 29 = .ok (.iconst 0, 1) := by decide +kernel
theorem dX1_outs_30 : decode cX1_outs 30 = .ok (.istore 4, 2) := by decide +kernel
theorem dX1_outs_32 : decode cX1_outs 32 = .ok (.iload 4, 2) := by decide +kernel
theorem dX1_outs_34 : decode cX1_outs 34 = .ok (.bipush 8, 2) := by decide +kernel
theorem dX1_outs_36 : decode cX1_outs 36 = .ok (.if_icmp .ge 39, 3) := by decide +kernel
theorem dX1_outs_39 : decode cX1_outs 39 = .ok (.iload_n 1, 1) := by decide +kernel
theorem dX1_outs_40 : decode cX1_outs 40 = .ok (.iload 4, 2) := by decide +kernel
theorem dX1_outs_42 : decode cX1_outs 42 = .ok (.iadd, 1) := by decide +kernel
theorem dX1_outs_43 : decode cX1_outs 43 = .ok (.aload_n 0, 1) := by decide +kernel
theorem dX1_outs_44 : decode cX1_outs 44 = .ok (.getfield 90, 3) := by decide +kernel
theorem dX1_outs_47 : decode cX1_outs 47 = .ok (.if_icmp .ge 28, 3) := by decide +kernel
theorem dX1_outs_50 : decode cX1_outs 50 = .ok (.lload_n 2, 1) := by decide +kernel
theorem dX1_outs_51 : decode cX1_outs 51 = .ok (.aload_n 0, 1) := by decide +kernel
theorem dX1_outs_52 : decode cX1_outs 52 = .ok (.getfield 13, 3) := by decide +kernel
theorem dX1_outs_55 : decode cX1_outs 55 = .ok (.iload_n 1, 1) := by decide +kernel
theorem dX1_outs_56 : decode cX1_outs 56 = .ok (.iload 4, 2) := by decide +kernel
theorem dX1_outs_58 : decode cX1_outs 58 = .ok (.iadd, 1) := by decide +kernel
theorem dX1_outs_59 : decode cX1_outs 59 = .ok (.iaload, 1) := by decide +kernel
theorem dX1_outs_60 : decode cX1_outs 60 = .ok (.i2l, 1) := by decide +kernel
theorem dX1_outs_61 : decode cX1_outs 61 = .ok (.bipush 8, 2) := by decide +kernel
theorem dX1_outs_63 : decode cX1_outs 63 = .ok (.iload 4, 2) := by decide +kernel
theorem dX1_outs_65 : decode cX1_outs 65 = .ok (.imul, 1) := by decide +kernel
theorem dX1_outs_66 : decode cX1_outs 66 = .ok (.lshl, 1) := by decide +kernel
theorem dX1_outs_67 : decode cX1_outs 67 = .ok (.lor, 1) := by decide +kernel
theorem dX1_outs_68 : decode cX1_outs 68 = .ok (.lstore_n 2, 1) := by decide +kernel
theorem dX1_outs_69 : decode cX1_outs 69 = .ok (.iinc 4 1, 3) := by decide +kernel
theorem dX1_outs_72 : decode cX1_outs 72 = .ok (.goto (-40), 3) := by decide +kernel
theorem dX1_outs_75 : decode cX1_outs 75 = .ok (.lload_n 2, 1) := by decide +kernel
theorem dX1_outs_76 : decode cX1_outs 76 = .ok (.lreturn, 1) := by decide +kernel
theorem dX1_tag_0 : decode cX1_tag 0 = .ok (.aload_n 0, 1) := by decide +kernel
theorem dX1_tag_1 : decode cX1_tag 1 = .ok (.iload_n 1, 1) := by decide +kernel
theorem dX1_tag_2 : decode cX1_tag 2 = .ok (.iload_n 2, 1) := by decide +kernel
theorem dX1_tag_3 : decode cX1_tag 3 = .ok (.invokestatic 75, 3) := by decide +kernel
theorem dX1_tag_6 : decode cX1_tag 6 = .ok (.iconst 1, 1) := by decide +kernel
theorem dX1_tag_7 : decode cX1_tag 7 = .ok (.invokevirtual 66, 3) := by decide +kernel
theorem dX1_tag_10 : decode cX1_tag 10 = .ok (.ifCond .eq 5, 3) := by decide +kernel
theorem dX1_tag_13 : decode cX1_tag 13 = .ok (.iconst 0, 1) := by decide +kernel
theorem dX1_tag_14 : decode cX1_tag 14 = .ok (.ireturn, 1) := by decide +kernel
theorem dX1_tag_15 : decode cX1_tag 15 = .ok (.iload_n 1, 1) := by decide +kernel
theorem dX1_tag_16 : decode cX1_tag 16 = .ok (.iload_n 2, 1) := by decide +kernel
theorem dX1_tag_17 : decode cX1_tag 17 = .ok (.invokestatic 58, 3) := by decide +kernel
theorem dX1_tag_20 : decode cX1_tag 20 = .ok (.istore_n 3, 1) := by decide +kernel
theorem dX1_tag_21 : decode cX1_tag 21 = .ok (.aload_n 0, 1) := by decide +kernel
theorem dX1_tag_22 : decode cX1_tag 22 = .ok (.iload_n 1, 1) := by decide +kernel
theorem dX1_tag_23 : decode cX1_tag 23 = .ok (.iload_n 2, 1) := by decide +kernel
theorem dX1_tag_24 : decode cX1_tag 24 = .ok (.invokevirtual 93, 3) := by decide +kernel
theorem dX1_tag_27 : decode cX1_tag 27 = .ok (.iconst 2, 1) := by decide +kernel
theorem dX1_tag_28 : decode cX1_tag 28 = .ok (.if_icmp .eq 7, 3) := by decide +kernel
theorem dX1_tag_31 : decode cX1_tag 31 = .ok (.iconst (-1), 1) := by decide +kernel
theorem dX1_tag_32 : decode cX1_tag 32 = .ok (.goto 22, 3) := by decide +kernel
theorem dX1_tag_35 : decode cX1_tag 35 = .ok (.aload_n 0, 1) := by decide +kernel
theorem dX1_tag_36 : decode cX1_tag 36 = .ok (.iload_n 3, 1) := by decide +kernel
theorem dX1_tag_37 : decode cX1_tag 37 = .ok (.bipush 64, 2) := by decide +kernel
theorem dX1_tag_39 : decode cX1_tag 39 = .ok (.invokevirtual 96, 3) := by decide +kernel
theorem dX1_tag_42 : decode cX1_tag 42 = .ok (.sipush 256, 3) := by decide +kernel
theorem dX1_tag_45 : decode cX1_tag 45 = .ok (.aload_n 0, 1) := by decide +kernel
theorem dX1_tag_46 : decode cX1_tag 46 = .ok (.iload_n 3, 1) := by decide +kernel
theorem dX1_tag_47 : decode cX1_tag 47 = .ok (.bipush 65, 2) := by decide +kernel
theorem dX1_tag_49 : decode cX1_tag 49 = .ok (.invokevirtual 96, 3) := by decide +kernel
theorem dX1_tag_52 : decode cX1_tag 52 = .ok (.imul, 1) := by decide +kernel
theorem dX1_tag_53 : decode cX1_tag 53 = .ok (.iadd, 1) := by decide +kernel
theorem dX1_tag_54 : decode cX1_tag 54 = .ok (.ireturn, 1) := by decide +kernel
theorem dX1_cell_0 : decode cX1_cell 0 = .ok (.aload_n 0, 1) := by decide +kernel
theorem dX1_cell_1 : decode cX1_cell 1 = .ok (.iload_n 1, 1) := by decide +kernel
theorem dX1_cell_2 : decode cX1_cell 2 = .ok (.iload_n 2, 1) := by decide +kernel
theorem dX1_cell_3 : decode cX1_cell 3 = .ok (.invokestatic 75, 3) := by decide +kernel
theorem dX1_cell_6 : decode cX1_cell 6 = .ok (.iconst 1, 1) := by decide +kernel
theorem dX1_cell_7 : decode cX1_cell 7 = .ok (.invokevirtual 66, 3) := by decide +kernel
theorem dX1_cell_10 : decode cX1_cell 10 = .ok (.ifCond .eq 7, 3) := by decide +kernel
theorem dX1_cell_13 : decode cX1_cell 13 = .ok (.iconst 0, 1) := by decide +kernel
theorem dX1_cell_14 : decode cX1_cell 14 = .ok (.goto 9, 3) := by decide +kernel
theorem dX1_cell_17 : decode cX1_cell 17 = .ok (.aload_n 0, 1) := by decide +kernel
theorem dX1_cell_18 : decode cX1_cell 18 = .ok (.iload_n 1, 1) := by decide +kernel
theorem dX1_cell_19 : decode cX1_cell 19 = .ok (.iload_n 2, 1) := by decide +kernel
theorem dX1_cell_20 : decode cX1_cell 20 = .ok (.invokevirtual 93, 3) := by decide +kernel
theorem dX1_cell_23 : decode cX1_cell 23 = .ok (.ireturn, 1) := by decide +kernel
theorem dX1_at_0 : decode cX1_at 0 = .ok (.aload_n 0, 1) := by decide +kernel
theorem dX1_at_1 : decode cX1_at 1 = .ok (.iload_n 1, 1) := by decide +kernel
theorem dX1_at_2 : decode cX1_at 2 = .ok (.iload_n 2, 1) := by decide +kernel
theorem dX1_at_3 : decode cX1_at 3 = .ok (.invokestatic 75, 3) := by decide +kernel
theorem dX1_at_6 : decode cX1_at 6 = .ok (.iconst 1, 1) := by decide +kernel
theorem dX1_at_7 : decode cX1_at 7 = .ok (.invokevirtual 66, 3) := by decide +kernel
theorem dX1_at_10 : decode cX1_at 10 = .ok (.ifCond .ne 36, 3) := by decide +kernel
theorem dX1_at_13 : decode cX1_at 13 = .ok (.aload_n 0, 1) := by decide +kernel
theorem dX1_at_14 : decode cX1_at 14 = .ok (.aload_n 0, 1) := by decide +kernel
theorem dX1_at_15 : decode cX1_at 15 = .ok (.iload_n 1, 1) := by decide +kernel
theorem dX1_at_16 : decode cX1_at 16 = .ok (.iload_n 2, 1) := by decide +kernel
theorem dX1_at_17 : decode cX1_at 17 = .ok (.invokevirtual 93, 3) := by decide +kernel
theorem dX1_at_20 : decode cX1_at 20 = .ok (.iconst 2, 1) := by decide +kernel
theorem dX1_at_21 : decode cX1_at 21 = .ok (.if_icmp .lt 13, 3) := by decide +kernel
theorem dX1_at_24 : decode cX1_at 24 = .ok (.iload_n 3, 1) := by decide +kernel
theorem dX1_at_25 : decode cX1_at 25 = .ok (.iconst 0, 1) := by decide +kernel
theorem dX1_at_26 : decode cX1_at 26 = .ok (.bipush 69, 2) := by decide +kernel
theorem dX1_at_28 : decode cX1_at 28 = .ok (.invokestatic 44, 3) := by decide +kernel
theorem dX1_at_31 : decode cX1_at 31 = .ok (.ifCond .ne 7, 3) := by decide +kernel
theorem dX1_at_34 : decode cX1_at 34 = .ok (.iconst 1, 1) := by decide +kernel
theorem dX1_at_35 : decode cX1_at 35 = .ok (.goto 4, 3) := by decide +kernel
theorem dX1_at_38 : decode cX1_at 38 = .ok (.iconst 0, 1) := by decide +kernel
theorem dX1_at_39 : decode cX1_at 39 = .ok (.iconst 2, 1) := by decide +kernel
theorem dX1_at_40 : decode cX1_at 40 = .ok (.invokevirtual 66, 3) := by decide +kernel
theorem dX1_at_43 : decode cX1_at 43 = .ok (.ifCond .eq 5, 3) := by decide +kernel
theorem dX1_at_46 : decode cX1_at 46 = .ok (.iconst 0, 1) := by decide +kernel
theorem dX1_at_47 : decode cX1_at 47 = .ok (.ireturn, 1) := by decide +kernel
theorem dX1_at_48 : decode cX1_at 48 = .ok (.aload_n 0, 1) := by decide +kernel
theorem dX1_at_49 : decode cX1_at 49 = .ok (.iload_n 1, 1) := by decide +kernel
theorem dX1_at_50 : decode cX1_at 50 = .ok (.iload_n 2, 1) := by decide +kernel
theorem dX1_at_51 : decode cX1_at 51 = .ok (.invokestatic 58, 3) := by decide +kernel
theorem dX1_at_54 : decode cX1_at 54 = .ok (.iload_n 3, 1) := by decide +kernel
theorem dX1_at_55 : decode cX1_at 55 = .ok (.invokevirtual 96, 3) := by decide +kernel
theorem dX1_at_58 : decode cX1_at 58 = .ok (.ireturn, 1) := by decide +kernel
theorem dX1_noDisk_0 : decode cX1_noDisk 0 = .ok (.iload_n 0, 1) := by decide +kernel
theorem dX1_noDisk_1 : decode cX1_noDisk 1 = .ok (.iconst 0, 1) := by decide +kernel
theorem dX1_noDisk_2 : decode cX1_noDisk 2 = .ok (.bipush 15, 2) := by decide +kernel
theorem dX1_noDisk_4 : decode cX1_noDisk 4 = .ok (.invokestatic 44, 3) := by decide +kernel
theorem dX1_noDisk_7 : decode cX1_noDisk 7 = .ok (.ifCond .ne 7, 3) := by decide +kernel
theorem dX1_noDisk_10 : decode cX1_noDisk 10 = .ok (.iconst 1, 1) := by decide +kernel
theorem dX1_noDisk_11 : decode cX1_noDisk 11 = .ok (.goto 4, 3) := by decide +kernel
theorem dX1_noDisk_14 : decode cX1_noDisk 14 = .ok (.iconst 0, 1) := by decide +kernel
theorem dX1_noDisk_15 : decode cX1_noDisk 15 = .ok (.ireturn, 1) := by decide +kernel
theorem dX1_fail_0 : decode cX1_fail 0 = .ok (.aload_n 0, 1) := by decide +kernel
theorem dX1_fail_1 : decode cX1_fail 1 = .ok (.iload_n 1, 1) := by decide +kernel
theorem dX1_fail_2 : decode cX1_fail 2 = .ok (.invokestatic 99, 3) := by decide +kernel
theorem dX1_fail_5 : decode cX1_fail 5 = .ok (.iconst 1, 1) := by decide +kernel
theorem dX1_fail_6 : decode cX1_fail 6 = .ok (.invokevirtual 66, 3) := by decide +kernel
theorem dX1_fail_9 : decode cX1_fail 9 = .ok (.ifCond .ne 12, 3) := by decide +kernel
theorem dX1_fail_12 : decode cX1_fail 12 = .ok (.aload_n 0, 1) := by decide +kernel
theorem dX1_fail_13 : decode cX1_fail 13 = .ok (.getfield 16, 3) := by decide +kernel
theorem dX1_fail_16 : decode cX1_fail 16 = .ok (.iload_n 1, 1) := by decide +kernel
theorem dX1_fail_17 : decode cX1_fail 17 = .ok (.baload, 1) := by decide +kernel
theorem dX1_fail_18 : decode cX1_fail 18 = .ok (.ifCond .ne 5, 3) := by decide +kernel
theorem dX1_fail_21 : decode cX1_fail 21 = .ok (.iconst 0, 1) := by decide +kernel
theorem dX1_fail_22 : decode cX1_fail 22 = .ok (.ireturn, 1) := by decide +kernel
theorem dX1_fail_23 : decode cX1_fail 23 = .ok (.aload_n 0, 1) := by decide +kernel
theorem dX1_fail_24 : decode cX1_fail 24 = .ok (.getfield 16, 3) := by decide +kernel
theorem dX1_fail_27 : decode cX1_fail 27 = .ok (.iload_n 1, 1) := by decide +kernel
theorem dX1_fail_28 : decode cX1_fail 28 = .ok (.iconst 0, 1) := by decide +kernel
theorem dX1_fail_29 : decode cX1_fail 29 = .ok (.bastore, 1) := by decide +kernel
theorem dX1_fail_30 : decode cX1_fail 30 = .ok (.iconst 1, 1) := by decide +kernel
theorem dX1_fail_31 : decode cX1_fail 31 = .ok (.ireturn, 1) := by decide +kernel
theorem dX1_replace_0 : decode cX1_replace 0 = .ok (.aload_n 0, 1) := by decide +kernel
theorem dX1_replace_1 : decode cX1_replace 1 = .ok (.iload_n 1, 1) := by decide +kernel
theorem dX1_replace_2 : decode cX1_replace 2 = .ok (.invokestatic 99, 3) := by decide +kernel
theorem dX1_replace_5 : decode cX1_replace 5 = .ok (.iconst 1, 1) := by decide +kernel
theorem dX1_replace_6 : decode cX1_replace 6 = .ok (.invokevirtual 66, 3) := by decide +kernel
theorem dX1_replace_9 : decode cX1_replace 9 = .ok (.ifCond .ne 12, 3) := by decide +kernel
theorem dX1_replace_12 : decode cX1_replace 12 = .ok (.aload_n 0, 1) := by decide +kernel
theorem dX1_replace_13 : decode cX1_replace 13 = .ok (.getfield 16, 3) := by decide +kernel
theorem dX1_replace_16 : decode cX1_replace 16 = .ok (.iload_n 1, 1) := by decide +kernel
theorem dX1_replace_17 : decode cX1_replace 17 = .ok (.baload, 1) := by decide +kernel
theorem dX1_replace_18 : decode cX1_replace 18 = .ok (.ifCond .eq 5, 3) := by decide +kernel
theorem dX1_replace_21 : decode cX1_replace 21 = .ok (.iconst 0, 1) := by decide +kernel
theorem dX1_replace_22 : decode cX1_replace 22 = .ok (.ireturn, 1) := by decide +kernel
theorem dX1_replace_23 : decode cX1_replace 23 = .ok (.aload_n 0, 1) := by decide +kernel
theorem dX1_replace_24 : decode cX1_replace 24 = .ok (.getfield 16, 3) := by decide +kernel
theorem dX1_replace_27 : decode cX1_replace 27 = .ok (.iload_n 1, 1) := by decide +kernel
theorem dX1_replace_28 : decode cX1_replace 28 = .ok (.iconst 1, 1) := by decide +kernel
theorem dX1_replace_29 : decode cX1_replace 29 = .ok (.bastore, 1) := by decide +kernel
theorem dX1_replace_30 : decode cX1_replace 30 = .ok (.iconst 0, 1) := by decide +kernel
theorem dX1_replace_31 : decode cX1_replace 31 = .ok (.istore_n 2, 1) := by decide +kernel
theorem dX1_replace_32 : decode cX1_replace 32 = .ok (.iload_n 2, 1) := by decide +kernel
theorem dX1_replace_33 : decode cX1_replace 33 = .ok (.bipush 66, 2) := by decide +kernel
theorem dX1_replace_35 : decode cX1_replace 35 = .ok (.if_icmp .ge 20, 3) := by decide +kernel
theorem dX1_replace_38 : decode cX1_replace 38 = .ok (.aload_n 0, 1) := by decide +kernel
theorem dX1_replace_39 : decode cX1_replace 39 = .ok (.getfield 20, 3) := by decide +kernel
theorem dX1_replace_42 : decode cX1_replace 42 = .ok (.iload_n 1, 1) := by decide +kernel
theorem dX1_replace_43 : decode cX1_replace 43 = .ok (.iload_n 2, 1) := by decide +kernel
theorem dX1_replace_44 : decode cX1_replace 44 = .ok (.invokestatic 58, 3) := by decide +kernel
theorem dX1_replace_47 : decode cX1_replace 47 = .ok (.iconst 0, 1) := by decide +kernel
theorem dX1_replace_48 : decode cX1_replace 48 = .ok (.bastore, 1) := by decide +kernel
theorem dX1_replace_49 : decode cX1_replace 49 = .ok (.iinc 2 1, 3) := by decide +kernel
theorem dX1_replace_52 : decode cX1_replace 52 = .ok (.goto (-20), 3) := by decide +kernel
theorem dX1_replace_55 : decode cX1_replace 55 = .ok (.iconst 1, 1) := by decide +kernel
theorem dX1_replace_56 : decode cX1_replace 56 = .ok (.ireturn, 1) := by decide +kernel
theorem dX1_corrupt_0 : decode cX1_corrupt 0 = .ok (.aload_n 0, 1) := by decide +kernel
theorem dX1_corrupt_1 : decode cX1_corrupt 1 = .ok (.iload_n 1, 1) := by decide +kernel
theorem dX1_corrupt_2 : decode cX1_corrupt 2 = .ok (.iload_n 2, 1) := by decide +kernel
theorem dX1_corrupt_3 : decode cX1_corrupt 3 = .ok (.invokestatic 75, 3) := by decide +kernel
theorem dX1_corrupt_6 : decode cX1_corrupt 6 = .ok (.ifCond .ne 27, 3) := by decide +kernel
theorem dX1_corrupt_9 : decode cX1_corrupt 9 = .ok (.iload 6, 2) := by decide +kernel
theorem dX1_corrupt_11 : decode cX1_corrupt 11 = .ok (.iconst 1, 1) := by decide +kernel
theorem dX1_corrupt_12 : decode cX1_corrupt 12 = .ok (.bipush 8, 2) := by decide +kernel
theorem dX1_corrupt_14 : decode cX1_corrupt 14 = .ok (.invokestatic 44, 3) := by decide +kernel
theorem dX1_corrupt_17 : decode cX1_corrupt 17 = .ok (.ifCond .eq 16, 3) := by decide +kernel
theorem dX1_corrupt_20 : decode cX1_corrupt 20 = .ok (.iload_n 3, 1) := by decide +kernel
theorem dX1_corrupt_21 : decode cX1_corrupt 21 = .ok (.iconst 0, 1) := by decide +kernel
theorem dX1_corrupt_22 : decode cX1_corrupt 22 = .ok (.bipush 70, 2) := by decide +kernel
theorem dX1_corrupt_24 : decode cX1_corrupt 24 = .ok (.iload 6, 2) := by decide +kernel
theorem dX1_corrupt_26 : decode cX1_corrupt 26 = .ok (.isub, 1) := by decide +kernel
theorem dX1_corrupt_27 : decode cX1_corrupt 27 = .ok (.invokestatic 44, 3) := by decide +kernel
theorem dX1_corrupt_30 : decode cX1_corrupt 30 = .ok (.ifCond .ne 7, 3) := by decide +kernel
theorem dX1_corrupt_33 : decode cX1_corrupt 33 = .ok (.iconst 1, 1) := by decide +kernel
theorem dX1_corrupt_34 : decode cX1_corrupt 34 = .ok (.goto 4, 3) := by decide +kernel
theorem dX1_corrupt_37 : decode cX1_corrupt 37 = .ok (.iconst 0, 1) := by decide +kernel
theorem dX1_corrupt_38 : decode cX1_corrupt 38 = .ok (.iconst 1, 1) := by decide +kernel
theorem dX1_corrupt_39 : decode cX1_corrupt 39 = .ok (.invokevirtual 66, 3) := by decide +kernel
theorem dX1_corrupt_42 : decode cX1_corrupt 42 = .ok (.ifCond .ne 13, 3) := by decide +kernel
theorem dX1_corrupt_45 : decode cX1_corrupt 45 = .ok (.aload_n 0, 1) := by decide +kernel
theorem dX1_corrupt_46 : decode cX1_corrupt 46 = .ok (.iload_n 1, 1) := by decide +kernel
theorem dX1_corrupt_47 : decode cX1_corrupt 47 = .ok (.iload_n 2, 1) := by decide +kernel
theorem dX1_corrupt_48 : decode cX1_corrupt 48 = .ok (.invokevirtual 93, 3) := by decide +kernel
theorem dX1_corrupt_51 : decode cX1_corrupt 51 = .ok (.iconst 2, 1) := by decide +kernel
theorem dX1_corrupt_52 : decode cX1_corrupt 52 = .ok (.if_icmp .ge 5, 3) := by decide +kernel
theorem dX1_corrupt_55 : decode cX1_corrupt 55 = .ok (.iconst 0, 1) := by decide +kernel
theorem dX1_corrupt_56 : decode cX1_corrupt 56 = .ok (.ireturn, 1) := by decide +kernel
theorem dX1_corrupt_57 : decode cX1_corrupt 57 = .ok (.iload_n 1, 1) := by decide +kernel
theorem dX1_corrupt_58 : decode cX1_corrupt 58 = .ok (.iload_n 2, 1) := by decide +kernel
theorem dX1_corrupt_59 : decode cX1_corrupt 59 = .ok (.invokestatic 58, 3) := by decide +kernel
theorem dX1_corrupt_62 : decode cX1_corrupt 62 = .ok (.istore 7, 2) := by decide +kernel
theorem dX1_corrupt_64 : decode cX1_corrupt 64 = .ok (.aload_n 0, 1) := by decide +kernel
theorem dX1_corrupt_65 : decode cX1_corrupt 65 = .ok (.iload 7, 2) := by decide +kernel
theorem dX1_corrupt_67 : decode cX1_corrupt 67 = .ok (.iload_n 3, 1) := by decide +kernel
theorem dX1_corrupt_68 : decode cX1_corrupt 68 = .ok (.lload 4, 2) := by decide +kernel
theorem dX1_corrupt_70 : decode cX1_corrupt 70 = .ok (.iload 6, 2) := by decide +kernel
theorem dX1_corrupt_72 : decode cX1_corrupt 72 = .ok (.invokevirtual 102, 3) := by decide +kernel
theorem dX1_corrupt_75 : decode cX1_corrupt 75 = .ok (.aload_n 0, 1) := by decide +kernel
theorem dX1_corrupt_76 : decode cX1_corrupt 76 = .ok (.iload 7, 2) := by decide +kernel
theorem dX1_corrupt_78 : decode cX1_corrupt 78 = .ok (.invokevirtual 62, 3) := by decide +kernel
theorem dX1_corrupt_81 : decode cX1_corrupt 81 = .ok (.ifCond .eq 12, 3) := by decide +kernel
theorem dX1_corrupt_84 : decode cX1_corrupt 84 = .ok (.aload_n 0, 1) := by decide +kernel
theorem dX1_corrupt_85 : decode cX1_corrupt 85 = .ok (.iload 7, 2) := by decide +kernel
theorem dX1_corrupt_87 : decode cX1_corrupt 87 = .ok (.invokevirtual 106, 3) := by decide +kernel
theorem dX1_corrupt_90 : decode cX1_corrupt 90 = .ok (.ifCond .ne 5, 3) := by decide +kernel
theorem dX1_corrupt_93 : decode cX1_corrupt 93 = .ok (.iconst 1, 1) := by decide +kernel
theorem dX1_corrupt_94 : decode cX1_corrupt 94 = .ok (.ireturn, 1) := by decide +kernel
theorem dX1_corrupt_95 : decode cX1_corrupt 95 = .ok (.aload_n 0, 1) := by decide +kernel
theorem dX1_corrupt_96 : decode cX1_corrupt 96 = .ok (.iload 7, 2) := by decide +kernel
theorem dX1_corrupt_98 : decode cX1_corrupt 98 = .ok (.iload_n 3, 1) := by decide +kernel
theorem dX1_corrupt_99 : decode cX1_corrupt 99 = .ok (.lload 4, 2) := by decide +kernel
theorem dX1_corrupt_101 : decode cX1_corrupt 101 = .ok (.iload 6, 2) := by decide +kernel
theorem dX1_corrupt_103 : decode cX1_corrupt 103 = .ok (.invokevirtual 102, 3) := by decide +kernel
theorem dX1_corrupt_106 : decode cX1_corrupt 106 = .ok (.iconst 0, 1) := by decide +kernel
theorem dX1_corrupt_107 : decode cX1_corrupt 107 = .ok (.ireturn, 1) := by decide +kernel
theorem dX1_strike_0 : decode cX1_strike 0 = .ok (.iconst 0, 1) := by decide +kernel
theorem dX1_strike_1 : decode cX1_strike 1 = .ok (.istore 6, 2) := by decide +kernel
theorem dX1_strike_3 : decode cX1_strike 3 = .ok (.iload 6, 2) := by decide +kernel
theorem dX1_strike_5 : decode cX1_strike 5 = .ok (.iload 5, 2) := by decide +kernel
theorem dX1_strike_7 : decode cX1_strike 7 = .ok (.if_icmp .ge 36, 3) := by decide +kernel
theorem dX1_strike_10 : decode cX1_strike 10 = .ok (.aload_n 0, 1) := by decide +kernel
theorem dX1_strike_11 : decode cX1_strike 11 = .ok (.getfield 28, 3) := by decide +kernel
theorem dX1_strike_14 : decode cX1_strike 14 = .ok (.bipush 70, 2) := by decide +kernel
theorem dX1_strike_16 : decode cX1_strike 16 = .ok (.iload_n 1, 1) := by decide +kernel
theorem dX1_strike_17 : decode cX1_strike 17 = .ok (.imul, 1) := by decide +kernel
theorem dX1_strike_18 : decode cX1_strike 18 = .ok (.iload_n 2, 1) := by decide +kernel
theorem dX1_strike_19 : decode cX1_strike 19 = .ok (.iadd, 1) := by decide +kernel
theorem dX1_strike_20 : decode cX1_strike 20 = .ok (.iload 6, 2) := by decide +kernel
theorem dX1_strike_22 : decode cX1_strike 22 = .ok (.iadd, 1) := by decide +kernel
theorem dX1_strike_23 : decode cX1_strike 23 = .ok (.dup2, 1) := by decide +kernel
theorem dX1_strike_24 : decode cX1_strike 24 = .ok (.baload, 1) := by decide +kernel
theorem dX1_strike_25 : decode cX1_strike 25 = .ok (.lload_n 3, 1) := by decide +kernel
theorem dX1_strike_26 : decode cX1_strike 26 = .ok (.bipush 8, 2) := by decide +kernel
theorem dX1_strike_28 : decode cX1_strike 28 = .ok (.iload 6, 2) := by decide +kernel
theorem dX1_strike_30 : decode cX1_strike 30 = .ok (.imul, 1) := by decide +kernel
theorem dX1_strike_31 : decode cX1_strike 31 = .ok (.lshr, 1) := by decide +kernel
theorem dX1_strike_32 : decode cX1_strike 32 = .ok (.l2i, 1) := by decide +kernel
theorem dX1_strike_33 : decode cX1_strike 33 = .ok (.i2b, 1) := by decide +kernel
theorem dX1_strike_34 : decode cX1_strike 34 = .ok (.ixor, 1) := by decide +kernel
theorem dX1_strike_35 : decode cX1_strike 35 = .ok (.i2b, 1) := by decide +kernel
theorem dX1_strike_36 : decode cX1_strike 36 = .ok (.bastore, 1) := by decide +kernel
theorem dX1_strike_37 : decode cX1_strike 37 = .ok (.iinc 6 1, 3) := by decide +kernel
theorem dX1_strike_40 : decode cX1_strike 40 = .ok (.goto (-37), 3) := by decide +kernel
theorem dX1_strike_43 : decode cX1_strike 43 = .ok (.return_, 1) := by decide +kernel
theorem dX1_lose_0 : decode cX1_lose 0 = .ok (.aload_n 0, 1) := by decide +kernel
theorem dX1_lose_1 : decode cX1_lose 1 = .ok (.iload_n 1, 1) := by decide +kernel
theorem dX1_lose_2 : decode cX1_lose 2 = .ok (.iconst 1, 1) := by decide +kernel
theorem dX1_lose_3 : decode cX1_lose 3 = .ok (.if_icmp .ge 7, 3) := by decide +kernel
theorem dX1_lose_6 : decode cX1_lose 6 = .ok (.iconst 1, 1) := by decide +kernel
theorem dX1_lose_7 : decode cX1_lose 7 = .ok (.goto 4, 3) := by decide +kernel
theorem dX1_lose_10 : decode cX1_lose 10 = .ok (.iconst 0, 1) := by decide +kernel
theorem dX1_lose_11 : decode cX1_lose 11 = .ok (.iconst 1, 1) := by decide +kernel
theorem dX1_lose_12 : decode cX1_lose 12 = .ok (.invokevirtual 66, 3) := by decide +kernel
theorem dX1_lose_15 : decode cX1_lose 15 = .ok (.ifCond .ne 15, 3) := by decide +kernel
theorem dX1_lose_18 : decode cX1_lose 18 = .ok (.aload_n 0, 1) := by decide +kernel
theorem dX1_lose_19 : decode cX1_lose 19 = .ok (.aload_n 0, 1) := by decide +kernel
theorem dX1_lose_20 : decode cX1_lose 20 = .ok (.getfield 80, 3) := by decide +kernel
theorem dX1_lose_23 : decode cX1_lose 23 = .ok (.iconst 2, 1) := by decide +kernel
theorem dX1_lose_24 : decode cX1_lose 24 = .ok (.invokevirtual 66, 3) := by decide +kernel
theorem dX1_lose_27 : decode cX1_lose 27 = .ok (.ifCond .eq 4, 3) := by decide +kernel
theorem dX1_lose_30 : decode cX1_lose 30 = .ok (.return_, 1) := by decide +kernel
theorem dX1_lose_31 : decode cX1_lose 31 = .ok (.aload_n 0, 1) := by decide +kernel
theorem dX1_lose_32 : decode cX1_lose 32 = .ok (.iload_n 1, 1) := by decide +kernel
theorem dX1_lose_33 : decode cX1_lose 33 = .ok (.i2l, 1) := by decide +kernel
theorem dX1_lose_34 : decode cX1_lose 34 = .ok (.lconst 1, 1) := by decide +kernel
theorem dX1_lose_35 : decode cX1_lose 35 = .ok (.lsub, 1) := by decide +kernel
theorem dX1_lose_36 : decode cX1_lose 36 = .ok (.putfield 33, 3) := by decide +kernel
theorem dX1_lose_39 : decode cX1_lose 39 = .ok (.return_, 1) := by decide +kernel
theorem dX1_power_0 : decode cX1_power 0 = .ok (.aload_n 0, 1) := by decide +kernel
theorem dX1_power_1 : decode cX1_power 1 = .ok (.iconst 0, 1) := by decide +kernel
theorem dX1_power_2 : decode cX1_power 2 = .ok (.putfield 40, 3) := by decide +kernel
theorem dX1_power_5 : decode cX1_power 5 = .ok (.aload_n 0, 1) := by decide +kernel
theorem dX1_power_6 : decode cX1_power 6 = .ok (.getfield 80, 3) := by decide +kernel
theorem dX1_power_9 : decode cX1_power 9 = .ok (.istore_n 1, 1) := by decide +kernel
theorem dX1_power_10 : decode cX1_power 10 = .ok (.aload_n 0, 1) := by decide +kernel
theorem dX1_power_11 : decode cX1_power 11 = .ok (.iconst 0, 1) := by decide +kernel
theorem dX1_power_12 : decode cX1_power 12 = .ok (.putfield 80, 3) := by decide +kernel
theorem dX1_power_15 : decode cX1_power 15 = .ok (.aload_n 0, 1) := by decide +kernel
theorem dX1_power_16 : decode cX1_power 16 = .ok (.ldc2_w 31, 3) := by decide +kernel
theorem dX1_power_19 : decode cX1_power 19 = .ok (.putfield 33, 3) := by decide +kernel
theorem dX1_power_22 : decode cX1_power 22 = .ok (.iload_n 1, 1) := by decide +kernel
theorem dX1_power_23 : decode cX1_power 23 = .ok (.ireturn, 1) := by decide +kernel
theorem dX1_count_0 : decode cX1_count 0 = .ok (.lconst 0, 1) := by decide +kernel
theorem dX1_count_1 : decode cX1_count 1 = .ok (.lstore_n 2, 1) := by decide +kernel
theorem dX1_count_2 : decode cX1_count 2 = .ok (.iconst 0, 1) := by decide +kernel
theorem dX1_count_3 : decode cX1_count 3 = .ok (.istore 4, 2) := by decide +kernel
theorem dX1_count_5 : decode cX1_count 5 = .ok (.iload 4, 2) := by decide +kernel
theorem dX1_count_7 : decode cX1_count 7 = .ok (.bipush 16, 2) := by decide +kernel
theorem dX1_count_9 : decode cX1_count 9 = .ok (.if_icmp .ge 45, 3) := by decide +kernel
theorem dX1_count_12 : decode cX1_count 12 = .ok (.iconst 0, 1) := by decide +kernel
theorem dX1_count_13 : decode cX1_count 13 = .ok (.istore 5, 2) := by decide +kernel
theorem dX1_count_15 : decode cX1_count 15 = .ok (.iload 5, 2) := by decide +kernel
theorem dX1_count_17 : decode cX1_count 17 = .ok (.bipush 66, 2) := by decide +kernel
theorem dX1_count_19 : decode cX1_count 19 = .ok (.if_icmp .ge 29, 3) := by decide +kernel
theorem dX1_count_22 : decode cX1_count 22 = .ok (.lload_n 2, 1) := by decide +kernel
theorem dX1_count_23 : decode cX1_count 23 = .ok (.aload_n 0, 1) := by decide +kernel
theorem dX1_count_24 : decode cX1_count 24 = .ok (.iload 4, 2) := by decide +kernel
theorem dX1_count_26 : decode cX1_count 26 = .ok (.iload 5, 2) := by decide +kernel
theorem dX1_count_28 : decode cX1_count 28 = .ok (.invokevirtual 93, 3) := by decide +kernel
theorem dX1_count_31 : decode cX1_count 31 = .ok (.iload_n 1, 1) := by decide +kernel
theorem dX1_count_32 : decode cX1_count 32 = .ok (.if_icmp .ne 7, 3) := by decide +kernel
theorem dX1_count_35 : decode cX1_count 35 = .ok (.lconst 1, 1) := by decide +kernel
theorem dX1_count_36 : decode cX1_count 36 = .ok (.goto 4, 3) := by decide +kernel
theorem dX1_count_39 : decode cX1_count 39 = .ok (.lconst 0, 1) := by decide +kernel
theorem dX1_count_40 : decode cX1_count 40 = .ok (.ladd, 1) := by decide +kernel
theorem dX1_count_41 : decode cX1_count 41 = .ok (.lstore_n 2, 1) := by decide +kernel
theorem dX1_count_42 : decode cX1_count 42 = .ok (.iinc 5 1, 3) := by decide +kernel
theorem dX1_count_45 : decode cX1_count 45 = .ok (.goto (-30), 3) := by decide +kernel
theorem dX1_count_48 : decode cX1_count 48 = .ok (.iinc 4 1, 3) := by decide +kernel
theorem dX1_count_51 : decode cX1_count 51 = .ok (.goto (-46), 3) := by decide +kernel
theorem dX1_count_54 : decode cX1_count 54 = .ok (.lload_n 2, 1) := by decide +kernel
theorem dX1_count_55 : decode cX1_count 55 = .ok (.lreturn, 1) := by decide +kernel
theorem dX1_look_0 : decode cX1_look 0 = .ok (.aload_n 0, 1) := by decide +kernel
theorem dX1_look_1 : decode cX1_look 1 = .ok (.iload_n 1, 1) := by decide +kernel
theorem dX1_look_2 : decode cX1_look 2 = .ok (.iconst 0, 1) := by decide +kernel
theorem dX1_look_3 : decode cX1_look 3 = .ok (.iconst 5, 1) := by decide +kernel
theorem dX1_look_4 : decode cX1_look 4 = .ok (.invokestatic 44, 3) := by decide +kernel
theorem dX1_look_7 : decode cX1_look 7 = .ok (.ifCond .ne 7, 3) := by decide +kernel
theorem dX1_look_10 : decode cX1_look 10 = .ok (.iconst 1, 1) := by decide +kernel
theorem dX1_look_11 : decode cX1_look 11 = .ok (.goto 4, 3) := by decide +kernel
theorem dX1_look_14 : decode cX1_look 14 = .ok (.iconst 0, 1) := by decide +kernel
theorem dX1_look_15 : decode cX1_look 15 = .ok (.iconst 1, 1) := by decide +kernel
theorem dX1_look_16 : decode cX1_look 16 = .ok (.invokevirtual 66, 3) := by decide +kernel
theorem dX1_look_19 : decode cX1_look 19 = .ok (.ifCond .eq 5, 3) := by decide +kernel
theorem dX1_look_22 : decode cX1_look 22 = .ok (.lconst 0, 1) := by decide +kernel
theorem dX1_look_23 : decode cX1_look 23 = .ok (.lreturn, 1) := by decide +kernel
theorem dX1_look_24 : decode cX1_look 24 = .ok (.iload_n 1, 1) := by decide +kernel
theorem dX1_look_25 : decode cX1_look 25 = .ok (.tableswitch 113 0 4 #[35, 40, 53, 69, 107], 35) := by decide +kernel
theorem dX1_look_60 : decode cX1_look 60 = .ok (.aload_n 0, 1) := by decide +kernel
theorem dX1_look_61 : decode cX1_look 61 = .ok (.getfield 84, 3) := by decide +kernel
theorem dX1_look_64 : decode cX1_look 64 = .ok (.lreturn, 1) := by decide +kernel
theorem dX1_look_65 : decode cX1_look 65 = .ok (.aload_n 0, 1) := by decide +kernel
theorem dX1_look_66 : decode cX1_look 66 = .ok (.getfield 80, 3) := by decide +kernel
theorem dX1_look_69 : decode cX1_look 69 = .ok (.ifCond .eq 7, 3) := by decide +kernel
theorem dX1_look_72 : decode cX1_look 72 = .ok (.lconst 1, 1) := by decide +kernel
theorem dX1_look_73 : decode cX1_look 73 = .ok (.goto 4, 3) := by decide +kernel
theorem dX1_look_76 : decode cX1_look 76 = .ok (.lconst 0, 1) := by decide +kernel
theorem dX1_look_77 : decode cX1_look 77 = .ok (.lreturn, 1) := by decide +kernel
theorem dX1_look_78 : decode cX1_look 78 = .ok (.aload_n 0, 1) := by decide +kernel
theorem dX1_look_79 : decode cX1_look 79 = .ok (.getfield 80, 3) := by decide +kernel
theorem dX1_look_82 : decode cX1_look 82 = .ok (.ifCond .eq 7, 3) := by decide +kernel
theorem dX1_look_85 : decode cX1_look 85 = .ok (.lconst 0, 1) := by decide +kernel
theorem dX1_look_86 : decode cX1_look 86 = .ok (.goto 7, 3) := by decide +kernel
theorem dX1_look_89 : decode cX1_look 89 = .ok (.aload_n 0, 1) := by decide +kernel
theorem dX1_look_90 : decode cX1_look 90 = .ok (.getfield 33, 3) := by decide +kernel
theorem dX1_look_93 : decode cX1_look 93 = .ok (.lreturn, 1) := by decide +kernel
theorem dX1_look_94 : decode cX1_look 94 = .ok (.lconst 0, 1) := by decide +kernel
theorem dX1_look_95 : decode cX1_look 95 = .ok (.lstore_n 2, 1) := by decide +kernel
theorem dX1_look_96 : decode cX1_look 96 = .ok (.iconst 0, 1) := by decide +kernel
theorem dX1_look_97 : decode cX1_look 97 = .ok (.istore 4, 2) := by decide +kernel
theorem dX1_look_99 : decode cX1_look 99 = .ok (.iload 4, 2) := by decide +kernel
theorem dX1_look_101 : decode cX1_look 101 = .ok (.bipush 16, 2) := by decide +kernel
theorem dX1_look_103 : decode cX1_look 103 = .ok (.if_icmp .ge 27, 3) := by decide +kernel
theorem dX1_look_106 : decode cX1_look 106 = .ok (.lload_n 2, 1) := by decide +kernel
theorem dX1_look_107 : decode cX1_look 107 = .ok (.aload_n 0, 1) := by decide +kernel
theorem dX1_look_108 : decode cX1_look 108 = .ok (.getfield 16, 3) := by decide +kernel
theorem dX1_look_111 : decode cX1_look 111 = .ok (.iload 4, 2) := by decide +kernel
theorem dX1_look_113 : decode cX1_look 113 = .ok (.baload, 1) := by decide +kernel
theorem dX1_look_114 : decode cX1_look 114 = .ok (.ifCond .eq 7, 3) := by decide +kernel
theorem dX1_look_117 : decode cX1_look 117 = .ok (.lconst 1, 1) := by decide +kernel
theorem dX1_look_118 : decode cX1_look 118 = .ok (.goto 4, 3) := by decide +kernel
theorem dX1_look_121 : decode cX1_look 121 = .ok (.lconst 0, 1) := by decide +kernel
theorem dX1_look_122 : decode cX1_look 122 = .ok (.ladd, 1) := by decide +kernel
theorem dX1_look_123 : decode cX1_look 123 = .ok (.lstore_n 2, 1) := by decide +kernel
theorem dX1_look_124 : decode cX1_look 124 = .ok (.iinc 4 1, 3) := by decide +kernel
theorem dX1_look_127 : decode cX1_look 127 = .ok (.goto (-28), 3) := by decide +kernel
theorem dX1_look_130 : decode cX1_look 130 = .ok (.lload_n 2, 1) := by decide +kernel
theorem dX1_look_131 : decode cX1_look 131 = .ok (.lreturn, 1) := by decide +kernel
theorem dX1_look_132 : decode cX1_look 132 = .ok (.aload_n 0, 1) := by decide +kernel
theorem dX1_look_133 : decode cX1_look 133 = .ok (.iconst 2, 1) := by decide +kernel
theorem dX1_look_134 : decode cX1_look 134 = .ok (.invokevirtual 109, 3) := by decide +kernel
theorem dX1_look_137 : decode cX1_look 137 = .ok (.lreturn, 1) := by decide +kernel
theorem dX1_look_138 : decode cX1_look 138 = .ok (.aload_n 0, 1) := by decide +kernel
theorem dX1_look_139 : decode cX1_look 139 = .ok (.iconst 3, 1) := by decide +kernel
theorem dX1_look_140 : decode cX1_look 140 = .ok (.invokevirtual 109, 3) := by decide +kernel
theorem dX1_look_143 : decode cX1_look 143 = .ok (.lreturn, 1) := by decide +kernel
theorem dJ9_min_7cf53_0 : decode cJ9_min_7cf53 0 = .ok (.iload_n 0, 1) := by decide +kernel
theorem dJ9_min_7cf53_1 : decode cJ9_min_7cf53 1 = .ok (.iload_n 1, 1) := by decide +kernel
theorem dJ9_min_7cf53_2 : decode cJ9_min_7cf53 2 = .ok (.if_icmp .gt 7, 3) := by decide +kernel
theorem dJ9_min_7cf53_5 : decode cJ9_min_7cf53 5 = .ok (.iload_n 0, 1) := by decide +kernel
theorem dJ9_min_7cf53_6 : decode cJ9_min_7cf53 6 = .ok (.goto 4, 3) := by decide +kernel
theorem dJ9_min_7cf53_9 : decode cJ9_min_7cf53 9 = .ok (.iload_n 1, 1) := by decide +kernel
theorem dJ9_min_7cf53_10 : decode cJ9_min_7cf53 10 = .ok (.ireturn, 1) := by decide +kernel
theorem dJ7_fill_d0a16_0 : decode cJ7_fill_d0a16 0 = .ok (.iconst 0, 1) := by decide +kernel
theorem dJ7_fill_d0a16_1 : decode cJ7_fill_d0a16 1 = .ok (.istore_n 3, 1) := by decide +kernel
theorem dJ7_fill_d0a16_2 : decode cJ7_fill_d0a16 2 = .ok (.aload_n 0, 1) := by decide +kernel
theorem dJ7_fill_d0a16_3 : decode cJ7_fill_d0a16 3 = .ok (.arraylength, 1) := by decide +kernel
theorem dJ7_fill_d0a16_4 : decode cJ7_fill_d0a16 4 = .ok (.istore 4, 2) := by decide +kernel
theorem dJ7_fill_d0a16_6 : decode cJ7_fill_d0a16 6 = .ok (.iload_n 3, 1) := by decide +kernel
theorem dJ7_fill_d0a16_7 : decode cJ7_fill_d0a16 7 = .ok (.iload 4, 2) := by decide +kernel
theorem dJ7_fill_d0a16_9 : decode cJ7_fill_d0a16 9 = .ok (.if_icmp .ge 13, 3) := by decide +kernel
theorem dJ7_fill_d0a16_12 : decode cJ7_fill_d0a16 12 = .ok (.aload_n 0, 1) := by decide +kernel
theorem dJ7_fill_d0a16_13 : decode cJ7_fill_d0a16 13 = .ok (.iload_n 3, 1) := by decide +kernel
theorem dJ7_fill_d0a16_14 : decode cJ7_fill_d0a16 14 = .ok (.lload_n 1, 1) := by decide +kernel
theorem dJ7_fill_d0a16_15 : decode cJ7_fill_d0a16 15 = .ok (.lastore, 1) := by decide +kernel
theorem dJ7_fill_d0a16_16 : decode cJ7_fill_d0a16 16 = .ok (.iinc 3 1, 3) := by decide +kernel
theorem dJ7_fill_d0a16_19 : decode cJ7_fill_d0a16 19 = .ok (.goto (-13), 3) := by decide +kernel
theorem dJ7_fill_d0a16_22 : decode cJ7_fill_d0a16 22 = .ok (.return_, 1) := by decide +kernel
theorem dJ7_fill_53178_0 : decode cJ7_fill_53178 0 = .ok (.iconst 0, 1) := by decide +kernel
theorem dJ7_fill_53178_1 : decode cJ7_fill_53178 1 = .ok (.istore_n 2, 1) := by decide +kernel
theorem dJ7_fill_53178_2 : decode cJ7_fill_53178 2 = .ok (.aload_n 0, 1) := by decide +kernel
theorem dJ7_fill_53178_3 : decode cJ7_fill_53178 3 = .ok (.arraylength, 1) := by decide +kernel
theorem dJ7_fill_53178_4 : decode cJ7_fill_53178 4 = .ok (.istore_n 3, 1) := by decide +kernel
theorem dJ7_fill_53178_5 : decode cJ7_fill_53178 5 = .ok (.iload_n 2, 1) := by decide +kernel
theorem dJ7_fill_53178_6 : decode cJ7_fill_53178 6 = .ok (.iload_n 3, 1) := by decide +kernel
theorem dJ7_fill_53178_7 : decode cJ7_fill_53178 7 = .ok (.if_icmp .ge 13, 3) := by decide +kernel
theorem dJ7_fill_53178_10 : decode cJ7_fill_53178 10 = .ok (.aload_n 0, 1) := by decide +kernel
theorem dJ7_fill_53178_11 : decode cJ7_fill_53178 11 = .ok (.iload_n 2, 1) := by decide +kernel
theorem dJ7_fill_53178_12 : decode cJ7_fill_53178 12 = .ok (.iload_n 1, 1) := by decide +kernel
theorem dJ7_fill_53178_13 : decode cJ7_fill_53178 13 = .ok (.iastore, 1) := by decide +kernel
theorem dJ7_fill_53178_14 : decode cJ7_fill_53178 14 = .ok (.iinc 2 1, 3) := by decide +kernel
theorem dJ7_fill_53178_17 : decode cJ7_fill_53178 17 = .ok (.goto (-12), 3) := by decide +kernel
theorem dJ7_fill_53178_20 : decode cJ7_fill_53178 20 = .ok (.return_, 1) := by decide +kernel
theorem dL_feed_0 : decode cL_feed 0 = .ok (.aload 4, 2) := by decide +kernel
theorem dL_feed_2 : decode cL_feed 2 = .ok (.iconst 0, 1) := by decide +kernel
theorem dL_feed_3 : decode cL_feed 3 = .ok (.aload_n 0, 1) := by decide +kernel
theorem dL_feed_4 : decode cL_feed 4 = .ok (.iload_n 1, 1) := by decide +kernel
theorem dL_feed_5 : decode cL_feed 5 = .ok (.lload_n 2, 1) := by decide +kernel
theorem dL_feed_6 : decode cL_feed 6 = .ok (.invokevirtual 7, 3) := by decide +kernel
theorem dL_feed_9 : decode cL_feed 9 = .ok (.i2l, 1) := by decide +kernel
theorem dL_feed_10 : decode cL_feed 10 = .ok (.lastore, 1) := by decide +kernel
theorem dL_feed_11 : decode cL_feed 11 = .ok (.goto 11, 3) := by decide +kernel
theorem dL_feed_14 : decode cL_feed 14 = .ok (.astore 5, 2) := by decide +kernel
theorem dL_feed_16 : decode cL_feed 16 = .ok (.iconst 1, 1) := by decide +kernel
theorem dL_feed_17 : decode cL_feed 17 = .ok (.ireturn, 1) := by decide +kernel
theorem dL_feed_18 : decode cL_feed 18 = .ok (.astore 5, 2) := by decide +kernel
theorem dL_feed_20 : decode cL_feed 20 = .ok (.iconst 2, 1) := by decide +kernel
theorem dL_feed_21 : decode cL_feed 21 = .ok (.ireturn, 1) := by decide +kernel
theorem dL_feed_22 : decode cL_feed 22 = .ok (.iconst 0, 1) := by decide +kernel
theorem dL_feed_23 : decode cL_feed 23 = .ok (.ireturn, 1) := by decide +kernel
theorem dL_write_0 : decode cL_write 0 = .ok (.aload 4, 2) := by decide +kernel
theorem dL_write_2 : decode cL_write 2 = .ok (.iconst 0, 1) := by decide +kernel
theorem dL_write_3 : decode cL_write 3 = .ok (.aload_n 0, 1) := by decide +kernel
theorem dL_write_4 : decode cL_write 4 = .ok (.iload_n 1, 1) := by decide +kernel
theorem dL_write_5 : decode cL_write 5 = .ok (.iload_n 2, 1) := by decide +kernel
theorem dL_write_6 : decode cL_write 6 = .ok (.iload_n 3, 1) := by decide +kernel
theorem dL_write_7 : decode cL_write 7 = .ok (.invokevirtual 17, 3) := by decide +kernel
theorem dL_write_10 : decode cL_write 10 = .ok (.ifCond .eq 7, 3) := by decide +kernel
theorem dL_write_13 : decode cL_write 13 = .ok (.lconst 1, 1) := by decide +kernel
theorem dL_write_14 : decode cL_write 14 = .ok (.goto 4, 3) := by decide +kernel
theorem dL_write_17 : decode cL_write 17 = .ok (.lconst 0, 1) := by decide +kernel
theorem dL_write_18 : decode cL_write 18 = .ok (.lastore, 1) := by decide +kernel
theorem dL_write_19 : decode cL_write 19 = .ok (.goto 11, 3) := by decide +kernel
theorem dL_write_22 : decode cL_write 22 = .ok (.astore 5, 2) := by decide +kernel
theorem dL_write_24 : decode cL_write 24 = .ok (.iconst 1, 1) := by decide +kernel
theorem dL_write_25 : decode cL_write 25 = .ok (.ireturn, 1) := by decide +kernel
theorem dL_write_26 : decode cL_write 26 = .ok (.astore 5, 2) := by decide +kernel
theorem dL_write_28 : decode cL_write 28 = .ok (.iconst 2, 1) := by decide +kernel
theorem dL_write_29 : decode cL_write 29 = .ok (.ireturn, 1) := by decide +kernel
theorem dL_write_30 : decode cL_write 30 = .ok (.iconst 0, 1) := by decide +kernel
theorem dL_write_31 : decode cL_write 31 = .ok (.ireturn, 1) := by decide +kernel
theorem dL_read_0 : decode cL_read 0 = .ok (.aload_n 3, 1) := by decide +kernel
theorem dL_read_1 : decode cL_read 1 = .ok (.iconst 0, 1) := by decide +kernel
theorem dL_read_2 : decode cL_read 2 = .ok (.aload_n 0, 1) := by decide +kernel
theorem dL_read_3 : decode cL_read 3 = .ok (.iload_n 1, 1) := by decide +kernel
theorem dL_read_4 : decode cL_read 4 = .ok (.iload_n 2, 1) := by decide +kernel
theorem dL_read_5 : decode cL_read 5 = .ok (.invokevirtual 21, 3) := by decide +kernel
theorem dL_read_8 : decode cL_read 8 = .ok (.ifCond .eq 7, 3) := by decide +kernel
theorem dL_read_11 : decode cL_read 11 = .ok (.lconst 1, 1) := by decide +kernel
theorem dL_read_12 : decode cL_read 12 = .ok (.goto 4, 3) := by decide +kernel
theorem dL_read_15 : decode cL_read 15 = .ok (.lconst 0, 1) := by decide +kernel
theorem dL_read_16 : decode cL_read 16 = .ok (.lastore, 1) := by decide +kernel
theorem dL_read_17 : decode cL_read 17 = .ok (.goto 7, 3) := by decide +kernel
theorem dL_read_20 : decode cL_read 20 = .ok (.astore 4, 2) := by decide +kernel
theorem dL_read_22 : decode cL_read 22 = .ok (.iconst 1, 1) := by decide +kernel
theorem dL_read_23 : decode cL_read 23 = .ok (.ireturn, 1) := by decide +kernel
theorem dL_read_24 : decode cL_read 24 = .ok (.iconst 0, 1) := by decide +kernel
theorem dL_read_25 : decode cL_read 25 = .ok (.ireturn, 1) := by decide +kernel
theorem dL_outs_0 : decode cL_outs 0 = .ok (.aload_n 2, 1) := by decide +kernel
theorem dL_outs_1 : decode cL_outs 1 = .ok (.iconst 0, 1) := by decide +kernel
theorem dL_outs_2 : decode cL_outs 2 = .ok (.aload_n 0, 1) := by decide +kernel
theorem dL_outs_3 : decode cL_outs 3 = .ok (.iload_n 1, 1) := by decide +kernel
theorem dL_outs_4 : decode cL_outs 4 = .ok (.invokevirtual 25, 3) := by decide +kernel
theorem dL_outs_7 : decode cL_outs 7 = .ok (.lastore, 1) := by decide +kernel
theorem dL_outs_8 : decode cL_outs 8 = .ok (.goto 6, 3) := by decide +kernel
theorem dL_outs_11 : decode cL_outs 11 = .ok (.astore_n 3, 1) := by decide +kernel
theorem dL_outs_12 : decode cL_outs 12 = .ok (.iconst 1, 1) := by decide +kernel
theorem dL_outs_13 : decode cL_outs 13 = .ok (.ireturn, 1) := by decide +kernel
theorem dL_outs_14 : decode cL_outs 14 = .ok (.iconst 0, 1) := by decide +kernel
theorem dL_outs_15 : decode cL_outs 15 = .ok (.ireturn, 1) := by decide +kernel
theorem dL_tag_0 : decode cL_tag 0 = .ok (.aload_n 3, 1) := by decide +kernel
theorem dL_tag_1 : decode cL_tag 1 = .ok (.iconst 0, 1) := by decide +kernel
theorem dL_tag_2 : decode cL_tag 2 = .ok (.aload_n 0, 1) := by decide +kernel
theorem dL_tag_3 : decode cL_tag 3 = .ok (.iload_n 1, 1) := by decide +kernel
theorem dL_tag_4 : decode cL_tag 4 = .ok (.iload_n 2, 1) := by decide +kernel
theorem dL_tag_5 : decode cL_tag 5 = .ok (.invokevirtual 31, 3) := by decide +kernel
theorem dL_tag_8 : decode cL_tag 8 = .ok (.i2l, 1) := by decide +kernel
theorem dL_tag_9 : decode cL_tag 9 = .ok (.lastore, 1) := by decide +kernel
theorem dL_tag_10 : decode cL_tag 10 = .ok (.goto 7, 3) := by decide +kernel
theorem dL_tag_13 : decode cL_tag 13 = .ok (.astore 4, 2) := by decide +kernel
theorem dL_tag_15 : decode cL_tag 15 = .ok (.iconst 1, 1) := by decide +kernel
theorem dL_tag_16 : decode cL_tag 16 = .ok (.ireturn, 1) := by decide +kernel
theorem dL_tag_17 : decode cL_tag 17 = .ok (.iconst 0, 1) := by decide +kernel
theorem dL_tag_18 : decode cL_tag 18 = .ok (.ireturn, 1) := by decide +kernel
theorem dL_cell_0 : decode cL_cell 0 = .ok (.aload_n 3, 1) := by decide +kernel
theorem dL_cell_1 : decode cL_cell 1 = .ok (.iconst 0, 1) := by decide +kernel
theorem dL_cell_2 : decode cL_cell 2 = .ok (.aload_n 0, 1) := by decide +kernel
theorem dL_cell_3 : decode cL_cell 3 = .ok (.iload_n 1, 1) := by decide +kernel
theorem dL_cell_4 : decode cL_cell 4 = .ok (.iload_n 2, 1) := by decide +kernel
theorem dL_cell_5 : decode cL_cell 5 = .ok (.invokevirtual 35, 3) := by decide +kernel
theorem dL_cell_8 : decode cL_cell 8 = .ok (.i2l, 1) := by decide +kernel
theorem dL_cell_9 : decode cL_cell 9 = .ok (.lastore, 1) := by decide +kernel
theorem dL_cell_10 : decode cL_cell 10 = .ok (.goto 7, 3) := by decide +kernel
theorem dL_cell_13 : decode cL_cell 13 = .ok (.astore 4, 2) := by decide +kernel
theorem dL_cell_15 : decode cL_cell 15 = .ok (.iconst 1, 1) := by decide +kernel
theorem dL_cell_16 : decode cL_cell 16 = .ok (.ireturn, 1) := by decide +kernel
theorem dL_cell_17 : decode cL_cell 17 = .ok (.iconst 0, 1) := by decide +kernel
theorem dL_cell_18 : decode cL_cell 18 = .ok (.ireturn, 1) := by decide +kernel
theorem dL_at_0 : decode cL_at 0 = .ok (.aload 4, 2) := by decide +kernel
theorem dL_at_2 : decode cL_at 2 = .ok (.iconst 0, 1) := by decide +kernel
theorem dL_at_3 : decode cL_at 3 = .ok (.aload_n 0, 1) := by decide +kernel
theorem dL_at_4 : decode cL_at 4 = .ok (.iload_n 1, 1) := by decide +kernel
theorem dL_at_5 : decode cL_at 5 = .ok (.iload_n 2, 1) := by decide +kernel
theorem dL_at_6 : decode cL_at 6 = .ok (.iload_n 3, 1) := by decide +kernel
theorem dL_at_7 : decode cL_at 7 = .ok (.invokevirtual 38, 3) := by decide +kernel
theorem dL_at_10 : decode cL_at 10 = .ok (.i2l, 1) := by decide +kernel
theorem dL_at_11 : decode cL_at 11 = .ok (.lastore, 1) := by decide +kernel
theorem dL_at_12 : decode cL_at 12 = .ok (.goto 11, 3) := by decide +kernel
theorem dL_at_15 : decode cL_at 15 = .ok (.astore 5, 2) := by decide +kernel
theorem dL_at_17 : decode cL_at 17 = .ok (.iconst 1, 1) := by decide +kernel
theorem dL_at_18 : decode cL_at 18 = .ok (.ireturn, 1) := by decide +kernel
theorem dL_at_19 : decode cL_at 19 = .ok (.astore 5, 2) := by decide +kernel
theorem dL_at_21 : decode cL_at 21 = .ok (.iconst 2, 1) := by decide +kernel
theorem dL_at_22 : decode cL_at 22 = .ok (.ireturn, 1) := by decide +kernel
theorem dL_at_23 : decode cL_at 23 = .ok (.iconst 0, 1) := by decide +kernel
theorem dL_at_24 : decode cL_at 24 = .ok (.ireturn, 1) := by decide +kernel
theorem dL_fail_0 : decode cL_fail 0 = .ok (.aload_n 2, 1) := by decide +kernel
theorem dL_fail_1 : decode cL_fail 1 = .ok (.iconst 0, 1) := by decide +kernel
theorem dL_fail_2 : decode cL_fail 2 = .ok (.aload_n 0, 1) := by decide +kernel
theorem dL_fail_3 : decode cL_fail 3 = .ok (.iload_n 1, 1) := by decide +kernel
theorem dL_fail_4 : decode cL_fail 4 = .ok (.invokevirtual 42, 3) := by decide +kernel
theorem dL_fail_7 : decode cL_fail 7 = .ok (.ifCond .eq 7, 3) := by decide +kernel
theorem dL_fail_10 : decode cL_fail 10 = .ok (.lconst 1, 1) := by decide +kernel
theorem dL_fail_11 : decode cL_fail 11 = .ok (.goto 4, 3) := by decide +kernel
theorem dL_fail_14 : decode cL_fail 14 = .ok (.lconst 0, 1) := by decide +kernel
theorem dL_fail_15 : decode cL_fail 15 = .ok (.lastore, 1) := by decide +kernel
theorem dL_fail_16 : decode cL_fail 16 = .ok (.goto 6, 3) := by decide +kernel
theorem dL_fail_19 : decode cL_fail 19 = .ok (.astore_n 3, 1) := by decide +kernel
theorem dL_fail_20 : decode cL_fail 20 = .ok (.iconst 1, 1) := by decide +kernel
theorem dL_fail_21 : decode cL_fail 21 = .ok (.ireturn, 1) := by decide +kernel
theorem dL_fail_22 : decode cL_fail 22 = .ok (.iconst 0, 1) := by decide +kernel
theorem dL_fail_23 : decode cL_fail 23 = .ok (.ireturn, 1) := by decide +kernel
theorem dL_replace_0 : decode cL_replace 0 = .ok (.aload_n 2, 1) := by decide +kernel
theorem dL_replace_1 : decode cL_replace 1 = .ok (.iconst 0, 1) := by decide +kernel
theorem dL_replace_2 : decode cL_replace 2 = .ok (.aload_n 0, 1) := by decide +kernel
theorem dL_replace_3 : decode cL_replace 3 = .ok (.iload_n 1, 1) := by decide +kernel
theorem dL_replace_4 : decode cL_replace 4 = .ok (.invokevirtual 46, 3) := by decide +kernel
theorem dL_replace_7 : decode cL_replace 7 = .ok (.ifCond .eq 7, 3) := by decide +kernel
theorem dL_replace_10 : decode cL_replace 10 = .ok (.lconst 1, 1) := by decide +kernel
theorem dL_replace_11 : decode cL_replace 11 = .ok (.goto 4, 3) := by decide +kernel
theorem dL_replace_14 : decode cL_replace 14 = .ok (.lconst 0, 1) := by decide +kernel
theorem dL_replace_15 : decode cL_replace 15 = .ok (.lastore, 1) := by decide +kernel
theorem dL_replace_16 : decode cL_replace 16 = .ok (.goto 6, 3) := by decide +kernel
theorem dL_replace_19 : decode cL_replace 19 = .ok (.astore_n 3, 1) := by decide +kernel
theorem dL_replace_20 : decode cL_replace 20 = .ok (.iconst 1, 1) := by decide +kernel
theorem dL_replace_21 : decode cL_replace 21 = .ok (.ireturn, 1) := by decide +kernel
theorem dL_replace_22 : decode cL_replace 22 = .ok (.iconst 0, 1) := by decide +kernel
theorem dL_replace_23 : decode cL_replace 23 = .ok (.ireturn, 1) := by decide +kernel
theorem dL_corrupt_0 : decode cL_corrupt 0 = .ok (.aload 7, 2) := by decide +kernel
theorem dL_corrupt_2 : decode cL_corrupt 2 = .ok (.iconst 0, 1) := by decide +kernel
theorem dL_corrupt_3 : decode cL_corrupt 3 = .ok (.aload_n 0, 1) := by decide +kernel
theorem dL_corrupt_4 : decode cL_corrupt 4 = .ok (.iload_n 1, 1) := by decide +kernel
theorem dL_corrupt_5 : decode cL_corrupt 5 = .ok (.iload_n 2, 1) := by decide +kernel
theorem dL_corrupt_6 : decode cL_corrupt 6 = .ok (.iload_n 3, 1) := by decide +kernel
theorem dL_corrupt_7 : decode cL_corrupt 7 = .ok (.lload 4, 2) := by decide +kernel
theorem dL_corrupt_9 : decode cL_corrupt 9 = .ok (.iload 6, 2) := by decide +kernel
theorem dL_corrupt_11 : decode cL_corrupt 11 = .ok (.invokevirtual 49, 3) := by decide +kernel
theorem dL_corrupt_14 : decode cL_corrupt 14 = .ok (.ifCond .eq 7, 3) := by decide +kernel
theorem dL_corrupt_17 : decode cL_corrupt 17 = .ok (.lconst 1, 1) := by decide +kernel
theorem dL_corrupt_18 : decode cL_corrupt 18 = .ok (.goto 4, 3) := by decide +kernel
theorem dL_corrupt_21 : decode cL_corrupt 21 = .ok (.lconst 0, 1) := by decide +kernel
theorem dL_corrupt_22 : decode cL_corrupt 22 = .ok (.lastore, 1) := by decide +kernel
theorem dL_corrupt_23 : decode cL_corrupt 23 = .ok (.goto 7, 3) := by decide +kernel
theorem dL_corrupt_26 : decode cL_corrupt 26 = .ok (.astore 8, 2) := by decide +kernel
theorem dL_corrupt_28 : decode cL_corrupt 28 = .ok (.iconst 1, 1) := by decide +kernel
theorem dL_corrupt_29 : decode cL_corrupt 29 = .ok (.ireturn, 1) := by decide +kernel
theorem dL_corrupt_30 : decode cL_corrupt 30 = .ok (.iconst 0, 1) := by decide +kernel
theorem dL_corrupt_31 : decode cL_corrupt 31 = .ok (.ireturn, 1) := by decide +kernel
theorem dL_lose_0 : decode cL_lose 0 = .ok (.aload_n 0, 1) := by decide +kernel
theorem dL_lose_1 : decode cL_lose 1 = .ok (.iload_n 1, 1) := by decide +kernel
theorem dL_lose_2 : decode cL_lose 2 = .ok (.invokevirtual 53, 3) := by decide +kernel
theorem dL_lose_5 : decode cL_lose 5 = .ok (.goto 9, 3) := by decide +kernel
theorem dL_lose_8 : decode cL_lose 8 = .ok (.astore_n 2, 1) := by decide +kernel
theorem dL_lose_9 : decode cL_lose 9 = .ok (.iconst 1, 1) := by decide +kernel
theorem dL_lose_10 : decode cL_lose 10 = .ok (.ireturn, 1) := by decide +kernel
theorem dL_lose_11 : decode cL_lose 11 = .ok (.astore_n 2, 1) := by decide +kernel
theorem dL_lose_12 : decode cL_lose 12 = .ok (.iconst 2, 1) := by decide +kernel
theorem dL_lose_13 : decode cL_lose 13 = .ok (.ireturn, 1) := by decide +kernel
theorem dL_lose_14 : decode cL_lose 14 = .ok (.iconst 0, 1) := by decide +kernel
theorem dL_lose_15 : decode cL_lose 15 = .ok (.ireturn, 1) := by decide +kernel
theorem dL_look_0 : decode cL_look 0 = .ok (.aload_n 2, 1) := by decide +kernel
theorem dL_look_1 : decode cL_look 1 = .ok (.iconst 0, 1) := by decide +kernel
theorem dL_look_2 : decode cL_look 2 = .ok (.aload_n 0, 1) := by decide +kernel
theorem dL_look_3 : decode cL_look 3 = .ok (.iload_n 1, 1) := by decide +kernel
theorem dL_look_4 : decode cL_look 4 = .ok (.invokevirtual 57, 3) := by decide +kernel
theorem dL_look_7 : decode cL_look 7 = .ok (.lastore, 1) := by decide +kernel
theorem dL_look_8 : decode cL_look 8 = .ok (.goto 6, 3) := by decide +kernel
theorem dL_look_11 : decode cL_look 11 = .ok (.astore_n 3, 1) := by decide +kernel
theorem dL_look_12 : decode cL_look 12 = .ok (.iconst 1, 1) := by decide +kernel
theorem dL_look_13 : decode cL_look 13 = .ok (.ireturn, 1) := by decide +kernel
theorem dL_look_14 : decode cL_look 14 = .ok (.iconst 0, 1) := by decide +kernel
theorem dL_look_15 : decode cL_look 15 = .ok (.ireturn, 1) := by decide +kernel
end
section
theorem dL_law_0 : decode cL_law 0 = .ok (.new 8, 3) := by decide +kernel
theorem dL_law_3 : decode cL_law 3 = .ok (.dup, 1) := by decide +kernel
theorem dL_law_4 : decode cL_law 4 = .ok (.invokespecial 60, 3) := by decide +kernel
theorem dL_law_7 : decode cL_law 7 = .ok (.astore_n 1, 1) := by decide +kernel
theorem dL_law_8 : decode cL_law 8 = .ok (.new 61, 3) := by decide +kernel
theorem dL_law_11 : decode cL_law 11 = .ok (.dup, 1) := by decide +kernel
theorem dL_law_12 : decode cL_law 12 = .ok (.invokespecial 63, 3) := by decide +kernel
theorem dL_law_15 : decode cL_law 15 = .ok (.astore_n 2, 1) := by decide +kernel
theorem dL_law_16 : decode cL_law 16 = .ok (.iconst 1, 1) := by decide +kernel
theorem dL_law_17 : decode cL_law 17 = .ok (.newarray .long, 2) := by decide +kernel
theorem dL_law_19 : decode cL_law 19 = .ok (.astore_n 3, 1) := by decide +kernel
theorem dL_law_20 : decode cL_law 20 = .ok (.iconst 0, 1) := by decide +kernel
theorem dL_law_21 : decode cL_law 21 = .ok (.istore 4, 2) := by decide +kernel
theorem dL_law_23 : decode cL_law 23 = .ok (.iload 4, 2) := by decide +kernel
theorem dL_law_25 : decode cL_law 25 = .ok (.aload_n 0, 1) := by decide +kernel
theorem dL_law_26 : decode cL_law 26 = .ok (.arraylength, 1) := by decide +kernel
theorem dL_law_27 : decode cL_law 27 = .ok (.bipush 7, 2) := by decide +kernel
theorem dL_law_29 : decode cL_law 29 = .ok (.isub, 1) := by decide +kernel
theorem dL_law_30 : decode cL_law 30 = .ok (.if_icmp .gt 992, 3) := by decide +kernel
theorem dL_law_33 : decode cL_law 33 = .ok (.aload_n 0, 1) := by decide +kernel
theorem dL_law_34 : decode cL_law 34 = .ok (.iload 4, 2) := by decide +kernel
theorem dL_law_36 : decode cL_law 36 = .ok (.iaload, 1) := by decide +kernel
theorem dL_law_37 : decode cL_law 37 = .ok (.bipush 15, 2) := by decide +kernel
theorem dL_law_39 : decode cL_law 39 = .ok (.iand, 1) := by decide +kernel
theorem dL_law_40 : decode cL_law 40 = .ok (.tableswitch 976 0 12 #[68, 168, 255, 330, 385, 453, 521, 601, 664, 727, 872, 908, 921], 68) := by decide +kernel
theorem dL_law_108 : decode cL_law 108 = .ok (.aload_n 1, 1) := by decide +kernel
theorem dL_law_109 : decode cL_law 109 = .ok (.aload_n 0, 1) := by decide +kernel
theorem dL_law_110 : decode cL_law 110 = .ok (.iload 4, 2) := by decide +kernel
theorem dL_law_112 : decode cL_law 112 = .ok (.iconst 1, 1) := by decide +kernel
theorem dL_law_113 : decode cL_law 113 = .ok (.iadd, 1) := by decide +kernel
theorem dL_law_114 : decode cL_law 114 = .ok (.iaload, 1) := by decide +kernel
theorem dL_law_115 : decode cL_law 115 = .ok (.aload_n 0, 1) := by decide +kernel
theorem dL_law_116 : decode cL_law 116 = .ok (.iload 4, 2) := by decide +kernel
theorem dL_law_118 : decode cL_law 118 = .ok (.iconst 2, 1) := by decide +kernel
theorem dL_law_119 : decode cL_law 119 = .ok (.iadd, 1) := by decide +kernel
theorem dL_law_120 : decode cL_law 120 = .ok (.iaload, 1) := by decide +kernel
theorem dL_law_121 : decode cL_law 121 = .ok (.i2l, 1) := by decide +kernel
theorem dL_law_122 : decode cL_law 122 = .ok (.bipush 32, 2) := by decide +kernel
theorem dL_law_124 : decode cL_law 124 = .ok (.lshl, 1) := by decide +kernel
theorem dL_law_125 : decode cL_law 125 = .ok (.aload_n 0, 1) := by decide +kernel
theorem dL_law_126 : decode cL_law 126 = .ok (.iload 4, 2) := by decide +kernel
theorem dL_law_128 : decode cL_law 128 = .ok (.iconst 3, 1) := by decide +kernel
theorem dL_law_129 : decode cL_law 129 = .ok (.iadd, 1) := by decide +kernel
theorem dL_law_130 : decode cL_law 130 = .ok (.iaload, 1) := by decide +kernel
theorem dL_law_131 : decode cL_law 131 = .ok (.i2l, 1) := by decide +kernel
theorem dL_law_132 : decode cL_law 132 = .ok (.ldc2_w 64, 3) := by decide +kernel
theorem dL_law_135 : decode cL_law 135 = .ok (.land, 1) := by decide +kernel
theorem dL_law_136 : decode cL_law 136 = .ok (.lor, 1) := by decide +kernel
theorem dL_law_137 : decode cL_law 137 = .ok (.aload_n 3, 1) := by decide +kernel
theorem dL_law_138 : decode cL_law 138 = .ok (.invokestatic 66, 3) := by decide +kernel
theorem dL_law_141 : decode cL_law 141 = .ok (.istore 5, 2) := by decide +kernel
theorem dL_law_143 : decode cL_law 143 = .ok (.aload_n 2, 1) := by decide +kernel
theorem dL_law_144 : decode cL_law 144 = .ok (.aload_n 0, 1) := by decide +kernel
theorem dL_law_145 : decode cL_law 145 = .ok (.iload 4, 2) := by decide +kernel
theorem dL_law_147 : decode cL_law 147 = .ok (.iconst 1, 1) := by decide +kernel
theorem dL_law_148 : decode cL_law 148 = .ok (.iadd, 1) := by decide +kernel
theorem dL_law_149 : decode cL_law 149 = .ok (.iaload, 1) := by decide +kernel
theorem dL_law_150 : decode cL_law 150 = .ok (.aload_n 0, 1) := by decide +kernel
theorem dL_law_151 : decode cL_law 151 = .ok (.iload 4, 2) := by decide +kernel
theorem dL_law_153 : decode cL_law 153 = .ok (.iconst 2, 1) := by decide +kernel
theorem dL_law_154 : decode cL_law 154 = .ok (.iadd, 1) := by decide +kernel
theorem dL_law_155 : decode cL_law 155 = .ok (.iaload, 1) := by decide +kernel
theorem dL_law_156 : decode cL_law 156 = .ok (.i2l, 1) := by decide +kernel
theorem dL_law_157 : decode cL_law 157 = .ok (.bipush 32, 2) := by decide +kernel
theorem dL_law_159 : decode cL_law 159 = .ok (.lshl, 1) := by decide +kernel
theorem dL_law_160 : decode cL_law 160 = .ok (.aload_n 0, 1) := by decide +kernel
theorem dL_law_161 : decode cL_law 161 = .ok (.iload 4, 2) := by decide +kernel
theorem dL_law_163 : decode cL_law 163 = .ok (.iconst 3, 1) := by decide +kernel
theorem dL_law_164 : decode cL_law 164 = .ok (.iadd, 1) := by decide +kernel
theorem dL_law_165 : decode cL_law 165 = .ok (.iaload, 1) := by decide +kernel
theorem dL_law_166 : decode cL_law 166 = .ok (.i2l, 1) := by decide +kernel
theorem dL_law_167 : decode cL_law 167 = .ok (.ldc2_w 64, 3) := by decide +kernel
theorem dL_law_170 : decode cL_law 170 = .ok (.land, 1) := by decide +kernel
theorem dL_law_171 : decode cL_law 171 = .ok (.lor, 1) := by decide +kernel
theorem dL_law_172 : decode cL_law 172 = .ok (.invokevirtual 71, 3) := by decide +kernel
theorem dL_law_175 : decode cL_law 175 = .ok (.istore 6, 2) := by decide +kernel
theorem dL_law_177 : decode cL_law 177 = .ok (.aload_n 2, 1) := by decide +kernel
theorem dL_law_178 : decode cL_law 178 = .ok (.invokevirtual 72, 3) := by decide +kernel
theorem dL_law_181 : decode cL_law 181 = .ok (.iload 5, 2) := by decide +kernel
theorem dL_law_183 : decode cL_law 183 = .ok (.if_icmp .eq 5, 3) := by decide +kernel
theorem dL_law_186 : decode cL_law 186 = .ok (.iconst 0, 1) := by decide +kernel
theorem dL_law_187 : decode cL_law 187 = .ok (.ireturn, 1) := by decide +kernel
theorem dL_law_188 : decode cL_law 188 = .ok (.iload 5, 2) := by decide +kernel
theorem dL_law_190 : decode cL_law 190 = .ok (.ifCond .ne 15, 3) := by decide +kernel
theorem dL_law_193 : decode cL_law 193 = .ok (.aload_n 3, 1) := by decide +kernel
theorem dL_law_194 : decode cL_law 194 = .ok (.iconst 0, 1) := by decide +kernel
theorem dL_law_195 : decode cL_law 195 = .ok (.laload, 1) := by decide +kernel
theorem dL_law_196 : decode cL_law 196 = .ok (.iload 6, 2) := by decide +kernel
theorem dL_law_198 : decode cL_law 198 = .ok (.i2l, 1) := by decide +kernel
theorem dL_law_199 : decode cL_law 199 = .ok (.lcmp, 1) := by decide +kernel
theorem dL_law_200 : decode cL_law 200 = .ok (.ifCond .eq 5, 3) := by decide +kernel
theorem dL_law_203 : decode cL_law 203 = .ok (.iconst 0, 1) := by decide +kernel
theorem dL_law_204 : decode cL_law 204 = .ok (.ireturn, 1) := by decide +kernel
theorem dL_law_205 : decode cL_law 205 = .ok (.goto 811, 3) := by decide +kernel
theorem dL_law_208 : decode cL_law 208 = .ok (.aload_n 1, 1) := by decide +kernel
theorem dL_law_209 : decode cL_law 209 = .ok (.aload_n 0, 1) := by decide +kernel
theorem dL_law_210 : decode cL_law 210 = .ok (.iload 4, 2) := by decide +kernel
theorem dL_law_212 : decode cL_law 212 = .ok (.iconst 1, 1) := by decide +kernel
theorem dL_law_213 : decode cL_law 213 = .ok (.iadd, 1) := by decide +kernel
theorem dL_law_214 : decode cL_law 214 = .ok (.iaload, 1) := by decide +kernel
theorem dL_law_215 : decode cL_law 215 = .ok (.aload_n 0, 1) := by decide +kernel
theorem dL_law_216 : decode cL_law 216 = .ok (.iload 4, 2) := by decide +kernel
theorem dL_law_218 : decode cL_law 218 = .ok (.iconst 2, 1) := by decide +kernel
theorem dL_law_219 : decode cL_law 219 = .ok (.iadd, 1) := by decide +kernel
theorem dL_law_220 : decode cL_law 220 = .ok (.iaload, 1) := by decide +kernel
theorem dL_law_221 : decode cL_law 221 = .ok (.aload_n 0, 1) := by decide +kernel
theorem dL_law_222 : decode cL_law 222 = .ok (.iload 4, 2) := by decide +kernel
theorem dL_law_224 : decode cL_law 224 = .ok (.iconst 3, 1) := by decide +kernel
theorem dL_law_225 : decode cL_law 225 = .ok (.iadd, 1) := by decide +kernel
theorem dL_law_226 : decode cL_law 226 = .ok (.iaload, 1) := by decide +kernel
theorem dL_law_227 : decode cL_law 227 = .ok (.aload_n 3, 1) := by decide +kernel
theorem dL_law_228 : decode cL_law 228 = .ok (.invokestatic 76, 3) := by decide +kernel
theorem dL_law_231 : decode cL_law 231 = .ok (.istore 5, 2) := by decide +kernel
theorem dL_law_233 : decode cL_law 233 = .ok (.aload_n 2, 1) := by decide +kernel
theorem dL_law_234 : decode cL_law 234 = .ok (.aload_n 0, 1) := by decide +kernel
theorem dL_law_235 : decode cL_law 235 = .ok (.iload 4, 2) := by decide +kernel
theorem dL_law_237 : decode cL_law 237 = .ok (.iconst 1, 1) := by decide +kernel
theorem dL_law_238 : decode cL_law 238 = .ok (.iadd, 1) := by decide +kernel
theorem dL_law_239 : decode cL_law 239 = .ok (.iaload, 1) := by decide +kernel
theorem dL_law_240 : decode cL_law 240 = .ok (.aload_n 0, 1) := by decide +kernel
theorem dL_law_241 : decode cL_law 241 = .ok (.iload 4, 2) := by decide +kernel
theorem dL_law_243 : decode cL_law 243 = .ok (.iconst 2, 1) := by decide +kernel
theorem dL_law_244 : decode cL_law 244 = .ok (.iadd, 1) := by decide +kernel
theorem dL_law_245 : decode cL_law 245 = .ok (.iaload, 1) := by decide +kernel
theorem dL_law_246 : decode cL_law 246 = .ok (.aload_n 0, 1) := by decide +kernel
theorem dL_law_247 : decode cL_law 247 = .ok (.iload 4, 2) := by decide +kernel
theorem dL_law_249 : decode cL_law 249 = .ok (.iconst 3, 1) := by decide +kernel
theorem dL_law_250 : decode cL_law 250 = .ok (.iadd, 1) := by decide +kernel
theorem dL_law_251 : decode cL_law 251 = .ok (.iaload, 1) := by decide +kernel
theorem dL_law_252 : decode cL_law 252 = .ok (.invokevirtual 79, 3) := by decide +kernel
theorem dL_law_255 : decode cL_law 255 = .ok (.istore 6, 2) := by decide +kernel
theorem dL_law_257 : decode cL_law 257 = .ok (.aload_n 2, 1) := by decide +kernel
theorem dL_law_258 : decode cL_law 258 = .ok (.invokevirtual 72, 3) := by decide +kernel
theorem dL_law_261 : decode cL_law 261 = .ok (.iload 5, 2) := by decide +kernel
theorem dL_law_263 : decode cL_law 263 = .ok (.if_icmp .eq 5, 3) := by decide +kernel
theorem dL_law_266 : decode cL_law 266 = .ok (.iconst 0, 1) := by decide +kernel
theorem dL_law_267 : decode cL_law 267 = .ok (.ireturn, 1) := by decide +kernel
theorem dL_law_268 : decode cL_law 268 = .ok (.iload 5, 2) := by decide +kernel
theorem dL_law_270 : decode cL_law 270 = .ok (.ifCond .ne 22, 3) := by decide +kernel
theorem dL_law_273 : decode cL_law 273 = .ok (.aload_n 3, 1) := by decide +kernel
theorem dL_law_274 : decode cL_law 274 = .ok (.iconst 0, 1) := by decide +kernel
theorem dL_law_275 : decode cL_law 275 = .ok (.laload, 1) := by decide +kernel
theorem dL_law_276 : decode cL_law 276 = .ok (.iload 6, 2) := by decide +kernel
theorem dL_law_278 : decode cL_law 278 = .ok (.ifCond .eq 7, 3) := by decide +kernel
theorem dL_law_281 : decode cL_law 281 = .ok (.lconst 1, 1) := by decide +kernel
theorem dL_law_282 : decode cL_law 282 = .ok (.goto 4, 3) := by decide +kernel
theorem dL_law_285 : decode cL_law 285 = .ok (.lconst 0, 1) := by decide +kernel
theorem dL_law_286 : decode cL_law 286 = .ok (.lcmp, 1) := by decide +kernel
theorem dL_law_287 : decode cL_law 287 = .ok (.ifCond .eq 5, 3) := by decide +kernel
theorem dL_law_290 : decode cL_law 290 = .ok (.iconst 0, 1) := by decide +kernel
theorem dL_law_291 : decode cL_law 291 = .ok (.ireturn, 1) := by decide +kernel
theorem dL_law_292 : decode cL_law 292 = .ok (.goto 724, 3) := by decide +kernel
theorem dL_law_295 : decode cL_law 295 = .ok (.aload_n 1, 1) := by decide +kernel
theorem dL_law_296 : decode cL_law 296 = .ok (.aload_n 0, 1) := by decide +kernel
theorem dL_law_297 : decode cL_law 297 = .ok (.iload 4, 2) := by decide +kernel
theorem dL_law_299 : decode cL_law 299 = .ok (.iconst 1, 1) := by decide +kernel
theorem dL_law_300 : decode cL_law 300 = .ok (.iadd, 1) := by decide +kernel
theorem dL_law_301 : decode cL_law 301 = .ok (.iaload, 1) := by decide +kernel
theorem dL_law_302 : decode cL_law 302 = .ok (.aload_n 0, 1) := by decide +kernel
theorem dL_law_303 : decode cL_law 303 = .ok (.iload 4, 2) := by decide +kernel
end
section
theorem dL_law_305 : decode cL_law 305 = .ok (.iconst 2, 1) := by decide +kernel
theorem dL_law_306 : decode cL_law 306 = .ok (.iadd, 1) := by decide +kernel
theorem dL_law_307 : decode cL_law 307 = .ok (.iaload, 1) := by decide +kernel
theorem dL_law_308 : decode cL_law 308 = .ok (.aload_n 3, 1) := by decide +kernel
theorem dL_law_309 : decode cL_law 309 = .ok (.invokestatic 80, 3) := by decide +kernel
theorem dL_law_312 : decode cL_law 312 = .ok (.istore 5, 2) := by decide +kernel
theorem dL_law_314 : decode cL_law 314 = .ok (.aload_n 2, 1) := by decide +kernel
theorem dL_law_315 : decode cL_law 315 = .ok (.aload_n 0, 1) := by decide +kernel
theorem dL_law_316 : decode cL_law 316 = .ok (.iload 4, 2) := by decide +kernel
theorem dL_law_318 : decode cL_law 318 = .ok (.iconst 1, 1) := by decide +kernel
theorem dL_law_319 : decode cL_law 319 = .ok (.iadd, 1) := by decide +kernel
theorem dL_law_320 : decode cL_law 320 = .ok (.iaload, 1) := by decide +kernel
theorem dL_law_321 : decode cL_law 321 = .ok (.aload_n 0, 1) := by decide +kernel
theorem dL_law_322 : decode cL_law 322 = .ok (.iload 4, 2) := by decide +kernel
theorem dL_law_324 : decode cL_law 324 = .ok (.iconst 2, 1) := by decide +kernel
theorem dL_law_325 : decode cL_law 325 = .ok (.iadd, 1) := by decide +kernel
theorem dL_law_326 : decode cL_law 326 = .ok (.iaload, 1) := by decide +kernel
theorem dL_law_327 : decode cL_law 327 = .ok (.invokevirtual 83, 3) := by decide +kernel
theorem dL_law_330 : decode cL_law 330 = .ok (.istore 6, 2) := by decide +kernel
theorem dL_law_332 : decode cL_law 332 = .ok (.aload_n 2, 1) := by decide +kernel
theorem dL_law_333 : decode cL_law 333 = .ok (.invokevirtual 72, 3) := by decide +kernel
theorem dL_law_336 : decode cL_law 336 = .ok (.iload 5, 2) := by decide +kernel
theorem dL_law_338 : decode cL_law 338 = .ok (.if_icmp .eq 5, 3) := by decide +kernel
theorem dL_law_341 : decode cL_law 341 = .ok (.iconst 0, 1) := by decide +kernel
theorem dL_law_342 : decode cL_law 342 = .ok (.ireturn, 1) := by decide +kernel
theorem dL_law_343 : decode cL_law 343 = .ok (.iload 5, 2) := by decide +kernel
theorem dL_law_345 : decode cL_law 345 = .ok (.ifCond .ne 22, 3) := by decide +kernel
theorem dL_law_348 : decode cL_law 348 = .ok (.aload_n 3, 1) := by decide +kernel
theorem dL_law_349 : decode cL_law 349 = .ok (.iconst 0, 1) := by decide +kernel
theorem dL_law_350 : decode cL_law 350 = .ok (.laload, 1) := by decide +kernel
theorem dL_law_351 : decode cL_law 351 = .ok (.iload 6, 2) := by decide +kernel
theorem dL_law_353 : decode cL_law 353 = .ok (.ifCond .eq 7, 3) := by decide +kernel
theorem dL_law_356 : decode cL_law 356 = .ok (.lconst 1, 1) := by decide +kernel
theorem dL_law_357 : decode cL_law 357 = .ok (.goto 4, 3) := by decide +kernel
theorem dL_law_360 : decode cL_law 360 = .ok (.lconst 0, 1) := by decide +kernel
theorem dL_law_361 : decode cL_law 361 = .ok (.lcmp, 1) := by decide +kernel
theorem dL_law_362 : decode cL_law 362 = .ok (.ifCond .eq 5, 3) := by decide +kernel
theorem dL_law_365 : decode cL_law 365 = .ok (.iconst 0, 1) := by decide +kernel
theorem dL_law_366 : decode cL_law 366 = .ok (.ireturn, 1) := by decide +kernel
theorem dL_law_367 : decode cL_law 367 = .ok (.goto 649, 3) := by decide +kernel
theorem dL_law_370 : decode cL_law 370 = .ok (.aload_n 1, 1) := by decide +kernel
theorem dL_law_371 : decode cL_law 371 = .ok (.aload_n 0, 1) := by decide +kernel
theorem dL_law_372 : decode cL_law 372 = .ok (.iload 4, 2) := by decide +kernel
theorem dL_law_374 : decode cL_law 374 = .ok (.iconst 1, 1) := by decide +kernel
theorem dL_law_375 : decode cL_law 375 = .ok (.iadd, 1) := by decide +kernel
theorem dL_law_376 : decode cL_law 376 = .ok (.iaload, 1) := by decide +kernel
theorem dL_law_377 : decode cL_law 377 = .ok (.aload_n 3, 1) := by decide +kernel
theorem dL_law_378 : decode cL_law 378 = .ok (.invokestatic 84, 3) := by decide +kernel
theorem dL_law_381 : decode cL_law 381 = .ok (.istore 5, 2) := by decide +kernel
theorem dL_law_383 : decode cL_law 383 = .ok (.aload_n 2, 1) := by decide +kernel
theorem dL_law_384 : decode cL_law 384 = .ok (.aload_n 0, 1) := by decide +kernel
theorem dL_law_385 : decode cL_law 385 = .ok (.iload 4, 2) := by decide +kernel
theorem dL_law_387 : decode cL_law 387 = .ok (.iconst 1, 1) := by decide +kernel
theorem dL_law_388 : decode cL_law 388 = .ok (.iadd, 1) := by decide +kernel
theorem dL_law_389 : decode cL_law 389 = .ok (.iaload, 1) := by decide +kernel
theorem dL_law_390 : decode cL_law 390 = .ok (.invokevirtual 87, 3) := by decide +kernel
theorem dL_law_393 : decode cL_law 393 = .ok (.lstore 6, 2) := by decide +kernel
theorem dL_law_395 : decode cL_law 395 = .ok (.aload_n 2, 1) := by decide +kernel
theorem dL_law_396 : decode cL_law 396 = .ok (.invokevirtual 72, 3) := by decide +kernel
theorem dL_law_399 : decode cL_law 399 = .ok (.iload 5, 2) := by decide +kernel
theorem dL_law_401 : decode cL_law 401 = .ok (.if_icmp .eq 5, 3) := by decide +kernel
theorem dL_law_404 : decode cL_law 404 = .ok (.iconst 0, 1) := by decide +kernel
theorem dL_law_405 : decode cL_law 405 = .ok (.ireturn, 1) := by decide +kernel
theorem dL_law_406 : decode cL_law 406 = .ok (.iload 5, 2) := by decide +kernel
theorem dL_law_408 : decode cL_law 408 = .ok (.ifCond .ne 14, 3) := by decide +kernel
theorem dL_law_411 : decode cL_law 411 = .ok (.aload_n 3, 1) := by decide +kernel
theorem dL_law_412 : decode cL_law 412 = .ok (.iconst 0, 1) := by decide +kernel
theorem dL_law_413 : decode cL_law 413 = .ok (.laload, 1) := by decide +kernel
theorem dL_law_414 : decode cL_law 414 = .ok (.lload 6, 2) := by decide +kernel
theorem dL_law_416 : decode cL_law 416 = .ok (.lcmp, 1) := by decide +kernel
theorem dL_law_417 : decode cL_law 417 = .ok (.ifCond .eq 5, 3) := by decide +kernel
theorem dL_law_420 : decode cL_law 420 = .ok (.iconst 0, 1) := by decide +kernel
theorem dL_law_421 : decode cL_law 421 = .ok (.ireturn, 1) := by decide +kernel
theorem dL_law_422 : decode cL_law 422 = .ok (.goto 594, 3) := by decide +kernel
theorem dL_law_425 : decode cL_law 425 = .ok (.aload_n 1, 1) := by decide +kernel
theorem dL_law_426 : decode cL_law 426 = .ok (.aload_n 0, 1) := by decide +kernel
theorem dL_law_427 : decode cL_law 427 = .ok (.iload 4, 2) := by decide +kernel
theorem dL_law_429 : decode cL_law 429 = .ok (.iconst 1, 1) := by decide +kernel
theorem dL_law_430 : decode cL_law 430 = .ok (.iadd, 1) := by decide +kernel
theorem dL_law_431 : decode cL_law 431 = .ok (.iaload, 1) := by decide +kernel
theorem dL_law_432 : decode cL_law 432 = .ok (.aload_n 0, 1) := by decide +kernel
theorem dL_law_433 : decode cL_law 433 = .ok (.iload 4, 2) := by decide +kernel
theorem dL_law_435 : decode cL_law 435 = .ok (.iconst 2, 1) := by decide +kernel
theorem dL_law_436 : decode cL_law 436 = .ok (.iadd, 1) := by decide +kernel
theorem dL_law_437 : decode cL_law 437 = .ok (.iaload, 1) := by decide +kernel
theorem dL_law_438 : decode cL_law 438 = .ok (.aload_n 3, 1) := by decide +kernel
theorem dL_law_439 : decode cL_law 439 = .ok (.invokestatic 88, 3) := by decide +kernel
theorem dL_law_442 : decode cL_law 442 = .ok (.istore 5, 2) := by decide +kernel
theorem dL_law_444 : decode cL_law 444 = .ok (.aload_n 2, 1) := by decide +kernel
theorem dL_law_445 : decode cL_law 445 = .ok (.aload_n 0, 1) := by decide +kernel
theorem dL_law_446 : decode cL_law 446 = .ok (.iload 4, 2) := by decide +kernel
theorem dL_law_448 : decode cL_law 448 = .ok (.iconst 1, 1) := by decide +kernel
theorem dL_law_449 : decode cL_law 449 = .ok (.iadd, 1) := by decide +kernel
theorem dL_law_450 : decode cL_law 450 = .ok (.iaload, 1) := by decide +kernel
theorem dL_law_451 : decode cL_law 451 = .ok (.aload_n 0, 1) := by decide +kernel
theorem dL_law_452 : decode cL_law 452 = .ok (.iload 4, 2) := by decide +kernel
theorem dL_law_454 : decode cL_law 454 = .ok (.iconst 2, 1) := by decide +kernel
theorem dL_law_455 : decode cL_law 455 = .ok (.iadd, 1) := by decide +kernel
theorem dL_law_456 : decode cL_law 456 = .ok (.iaload, 1) := by decide +kernel
theorem dL_law_457 : decode cL_law 457 = .ok (.invokevirtual 90, 3) := by decide +kernel
theorem dL_law_460 : decode cL_law 460 = .ok (.istore 6, 2) := by decide +kernel
theorem dL_law_462 : decode cL_law 462 = .ok (.aload_n 2, 1) := by decide +kernel
theorem dL_law_463 : decode cL_law 463 = .ok (.invokevirtual 72, 3) := by decide +kernel
theorem dL_law_466 : decode cL_law 466 = .ok (.iload 5, 2) := by decide +kernel
theorem dL_law_468 : decode cL_law 468 = .ok (.if_icmp .eq 5, 3) := by decide +kernel
theorem dL_law_471 : decode cL_law 471 = .ok (.iconst 0, 1) := by decide +kernel
theorem dL_law_472 : decode cL_law 472 = .ok (.ireturn, 1) := by decide +kernel
theorem dL_law_473 : decode cL_law 473 = .ok (.iload 5, 2) := by decide +kernel
theorem dL_law_475 : decode cL_law 475 = .ok (.ifCond .ne 15, 3) := by decide +kernel
theorem dL_law_478 : decode cL_law 478 = .ok (.aload_n 3, 1) := by decide +kernel
theorem dL_law_479 : decode cL_law 479 = .ok (.iconst 0, 1) := by decide +kernel
theorem dL_law_480 : decode cL_law 480 = .ok (.laload, 1) := by decide +kernel
theorem dL_law_481 : decode cL_law 481 = .ok (.iload 6, 2) := by decide +kernel
theorem dL_law_483 : decode cL_law 483 = .ok (.i2l, 1) := by decide +kernel
theorem dL_law_484 : decode cL_law 484 = .ok (.lcmp, 1) := by decide +kernel
theorem dL_law_485 : decode cL_law 485 = .ok (.ifCond .eq 5, 3) := by decide +kernel
theorem dL_law_488 : decode cL_law 488 = .ok (.iconst 0, 1) := by decide +kernel
theorem dL_law_489 : decode cL_law 489 = .ok (.ireturn, 1) := by decide +kernel
theorem dL_law_490 : decode cL_law 490 = .ok (.goto 526, 3) := by decide +kernel
theorem dL_law_493 : decode cL_law 493 = .ok (.aload_n 1, 1) := by decide +kernel
theorem dL_law_494 : decode cL_law 494 = .ok (.aload_n 0, 1) := by decide +kernel
theorem dL_law_495 : decode cL_law 495 = .ok (.iload 4, 2) := by decide +kernel
theorem dL_law_497 : decode cL_law 497 = .ok (.iconst 1, 1) := by decide +kernel
theorem dL_law_498 : decode cL_law 498 = .ok (.iadd, 1) := by decide +kernel
theorem dL_law_499 : decode cL_law 499 = .ok (.iaload, 1) := by decide +kernel
theorem dL_law_500 : decode cL_law 500 = .ok (.aload_n 0, 1) := by decide +kernel
theorem dL_law_501 : decode cL_law 501 = .ok (.iload 4, 2) := by decide +kernel
theorem dL_law_503 : decode cL_law 503 = .ok (.iconst 2, 1) := by decide +kernel
theorem dL_law_504 : decode cL_law 504 = .ok (.iadd, 1) := by decide +kernel
theorem dL_law_505 : decode cL_law 505 = .ok (.iaload, 1) := by decide +kernel
theorem dL_law_506 : decode cL_law 506 = .ok (.aload_n 3, 1) := by decide +kernel
theorem dL_law_507 : decode cL_law 507 = .ok (.invokestatic 91, 3) := by decide +kernel
theorem dL_law_510 : decode cL_law 510 = .ok (.istore 5, 2) := by decide +kernel
theorem dL_law_512 : decode cL_law 512 = .ok (.aload_n 2, 1) := by decide +kernel
theorem dL_law_513 : decode cL_law 513 = .ok (.aload_n 0, 1) := by decide +kernel
theorem dL_law_514 : decode cL_law 514 = .ok (.iload 4, 2) := by decide +kernel
theorem dL_law_516 : decode cL_law 516 = .ok (.iconst 1, 1) := by decide +kernel
theorem dL_law_517 : decode cL_law 517 = .ok (.iadd, 1) := by decide +kernel
theorem dL_law_518 : decode cL_law 518 = .ok (.iaload, 1) := by decide +kernel
theorem dL_law_519 : decode cL_law 519 = .ok (.aload_n 0, 1) := by decide +kernel
theorem dL_law_520 : decode cL_law 520 = .ok (.iload 4, 2) := by decide +kernel
theorem dL_law_522 : decode cL_law 522 = .ok (.iconst 2, 1) := by decide +kernel
theorem dL_law_523 : decode cL_law 523 = .ok (.iadd, 1) := by decide +kernel
theorem dL_law_524 : decode cL_law 524 = .ok (.iaload, 1) := by decide +kernel
theorem dL_law_525 : decode cL_law 525 = .ok (.invokevirtual 93, 3) := by decide +kernel
theorem dL_law_528 : decode cL_law 528 = .ok (.istore 6, 2) := by decide +kernel
theorem dL_law_530 : decode cL_law 530 = .ok (.aload_n 2, 1) := by decide +kernel
theorem dL_law_531 : decode cL_law 531 = .ok (.invokevirtual 72, 3) := by decide +kernel
theorem dL_law_534 : decode cL_law 534 = .ok (.iload 5, 2) := by decide +kernel
theorem dL_law_536 : decode cL_law 536 = .ok (.if_icmp .eq 5, 3) := by decide +kernel
theorem dL_law_539 : decode cL_law 539 = .ok (.iconst 0, 1) := by decide +kernel
theorem dL_law_540 : decode cL_law 540 = .ok (.ireturn, 1) := by decide +kernel
theorem dL_law_541 : decode cL_law 541 = .ok (.iload 5, 2) := by decide +kernel
theorem dL_law_543 : decode cL_law 543 = .ok (.ifCond .ne 15, 3) := by decide +kernel
theorem dL_law_546 : decode cL_law 546 = .ok (.aload_n 3, 1) := by decide +kernel
theorem dL_law_547 : decode cL_law 547 = .ok (.iconst 0, 1) := by decide +kernel
theorem dL_law_548 : decode cL_law 548 = .ok (.laload, 1) := by decide +kernel
theorem dL_law_549 : decode cL_law 549 = .ok (.iload 6, 2) := by decide +kernel
theorem dL_law_551 : decode cL_law 551 = .ok (.i2l, 1) := by decide +kernel
theorem dL_law_552 : decode cL_law 552 = .ok (.lcmp, 1) := by decide +kernel
end
section
theorem dL_law_553 : decode cL_law 553 = .ok (.ifCond .eq 5, 3) := by decide +kernel
theorem dL_law_556 : decode cL_law 556 = .ok (.iconst 0, 1) := by decide +kernel
theorem dL_law_557 : decode cL_law 557 = .ok (.ireturn, 1) := by decide +kernel
theorem dL_law_558 : decode cL_law 558 = .ok (.goto 458, 3) := by decide +kernel
theorem dL_law_561 : decode cL_law 561 = .ok (.aload_n 1, 1) := by decide +kernel
theorem dL_law_562 : decode cL_law 562 = .ok (.aload_n 0, 1) := by decide +kernel
theorem dL_law_563 : decode cL_law 563 = .ok (.iload 4, 2) := by decide +kernel
theorem dL_law_565 : decode cL_law 565 = .ok (.iconst 1, 1) := by decide +kernel
theorem dL_law_566 : decode cL_law 566 = .ok (.iadd, 1) := by decide +kernel
theorem dL_law_567 : decode cL_law 567 = .ok (.iaload, 1) := by decide +kernel
theorem dL_law_568 : decode cL_law 568 = .ok (.aload_n 0, 1) := by decide +kernel
theorem dL_law_569 : decode cL_law 569 = .ok (.iload 4, 2) := by decide +kernel
theorem dL_law_571 : decode cL_law 571 = .ok (.iconst 2, 1) := by decide +kernel
theorem dL_law_572 : decode cL_law 572 = .ok (.iadd, 1) := by decide +kernel
theorem dL_law_573 : decode cL_law 573 = .ok (.iaload, 1) := by decide +kernel
theorem dL_law_574 : decode cL_law 574 = .ok (.aload_n 0, 1) := by decide +kernel
theorem dL_law_575 : decode cL_law 575 = .ok (.iload 4, 2) := by decide +kernel
theorem dL_law_577 : decode cL_law 577 = .ok (.iconst 3, 1) := by decide +kernel
theorem dL_law_578 : decode cL_law 578 = .ok (.iadd, 1) := by decide +kernel
theorem dL_law_579 : decode cL_law 579 = .ok (.iaload, 1) := by decide +kernel
theorem dL_law_580 : decode cL_law 580 = .ok (.aload_n 3, 1) := by decide +kernel
theorem dL_law_581 : decode cL_law 581 = .ok (.invokestatic 94, 3) := by decide +kernel
theorem dL_law_584 : decode cL_law 584 = .ok (.istore 5, 2) := by decide +kernel
theorem dL_law_586 : decode cL_law 586 = .ok (.aload_n 2, 1) := by decide +kernel
theorem dL_law_587 : decode cL_law 587 = .ok (.aload_n 0, 1) := by decide +kernel
theorem dL_law_588 : decode cL_law 588 = .ok (.iload 4, 2) := by decide +kernel
theorem dL_law_590 : decode cL_law 590 = .ok (.iconst 1, 1) := by decide +kernel
theorem dL_law_591 : decode cL_law 591 = .ok (.iadd, 1) := by decide +kernel
theorem dL_law_592 : decode cL_law 592 = .ok (.iaload, 1) := by decide +kernel
theorem dL_law_593 : decode cL_law 593 = .ok (.aload_n 0, 1) := by decide +kernel
theorem dL_law_594 : decode cL_law 594 = .ok (.iload 4, 2) := by decide +kernel
theorem dL_law_596 : decode cL_law 596 = .ok (.iconst 2, 1) := by decide +kernel
theorem dL_law_597 : decode cL_law 597 = .ok (.iadd, 1) := by decide +kernel
theorem dL_law_598 : decode cL_law 598 = .ok (.iaload, 1) := by decide +kernel
theorem dL_law_599 : decode cL_law 599 = .ok (.aload_n 0, 1) := by decide +kernel
theorem dL_law_600 : decode cL_law 600 = .ok (.iload 4, 2) := by decide +kernel
theorem dL_law_602 : decode cL_law 602 = .ok (.iconst 3, 1) := by decide +kernel
theorem dL_law_603 : decode cL_law 603 = .ok (.iadd, 1) := by decide +kernel
theorem dL_law_604 : decode cL_law 604 = .ok (.iaload, 1) := by decide +kernel
theorem dL_law_605 : decode cL_law 605 = .ok (.invokevirtual 96, 3) := by decide +kernel
theorem dL_law_608 : decode cL_law 608 = .ok (.istore 6, 2) := by decide +kernel
theorem dL_law_610 : decode cL_law 610 = .ok (.aload_n 2, 1) := by decide +kernel
theorem dL_law_611 : decode cL_law 611 = .ok (.invokevirtual 72, 3) := by decide +kernel
theorem dL_law_614 : decode cL_law 614 = .ok (.iload 5, 2) := by decide +kernel
theorem dL_law_616 : decode cL_law 616 = .ok (.if_icmp .eq 5, 3) := by decide +kernel
theorem dL_law_619 : decode cL_law 619 = .ok (.iconst 0, 1) := by decide +kernel
theorem dL_law_620 : decode cL_law 620 = .ok (.ireturn, 1) := by decide +kernel
theorem dL_law_621 : decode cL_law 621 = .ok (.iload 5, 2) := by decide +kernel
theorem dL_law_623 : decode cL_law 623 = .ok (.ifCond .ne 15, 3) := by decide +kernel
theorem dL_law_626 : decode cL_law 626 = .ok (.aload_n 3, 1) := by decide +kernel
theorem dL_law_627 : decode cL_law 627 = .ok (.iconst 0, 1) := by decide +kernel
theorem dL_law_628 : decode cL_law 628 = .ok (.laload, 1) := by decide +kernel
theorem dL_law_629 : decode cL_law 629 = .ok (.iload 6, 2) := by decide +kernel
theorem dL_law_631 : decode cL_law 631 = .ok (.i2l, 1) := by decide +kernel
theorem dL_law_632 : decode cL_law 632 = .ok (.lcmp, 1) := by decide +kernel
theorem dL_law_633 : decode cL_law 633 = .ok (.ifCond .eq 5, 3) := by decide +kernel
theorem dL_law_636 : decode cL_law 636 = .ok (.iconst 0, 1) := by decide +kernel
theorem dL_law_637 : decode cL_law 637 = .ok (.ireturn, 1) := by decide +kernel
theorem dL_law_638 : decode cL_law 638 = .ok (.goto 378, 3) := by decide +kernel
theorem dL_law_641 : decode cL_law 641 = .ok (.aload_n 1, 1) := by decide +kernel
theorem dL_law_642 : decode cL_law 642 = .ok (.aload_n 0, 1) := by decide +kernel
theorem dL_law_643 : decode cL_law 643 = .ok (.iload 4, 2) := by decide +kernel
theorem dL_law_645 : decode cL_law 645 = .ok (.iconst 1, 1) := by decide +kernel
theorem dL_law_646 : decode cL_law 646 = .ok (.iadd, 1) := by decide +kernel
theorem dL_law_647 : decode cL_law 647 = .ok (.iaload, 1) := by decide +kernel
theorem dL_law_648 : decode cL_law 648 = .ok (.aload_n 3, 1) := by decide +kernel
theorem dL_law_649 : decode cL_law 649 = .ok (.invokestatic 97, 3) := by decide +kernel
theorem dL_law_652 : decode cL_law 652 = .ok (.istore 5, 2) := by decide +kernel
theorem dL_law_654 : decode cL_law 654 = .ok (.aload_n 2, 1) := by decide +kernel
theorem dL_law_655 : decode cL_law 655 = .ok (.aload_n 0, 1) := by decide +kernel
theorem dL_law_656 : decode cL_law 656 = .ok (.iload 4, 2) := by decide +kernel
theorem dL_law_658 : decode cL_law 658 = .ok (.iconst 1, 1) := by decide +kernel
theorem dL_law_659 : decode cL_law 659 = .ok (.iadd, 1) := by decide +kernel
theorem dL_law_660 : decode cL_law 660 = .ok (.iaload, 1) := by decide +kernel
theorem dL_law_661 : decode cL_law 661 = .ok (.invokevirtual 99, 3) := by decide +kernel
theorem dL_law_664 : decode cL_law 664 = .ok (.istore 6, 2) := by decide +kernel
theorem dL_law_666 : decode cL_law 666 = .ok (.aload_n 2, 1) := by decide +kernel
theorem dL_law_667 : decode cL_law 667 = .ok (.invokevirtual 72, 3) := by decide +kernel
theorem dL_law_670 : decode cL_law 670 = .ok (.iload 5, 2) := by decide +kernel
theorem dL_law_672 : decode cL_law 672 = .ok (.if_icmp .eq 5, 3) := by decide +kernel
theorem dL_law_675 : decode cL_law 675 = .ok (.iconst 0, 1) := by decide +kernel
theorem dL_law_676 : decode cL_law 676 = .ok (.ireturn, 1) := by decide +kernel
theorem dL_law_677 : decode cL_law 677 = .ok (.iload 5, 2) := by decide +kernel
theorem dL_law_679 : decode cL_law 679 = .ok (.ifCond .ne 22, 3) := by decide +kernel
theorem dL_law_682 : decode cL_law 682 = .ok (.aload_n 3, 1) := by decide +kernel
theorem dL_law_683 : decode cL_law 683 = .ok (.iconst 0, 1) := by decide +kernel
theorem dL_law_684 : decode cL_law 684 = .ok (.laload, 1) := by decide +kernel
theorem dL_law_685 : decode cL_law 685 = .ok (.iload 6, 2) := by decide +kernel
theorem dL_law_687 : decode cL_law 687 = .ok (.ifCond .eq 7, 3) := by decide +kernel
theorem dL_law_690 : decode cL_law 690 = .ok (.lconst 1, 1) := by decide +kernel
theorem dL_law_691 : decode cL_law 691 = .ok (.goto 4, 3) := by decide +kernel
theorem dL_law_694 : decode cL_law 694 = .ok (.lconst 0, 1) := by decide +kernel
theorem dL_law_695 : decode cL_law 695 = .ok (.lcmp, 1) := by decide +kernel
theorem dL_law_696 : decode cL_law 696 = .ok (.ifCond .eq 5, 3) := by decide +kernel
theorem dL_law_699 : decode cL_law 699 = .ok (.iconst 0, 1) := by decide +kernel
theorem dL_law_700 : decode cL_law 700 = .ok (.ireturn, 1) := by decide +kernel
theorem dL_law_701 : decode cL_law 701 = .ok (.goto 315, 3) := by decide +kernel
theorem dL_law_704 : decode cL_law 704 = .ok (.aload_n 1, 1) := by decide +kernel
theorem dL_law_705 : decode cL_law 705 = .ok (.aload_n 0, 1) := by decide +kernel
theorem dL_law_706 : decode cL_law 706 = .ok (.iload 4, 2) := by decide +kernel
theorem dL_law_708 : decode cL_law 708 = .ok (.iconst 1, 1) := by decide +kernel
theorem dL_law_709 : decode cL_law 709 = .ok (.iadd, 1) := by decide +kernel
theorem dL_law_710 : decode cL_law 710 = .ok (.iaload, 1) := by decide +kernel
theorem dL_law_711 : decode cL_law 711 = .ok (.aload_n 3, 1) := by decide +kernel
theorem dL_law_712 : decode cL_law 712 = .ok (.invokestatic 100, 3) := by decide +kernel
theorem dL_law_715 : decode cL_law 715 = .ok (.istore 5, 2) := by decide +kernel
theorem dL_law_717 : decode cL_law 717 = .ok (.aload_n 2, 1) := by decide +kernel
theorem dL_law_718 : decode cL_law 718 = .ok (.aload_n 0, 1) := by decide +kernel
theorem dL_law_719 : decode cL_law 719 = .ok (.iload 4, 2) := by decide +kernel
theorem dL_law_721 : decode cL_law 721 = .ok (.iconst 1, 1) := by decide +kernel
theorem dL_law_722 : decode cL_law 722 = .ok (.iadd, 1) := by decide +kernel
theorem dL_law_723 : decode cL_law 723 = .ok (.iaload, 1) := by decide +kernel
theorem dL_law_724 : decode cL_law 724 = .ok (.invokevirtual 102, 3) := by decide +kernel
theorem dL_law_727 : decode cL_law 727 = .ok (.istore 6, 2) := by decide +kernel
theorem dL_law_729 : decode cL_law 729 = .ok (.aload_n 2, 1) := by decide +kernel
theorem dL_law_730 : decode cL_law 730 = .ok (.invokevirtual 72, 3) := by decide +kernel
theorem dL_law_733 : decode cL_law 733 = .ok (.iload 5, 2) := by decide +kernel
theorem dL_law_735 : decode cL_law 735 = .ok (.if_icmp .eq 5, 3) := by decide +kernel
theorem dL_law_738 : decode cL_law 738 = .ok (.iconst 0, 1) := by decide +kernel
theorem dL_law_739 : decode cL_law 739 = .ok (.ireturn, 1) := by decide +kernel
theorem dL_law_740 : decode cL_law 740 = .ok (.iload 5, 2) := by decide +kernel
theorem dL_law_742 : decode cL_law 742 = .ok (.ifCond .ne 22, 3) := by decide +kernel
theorem dL_law_745 : decode cL_law 745 = .ok (.aload_n 3, 1) := by decide +kernel
theorem dL_law_746 : decode cL_law 746 = .ok (.iconst 0, 1) := by decide +kernel
theorem dL_law_747 : decode cL_law 747 = .ok (.laload, 1) := by decide +kernel
theorem dL_law_748 : decode cL_law 748 = .ok (.iload 6, 2) := by decide +kernel
theorem dL_law_750 : decode cL_law 750 = .ok (.ifCond .eq 7, 3) := by decide +kernel
theorem dL_law_753 : decode cL_law 753 = .ok (.lconst 1, 1) := by decide +kernel
theorem dL_law_754 : decode cL_law 754 = .ok (.goto 4, 3) := by decide +kernel
theorem dL_law_757 : decode cL_law 757 = .ok (.lconst 0, 1) := by decide +kernel
theorem dL_law_758 : decode cL_law 758 = .ok (.lcmp, 1) := by decide +kernel
theorem dL_law_759 : decode cL_law 759 = .ok (.ifCond .eq 5, 3) := by decide +kernel
theorem dL_law_762 : decode cL_law 762 = .ok (.iconst 0, 1) := by decide +kernel
theorem dL_law_763 : decode cL_law 763 = .ok (.ireturn, 1) := by decide +kernel
theorem dL_law_764 : decode cL_law 764 = .ok (.goto 252, 3) := by decide +kernel
theorem dL_law_767 : decode cL_law 767 = .ok (.aload_n 1, 1) := by decide +kernel
theorem dL_law_768 : decode cL_law 768 = .ok (.aload_n 0, 1) := by decide +kernel
theorem dL_law_769 : decode cL_law 769 = .ok (.iload 4, 2) := by decide +kernel
theorem dL_law_771 : decode cL_law 771 = .ok (.iconst 1, 1) := by decide +kernel
theorem dL_law_772 : decode cL_law 772 = .ok (.iadd, 1) := by decide +kernel
theorem dL_law_773 : decode cL_law 773 = .ok (.iaload, 1) := by decide +kernel
theorem dL_law_774 : decode cL_law 774 = .ok (.aload_n 0, 1) := by decide +kernel
theorem dL_law_775 : decode cL_law 775 = .ok (.iload 4, 2) := by decide +kernel
theorem dL_law_777 : decode cL_law 777 = .ok (.iconst 2, 1) := by decide +kernel
theorem dL_law_778 : decode cL_law 778 = .ok (.iadd, 1) := by decide +kernel
theorem dL_law_779 : decode cL_law 779 = .ok (.iaload, 1) := by decide +kernel
theorem dL_law_780 : decode cL_law 780 = .ok (.aload_n 0, 1) := by decide +kernel
theorem dL_law_781 : decode cL_law 781 = .ok (.iload 4, 2) := by decide +kernel
theorem dL_law_783 : decode cL_law 783 = .ok (.iconst 3, 1) := by decide +kernel
theorem dL_law_784 : decode cL_law 784 = .ok (.iadd, 1) := by decide +kernel
theorem dL_law_785 : decode cL_law 785 = .ok (.iaload, 1) := by decide +kernel
theorem dL_law_786 : decode cL_law 786 = .ok (.aload_n 0, 1) := by decide +kernel
theorem dL_law_787 : decode cL_law 787 = .ok (.iload 4, 2) := by decide +kernel
theorem dL_law_789 : decode cL_law 789 = .ok (.iconst 4, 1) := by decide +kernel
theorem dL_law_790 : decode cL_law 790 = .ok (.iadd, 1) := by decide +kernel
theorem dL_law_791 : decode cL_law 791 = .ok (.iaload, 1) := by decide +kernel
theorem dL_law_792 : decode cL_law 792 = .ok (.i2l, 1) := by decide +kernel
theorem dL_law_793 : decode cL_law 793 = .ok (.bipush 32, 2) := by decide +kernel
theorem dL_law_795 : decode cL_law 795 = .ok (.lshl, 1) := by decide +kernel
theorem dL_law_796 : decode cL_law 796 = .ok (.aload_n 0, 1) := by decide +kernel
end
section
theorem dL_law_797 : decode cL_law 797 = .ok (.iload 4, 2) := by decide +kernel
theorem dL_law_799 : decode cL_law 799 = .ok (.iconst 5, 1) := by decide +kernel
theorem dL_law_800 : decode cL_law 800 = .ok (.iadd, 1) := by decide +kernel
theorem dL_law_801 : decode cL_law 801 = .ok (.iaload, 1) := by decide +kernel
theorem dL_law_802 : decode cL_law 802 = .ok (.i2l, 1) := by decide +kernel
theorem dL_law_803 : decode cL_law 803 = .ok (.ldc2_w 64, 3) := by decide +kernel
theorem dL_law_806 : decode cL_law 806 = .ok (.land, 1) := by decide +kernel
theorem dL_law_807 : decode cL_law 807 = .ok (.lor, 1) := by decide +kernel
theorem dL_law_808 : decode cL_law 808 = .ok (.aload_n 0, 1) := by decide +kernel
theorem dL_law_809 : decode cL_law 809 = .ok (.iload 4, 2) := by decide +kernel
theorem dL_law_811 : decode cL_law 811 = .ok (.bipush 6, 2) := by decide +kernel
theorem dL_law_813 : decode cL_law 813 = .ok (.iadd, 1) := by decide +kernel
theorem dL_law_814 : decode cL_law 814 = .ok (.iaload, 1) := by decide +kernel
theorem dL_law_815 : decode cL_law 815 = .ok (.aload_n 3, 1) := by decide +kernel
theorem dL_law_816 : decode cL_law 816 = .ok (.invokestatic 103, 3) := by decide +kernel
theorem dL_law_819 : decode cL_law 819 = .ok (.istore 5, 2) := by decide +kernel
theorem dL_law_821 : decode cL_law 821 = .ok (.aload_n 2, 1) := by decide +kernel
theorem dL_law_822 : decode cL_law 822 = .ok (.aload_n 0, 1) := by decide +kernel
theorem dL_law_823 : decode cL_law 823 = .ok (.iload 4, 2) := by decide +kernel
theorem dL_law_825 : decode cL_law 825 = .ok (.iconst 1, 1) := by decide +kernel
theorem dL_law_826 : decode cL_law 826 = .ok (.iadd, 1) := by decide +kernel
theorem dL_law_827 : decode cL_law 827 = .ok (.iaload, 1) := by decide +kernel
theorem dL_law_828 : decode cL_law 828 = .ok (.aload_n 0, 1) := by decide +kernel
theorem dL_law_829 : decode cL_law 829 = .ok (.iload 4, 2) := by decide +kernel
theorem dL_law_831 : decode cL_law 831 = .ok (.iconst 2, 1) := by decide +kernel
theorem dL_law_832 : decode cL_law 832 = .ok (.iadd, 1) := by decide +kernel
theorem dL_law_833 : decode cL_law 833 = .ok (.iaload, 1) := by decide +kernel
theorem dL_law_834 : decode cL_law 834 = .ok (.aload_n 0, 1) := by decide +kernel
theorem dL_law_835 : decode cL_law 835 = .ok (.iload 4, 2) := by decide +kernel
theorem dL_law_837 : decode cL_law 837 = .ok (.iconst 3, 1) := by decide +kernel
theorem dL_law_838 : decode cL_law 838 = .ok (.iadd, 1) := by decide +kernel
theorem dL_law_839 : decode cL_law 839 = .ok (.iaload, 1) := by decide +kernel
theorem dL_law_840 : decode cL_law 840 = .ok (.aload_n 0, 1) := by decide +kernel
theorem dL_law_841 : decode cL_law 841 = .ok (.iload 4, 2) := by decide +kernel
theorem dL_law_843 : decode cL_law 843 = .ok (.iconst 4, 1) := by decide +kernel
theorem dL_law_844 : decode cL_law 844 = .ok (.iadd, 1) := by decide +kernel
theorem dL_law_845 : decode cL_law 845 = .ok (.iaload, 1) := by decide +kernel
theorem dL_law_846 : decode cL_law 846 = .ok (.i2l, 1) := by decide +kernel
theorem dL_law_847 : decode cL_law 847 = .ok (.bipush 32, 2) := by decide +kernel
theorem dL_law_849 : decode cL_law 849 = .ok (.lshl, 1) := by decide +kernel
theorem dL_law_850 : decode cL_law 850 = .ok (.aload_n 0, 1) := by decide +kernel
theorem dL_law_851 : decode cL_law 851 = .ok (.iload 4, 2) := by decide +kernel
theorem dL_law_853 : decode cL_law 853 = .ok (.iconst 5, 1) := by decide +kernel
theorem dL_law_854 : decode cL_law 854 = .ok (.iadd, 1) := by decide +kernel
theorem dL_law_855 : decode cL_law 855 = .ok (.iaload, 1) := by decide +kernel
theorem dL_law_856 : decode cL_law 856 = .ok (.i2l, 1) := by decide +kernel
theorem dL_law_857 : decode cL_law 857 = .ok (.ldc2_w 64, 3) := by decide +kernel
theorem dL_law_860 : decode cL_law 860 = .ok (.land, 1) := by decide +kernel
theorem dL_law_861 : decode cL_law 861 = .ok (.lor, 1) := by decide +kernel
theorem dL_law_862 : decode cL_law 862 = .ok (.aload_n 0, 1) := by decide +kernel
theorem dL_law_863 : decode cL_law 863 = .ok (.iload 4, 2) := by decide +kernel
theorem dL_law_865 : decode cL_law 865 = .ok (.bipush 6, 2) := by decide +kernel
theorem dL_law_867 : decode cL_law 867 = .ok (.iadd, 1) := by decide +kernel
theorem dL_law_868 : decode cL_law 868 = .ok (.iaload, 1) := by decide +kernel
theorem dL_law_869 : decode cL_law 869 = .ok (.invokevirtual 106, 3) := by decide +kernel
theorem dL_law_872 : decode cL_law 872 = .ok (.istore 6, 2) := by decide +kernel
theorem dL_law_874 : decode cL_law 874 = .ok (.aload_n 2, 1) := by decide +kernel
theorem dL_law_875 : decode cL_law 875 = .ok (.invokevirtual 72, 3) := by decide +kernel
theorem dL_law_878 : decode cL_law 878 = .ok (.iload 5, 2) := by decide +kernel
theorem dL_law_880 : decode cL_law 880 = .ok (.if_icmp .eq 5, 3) := by decide +kernel
theorem dL_law_883 : decode cL_law 883 = .ok (.iconst 0, 1) := by decide +kernel
theorem dL_law_884 : decode cL_law 884 = .ok (.ireturn, 1) := by decide +kernel
theorem dL_law_885 : decode cL_law 885 = .ok (.iload 5, 2) := by decide +kernel
theorem dL_law_887 : decode cL_law 887 = .ok (.ifCond .ne 22, 3) := by decide +kernel
theorem dL_law_890 : decode cL_law 890 = .ok (.aload_n 3, 1) := by decide +kernel
theorem dL_law_891 : decode cL_law 891 = .ok (.iconst 0, 1) := by decide +kernel
theorem dL_law_892 : decode cL_law 892 = .ok (.laload, 1) := by decide +kernel
theorem dL_law_893 : decode cL_law 893 = .ok (.iload 6, 2) := by decide +kernel
theorem dL_law_895 : decode cL_law 895 = .ok (.ifCond .eq 7, 3) := by decide +kernel
theorem dL_law_898 : decode cL_law 898 = .ok (.lconst 1, 1) := by decide +kernel
theorem dL_law_899 : decode cL_law 899 = .ok (.goto 4, 3) := by decide +kernel
theorem dL_law_902 : decode cL_law 902 = .ok (.lconst 0, 1) := by decide +kernel
theorem dL_law_903 : decode cL_law 903 = .ok (.lcmp, 1) := by decide +kernel
theorem dL_law_904 : decode cL_law 904 = .ok (.ifCond .eq 5, 3) := by decide +kernel
theorem dL_law_907 : decode cL_law 907 = .ok (.iconst 0, 1) := by decide +kernel
theorem dL_law_908 : decode cL_law 908 = .ok (.ireturn, 1) := by decide +kernel
theorem dL_law_909 : decode cL_law 909 = .ok (.goto 107, 3) := by decide +kernel
theorem dL_law_912 : decode cL_law 912 = .ok (.aload_n 1, 1) := by decide +kernel
theorem dL_law_913 : decode cL_law 913 = .ok (.aload_n 0, 1) := by decide +kernel
theorem dL_law_914 : decode cL_law 914 = .ok (.iload 4, 2) := by decide +kernel
theorem dL_law_916 : decode cL_law 916 = .ok (.iconst 1, 1) := by decide +kernel
theorem dL_law_917 : decode cL_law 917 = .ok (.iadd, 1) := by decide +kernel
theorem dL_law_918 : decode cL_law 918 = .ok (.iaload, 1) := by decide +kernel
theorem dL_law_919 : decode cL_law 919 = .ok (.invokestatic 107, 3) := by decide +kernel
theorem dL_law_922 : decode cL_law 922 = .ok (.istore 5, 2) := by decide +kernel
theorem dL_law_924 : decode cL_law 924 = .ok (.aload_n 2, 1) := by decide +kernel
theorem dL_law_925 : decode cL_law 925 = .ok (.aload_n 0, 1) := by decide +kernel
theorem dL_law_926 : decode cL_law 926 = .ok (.iload 4, 2) := by decide +kernel
theorem dL_law_928 : decode cL_law 928 = .ok (.iconst 1, 1) := by decide +kernel
theorem dL_law_929 : decode cL_law 929 = .ok (.iadd, 1) := by decide +kernel
theorem dL_law_930 : decode cL_law 930 = .ok (.iaload, 1) := by decide +kernel
theorem dL_law_931 : decode cL_law 931 = .ok (.invokevirtual 110, 3) := by decide +kernel
theorem dL_law_934 : decode cL_law 934 = .ok (.aload_n 2, 1) := by decide +kernel
theorem dL_law_935 : decode cL_law 935 = .ok (.invokevirtual 72, 3) := by decide +kernel
theorem dL_law_938 : decode cL_law 938 = .ok (.iload 5, 2) := by decide +kernel
theorem dL_law_940 : decode cL_law 940 = .ok (.if_icmp .eq 5, 3) := by decide +kernel
theorem dL_law_943 : decode cL_law 943 = .ok (.iconst 0, 1) := by decide +kernel
theorem dL_law_944 : decode cL_law 944 = .ok (.ireturn, 1) := by decide +kernel
theorem dL_law_945 : decode cL_law 945 = .ok (.goto 71, 3) := by decide +kernel
theorem dL_law_948 : decode cL_law 948 = .ok (.aload_n 1, 1) := by decide +kernel
theorem dL_law_949 : decode cL_law 949 = .ok (.invokevirtual 111, 3) := by decide +kernel
theorem dL_law_952 : decode cL_law 952 = .ok (.aload_n 2, 1) := by decide +kernel
theorem dL_law_953 : decode cL_law 953 = .ok (.invokevirtual 115, 3) := by decide +kernel
theorem dL_law_956 : decode cL_law 956 = .ok (.if_icmp .eq 60, 3) := by decide +kernel
theorem dL_law_959 : decode cL_law 959 = .ok (.iconst 0, 1) := by decide +kernel
theorem dL_law_960 : decode cL_law 960 = .ok (.ireturn, 1) := by decide +kernel
theorem dL_law_961 : decode cL_law 961 = .ok (.aload_n 1, 1) := by decide +kernel
theorem dL_law_962 : decode cL_law 962 = .ok (.aload_n 0, 1) := by decide +kernel
theorem dL_law_963 : decode cL_law 963 = .ok (.iload 4, 2) := by decide +kernel
theorem dL_law_965 : decode cL_law 965 = .ok (.iconst 1, 1) := by decide +kernel
theorem dL_law_966 : decode cL_law 966 = .ok (.iadd, 1) := by decide +kernel
theorem dL_law_967 : decode cL_law 967 = .ok (.iaload, 1) := by decide +kernel
theorem dL_law_968 : decode cL_law 968 = .ok (.aload_n 3, 1) := by decide +kernel
theorem dL_law_969 : decode cL_law 969 = .ok (.invokestatic 116, 3) := by decide +kernel
theorem dL_law_972 : decode cL_law 972 = .ok (.istore 5, 2) := by decide +kernel
theorem dL_law_974 : decode cL_law 974 = .ok (.aload_n 2, 1) := by decide +kernel
theorem dL_law_975 : decode cL_law 975 = .ok (.aload_n 0, 1) := by decide +kernel
theorem dL_law_976 : decode cL_law 976 = .ok (.iload 4, 2) := by decide +kernel
theorem dL_law_978 : decode cL_law 978 = .ok (.iconst 1, 1) := by decide +kernel
theorem dL_law_979 : decode cL_law 979 = .ok (.iadd, 1) := by decide +kernel
theorem dL_law_980 : decode cL_law 980 = .ok (.iaload, 1) := by decide +kernel
theorem dL_law_981 : decode cL_law 981 = .ok (.invokevirtual 118, 3) := by decide +kernel
theorem dL_law_984 : decode cL_law 984 = .ok (.lstore 6, 2) := by decide +kernel
theorem dL_law_986 : decode cL_law 986 = .ok (.aload_n 2, 1) := by decide +kernel
theorem dL_law_987 : decode cL_law 987 = .ok (.invokevirtual 72, 3) := by decide +kernel
theorem dL_law_990 : decode cL_law 990 = .ok (.iload 5, 2) := by decide +kernel
theorem dL_law_992 : decode cL_law 992 = .ok (.if_icmp .eq 5, 3) := by decide +kernel
theorem dL_law_995 : decode cL_law 995 = .ok (.iconst 0, 1) := by decide +kernel
theorem dL_law_996 : decode cL_law 996 = .ok (.ireturn, 1) := by decide +kernel
theorem dL_law_997 : decode cL_law 997 = .ok (.iload 5, 2) := by decide +kernel
theorem dL_law_999 : decode cL_law 999 = .ok (.ifCond .ne 14, 3) := by decide +kernel
theorem dL_law_1002 : decode cL_law 1002 = .ok (.aload_n 3, 1) := by decide +kernel
theorem dL_law_1003 : decode cL_law 1003 = .ok (.iconst 0, 1) := by decide +kernel
theorem dL_law_1004 : decode cL_law 1004 = .ok (.laload, 1) := by decide +kernel
theorem dL_law_1005 : decode cL_law 1005 = .ok (.lload 6, 2) := by decide +kernel
theorem dL_law_1007 : decode cL_law 1007 = .ok (.lcmp, 1) := by decide +kernel
theorem dL_law_1008 : decode cL_law 1008 = .ok (.ifCond .eq 5, 3) := by decide +kernel
theorem dL_law_1011 : decode cL_law 1011 = .ok (.iconst 0, 1) := by decide +kernel
theorem dL_law_1012 : decode cL_law 1012 = .ok (.ireturn, 1) := by decide +kernel
theorem dL_law_1013 : decode cL_law 1013 = .ok (.goto 3, 3) := by decide +kernel
theorem dL_law_1016 : decode cL_law 1016 = .ok (.iinc 4 7, 3) := by decide +kernel
theorem dL_law_1019 : decode cL_law 1019 = .ok (.goto (-996), 3) := by decide +kernel
theorem dL_law_1022 : decode cL_law 1022 = .ok (.iconst 1, 1) := by decide +kernel
theorem dL_law_1023 : decode cL_law 1023 = .ok (.ireturn, 1) := by decide +kernel
end
section
/-! My own words: booleans, bytes, and rows of the kit read over Nat, Bool and BitVec 8. -/
def bI (b : Bool) : Int32 := if b then 1 else 0
theorem bI_t : bI true = 1 := rfl
theorem bI_f : bI false = 0 := rfl
theorem bI_0 {b : Bool} : bI b = 0 ↔ b = false := by cases b <;> simp [bI]
theorem bI_inj {a b : Bool} : bI a = bI b ↔ a = b := by cases a <;> cases b <;> simp [bI]
theorem zr_nar_b (b : Bool) : narrow .boolean (.int (bI b)) = .int (bI b) := by cases b <;> rfl
theorem zr_fit_b (b : Bool) : fits .boolean (.int (bI b)) = true := by cases b <;> rfl
theorem zr_vnar_b (b : Bool) : vp_nar .boolean (bI b) = bI b := by cases b <;> rfl
/-- a byte as the machine holds it -/
def sx (x : BitVec 8) : Int32 := ⟨⟨x.signExtend 32⟩⟩
theorem sx_nar (x : Int32) : vp_nar .byte x = sx (x.toBitVec.setWidth 8) := by
  rw [vp_nar_byte]
  have h : x.toInt8.toBitVec = x.toBitVec.setWidth 8 := by
    rw [Int32.toBitVec_toInt8]
    exact BitVec.signExtend_eq_setWidth_of_le _ (by decide)
  rw [← h]; rfl
theorem sx_0 {x : BitVec 8} : sx x = 0 ↔ x = 0 := by
  constructor
  · intro h
    have h1 : (x.signExtend 32) = 0#32 := congrArg Int32.toBitVec h
    have h2 : ∀ i, i < 8 → x.getLsbD i = false := by
      intro i hi
      have h3 : (x.signExtend 32).getLsbD i = false := by rw [h1]; simp
      rw [BitVec.getLsbD_signExtend] at h3
      have h4 : i < 32 := by omega
      simpa [h4, hi] using h3
    apply BitVec.eq_of_getLsbD_eq
    intro i hi
    rw [h2 i hi]; simp
  · intro h; subst h; rfl
theorem zr_upd_b (g : Nat → Bool) (k : Nat) (b : Bool) : upd (fun j => bI (g j)) k (vp_nar .boolean (bI b)) = fun j => bI (va_up g k b j) := by
  funext j; by_cases h : j = k <;> simp [upd, va_up, h, zr_vnar_b]
theorem zr_upd_n (g : Nat → Nat) (k v : Nat) : upd (fun j => nI (g j)) k (nI v) = fun j => nI (va_up g k v j) := by
  funext j; by_cases h : j = k <;> simp [upd, va_up, h]
theorem zr_upd_x (g : Nat → BitVec 8) (k : Nat) (x : Int32) : upd (fun j => sx (g j)) k (vp_nar .byte x) = fun j => sx (va_up g k (x.toBitVec.setWidth 8) j) := by
  funext j; by_cases h : j = k <;> simp [upd, va_up, h, sx_nar]
theorem zr_updL (f : Nat → Int64) (k : Nat) (x : Int64) : vp_updL f k x = va_up f k x := rfl
section ZR
variable {p : Program} {l : Launch} {e : Env} {R : Room} {s : State} {m : MethodId} {args : Array Value} {below : List Frame} {meth : Method} {c : Code} {H H0 : Heap} {locs : List Loc} {cells slots : Nat} {Q : State → Prop} {cc : ByteArray} {pc : Nat} {ls : Array Slot} {rest : List Value} {A : Nat → Prop} {D : va_G} {cl : List vw_C} {tys : List (ClassId × FieldType)} {ws : va_W} {a : Nat}
theorem zr_topi {x : Int32} (y : Int32) (h : x = y) (k : W p l e R s m args below meth c H locs cells slots Q (F0 m pc ls (.int y :: rest))) : W p l e R s m args below meth c H locs cells slots Q (F0 m pc ls (.int x :: rest)) := h ▸ k
theorem zr_topl {x : Int64} (y : Int64) (h : x = y) (k : W p l e R s m args below meth c H locs cells slots Q (F0 m pc ls (.long y :: rest))) : W p l e R s m args below meth c H locs cells slots Q (F0 m pc ls (.long x :: rest)) := h ▸ k
theorem zr_iadd (hx : p.tables.exec = Jvm.exec) (hb : c.code = cc) {x y : Nat} (hdg : decode cc pc = .ok (.iadd, 1)) (k : W p l e R s m args below meth c H locs cells slots Q (F0 m (pc + 1) ls (.int (nI (x + y)) :: rest))) : W p l e R s m args below meth c H locs cells slots Q (F0 m pc ls (.int (nI y) :: .int (nI x) :: rest)) :=
  lv_iadd hx hb hdg (zr_topi _ (nI_add x y) k)
theorem zr_isub (hx : p.tables.exec = Jvm.exec) (hb : c.code = cc) {x y : Nat} (h : y ≤ x) (hdg : decode cc pc = .ok (.isub, 1)) (k : W p l e R s m args below meth c H locs cells slots Q (F0 m (pc + 1) ls (.int (nI (x - y)) :: rest))) : W p l e R s m args below meth c H locs cells slots Q (F0 m pc ls (.int (nI y) :: .int (nI x) :: rest)) :=
  lv_isub hx hb hdg (zr_topi _ (pk_sub h) k)
theorem zr_imul (hx : p.tables.exec = Jvm.exec) (hb : c.code = cc) {x y : Nat} (hdg : decode cc pc = .ok (.imul, 1)) (k : W p l e R s m args below meth c H locs cells slots Q (F0 m (pc + 1) ls (.int (nI (x * y)) :: rest))) : W p l e R s m args below meth c H locs cells slots Q (F0 m pc ls (.int (nI y) :: .int (nI x) :: rest)) :=
  lv_imul hx hb hdg (zr_topi _ (pk_mul x y) k)
theorem zr_idiv (hx : p.tables.exec = Jvm.exec) (hb : c.code = cc) {x y : Nat} (h : x < 2 ^ 31) (h0 : 0 < y) (h1 : y < 2 ^ 31) (hdg : decode cc pc = .ok (.idiv, 1)) (k : W p l e R s m args below meth c H locs cells slots Q (F0 m (pc + 1) ls (.int (nI (x / y)) :: rest))) : W p l e R s m args below meth c H locs cells slots Q (F0 m pc ls (.int (nI y) :: .int (nI x) :: rest)) :=
  lv_idiv hx hb hdg (nI_ne0 h0 h1) (zr_topi _ (pk_div h h0 h1) k)
theorem zr_irem (hx : p.tables.exec = Jvm.exec) (hb : c.code = cc) {x y : Nat} (h : x < 2 ^ 31) (h0 : 0 < y) (h1 : y < 2 ^ 31) (hdg : decode cc pc = .ok (.irem, 1)) (k : W p l e R s m args below meth c H locs cells slots Q (F0 m (pc + 1) ls (.int (nI (x % y)) :: rest))) : W p l e R s m args below meth c H locs cells slots Q (F0 m pc ls (.int (nI y) :: .int (nI x) :: rest)) :=
  lv_irem hx hb hdg (nI_ne0 h0 h1) (zr_topi _ (pk_rem h h0 h1) k)
theorem zr_icmp_ge (hx : p.tables.exec = Jvm.exec) (hb : c.code = cc) {x y : Nat} (h : x < 2 ^ 31) (h1 : y < 2 ^ 31) {off : Int} {tgt : Nat} (hdg : decode cc pc = .ok (.if_icmp .ge off, 3)) (ht : (pc : Int) + off = (tgt : Int)) (kt : y ≤ x → W p l e R s m args below meth c H locs cells slots Q (F0 m tgt ls rest)) (kf : x < y → W p l e R s m args below meth c H locs cells slots Q (F0 m (pc + 3) ls rest)) : W p l e R s m args below meth c H locs cells slots Q (F0 m pc ls (.int (nI y) :: .int (nI x) :: rest)) :=
  lv_icmp_ge hx hb hdg ht (fun q => kt ((nI_leI h1 h).mp q)) (fun q => kf (Nat.not_le.mp fun z => q ((nI_leI h1 h).mpr z)))
theorem zr_icmp_le (hx : p.tables.exec = Jvm.exec) (hb : c.code = cc) {x y : Nat} (h : x < 2 ^ 31) (h1 : y < 2 ^ 31) {off : Int} {tgt : Nat} (hdg : decode cc pc = .ok (.if_icmp .le off, 3)) (ht : (pc : Int) + off = (tgt : Int)) (kt : x ≤ y → W p l e R s m args below meth c H locs cells slots Q (F0 m tgt ls rest)) (kf : y < x → W p l e R s m args below meth c H locs cells slots Q (F0 m (pc + 3) ls rest)) : W p l e R s m args below meth c H locs cells slots Q (F0 m pc ls (.int (nI y) :: .int (nI x) :: rest)) :=
  lv_icmp_le hx hb hdg ht (fun q => kt ((nI_leI h h1).mp q)) (fun q => kf (Nat.not_le.mp fun z => q ((nI_leI h h1).mpr z)))
theorem zr_icmp_lt (hx : p.tables.exec = Jvm.exec) (hb : c.code = cc) {x y : Nat} (h : x < 2 ^ 31) (h1 : y < 2 ^ 31) {off : Int} {tgt : Nat} (hdg : decode cc pc = .ok (.if_icmp .lt off, 3)) (ht : (pc : Int) + off = (tgt : Int)) (kt : x < y → W p l e R s m args below meth c H locs cells slots Q (F0 m tgt ls rest)) (kf : y ≤ x → W p l e R s m args below meth c H locs cells slots Q (F0 m (pc + 3) ls rest)) : W p l e R s m args below meth c H locs cells slots Q (F0 m pc ls (.int (nI y) :: .int (nI x) :: rest)) :=
  lv_icmp_lt hx hb hdg ht (fun q => kt ((nI_ltI h h1).mp q)) (fun q => kf (Nat.not_lt.mp fun z => q ((nI_ltI h h1).mpr z)))
theorem zr_icmp_gt (hx : p.tables.exec = Jvm.exec) (hb : c.code = cc) {x y : Nat} (h : x < 2 ^ 31) (h1 : y < 2 ^ 31) {off : Int} {tgt : Nat} (hdg : decode cc pc = .ok (.if_icmp .gt off, 3)) (ht : (pc : Int) + off = (tgt : Int)) (kt : y < x → W p l e R s m args below meth c H locs cells slots Q (F0 m tgt ls rest)) (kf : x ≤ y → W p l e R s m args below meth c H locs cells slots Q (F0 m (pc + 3) ls rest)) : W p l e R s m args below meth c H locs cells slots Q (F0 m pc ls (.int (nI y) :: .int (nI x) :: rest)) :=
  lv_icmp_gt hx hb hdg ht (fun q => kt ((nI_ltI h1 h).mp q)) (fun q => kf (Nat.not_lt.mp fun z => q ((nI_ltI h1 h).mpr z)))
theorem zr_icmp_eq (hx : p.tables.exec = Jvm.exec) (hb : c.code = cc) {x y : Nat} (h : x < 2 ^ 31) (h1 : y < 2 ^ 31) {off : Int} {tgt : Nat} (hdg : decode cc pc = .ok (.if_icmp .eq off, 3)) (ht : (pc : Int) + off = (tgt : Int)) (kt : x = y → W p l e R s m args below meth c H locs cells slots Q (F0 m tgt ls rest)) (kf : x ≠ y → W p l e R s m args below meth c H locs cells slots Q (F0 m (pc + 3) ls rest)) : W p l e R s m args below meth c H locs cells slots Q (F0 m pc ls (.int (nI y) :: .int (nI x) :: rest)) :=
  lv_icmp_eq hx hb hdg ht (fun q => kt ((nI_eq h h1).mp q)) (fun q => kf fun z => q ((nI_eq h h1).mpr z))
theorem zr_icmp_ne (hx : p.tables.exec = Jvm.exec) (hb : c.code = cc) {x y : Nat} (h : x < 2 ^ 31) (h1 : y < 2 ^ 31) {off : Int} {tgt : Nat} (hdg : decode cc pc = .ok (.if_icmp .ne off, 3)) (ht : (pc : Int) + off = (tgt : Int)) (kt : x ≠ y → W p l e R s m args below meth c H locs cells slots Q (F0 m tgt ls rest)) (kf : x = y → W p l e R s m args below meth c H locs cells slots Q (F0 m (pc + 3) ls rest)) : W p l e R s m args below meth c H locs cells slots Q (F0 m pc ls (.int (nI y) :: .int (nI x) :: rest)) :=
  lv_icmp_ne hx hb hdg ht (fun q => kt fun z => q ((nI_eq h h1).mpr z)) (fun q => kf ((nI_eq h h1).mp q))
theorem zr_ifb_eq (hx : p.tables.exec = Jvm.exec) (hb : c.code = cc) {b : Bool} {off : Int} {tgt : Nat} (hdg : decode cc pc = .ok (.ifCond .eq off, 3)) (ht : (pc : Int) + off = (tgt : Int)) (kt : b = false → W p l e R s m args below meth c H locs cells slots Q (F0 m tgt ls rest)) (kf : b = true → W p l e R s m args below meth c H locs cells slots Q (F0 m (pc + 3) ls rest)) : W p l e R s m args below meth c H locs cells slots Q (F0 m pc ls (.int (bI b) :: rest)) :=
  lv_if_eq hx hb hdg ht (fun q => kt (bI_0.mp q)) (fun q => kf (by cases b; exact absurd rfl q; rfl))
theorem zr_ifb_ne (hx : p.tables.exec = Jvm.exec) (hb : c.code = cc) {b : Bool} {off : Int} {tgt : Nat} (hdg : decode cc pc = .ok (.ifCond .ne off, 3)) (ht : (pc : Int) + off = (tgt : Int)) (kt : b = true → W p l e R s m args below meth c H locs cells slots Q (F0 m tgt ls rest)) (kf : b = false → W p l e R s m args below meth c H locs cells slots Q (F0 m (pc + 3) ls rest)) : W p l e R s m args below meth c H locs cells slots Q (F0 m pc ls (.int (bI b) :: rest)) :=
  lv_if_ne hx hb hdg ht (fun q => kt (by cases b; exact absurd rfl q; rfl)) (fun q => kf (bI_0.mp q))
theorem zr_ifn_eq (hx : p.tables.exec = Jvm.exec) (hb : c.code = cc) {x : Nat} (h : x < 2 ^ 31) {off : Int} {tgt : Nat} (hdg : decode cc pc = .ok (.ifCond .eq off, 3)) (ht : (pc : Int) + off = (tgt : Int)) (kt : x = 0 → W p l e R s m args below meth c H locs cells slots Q (F0 m tgt ls rest)) (kf : x ≠ 0 → W p l e R s m args below meth c H locs cells slots Q (F0 m (pc + 3) ls rest)) : W p l e R s m args below meth c H locs cells slots Q (F0 m pc ls (.int (nI x) :: rest)) :=
  lv_if_eq hx hb hdg ht (fun q => kt ((nI_eq h (by decide)).mp (q.trans nI_0.symm))) (fun q => kf fun z => q (by rw [z]; exact nI_0))
theorem zr_ifn_ne (hx : p.tables.exec = Jvm.exec) (hb : c.code = cc) {x : Nat} (h : x < 2 ^ 31) {off : Int} {tgt : Nat} (hdg : decode cc pc = .ok (.ifCond .ne off, 3)) (ht : (pc : Int) + off = (tgt : Int)) (kt : x ≠ 0 → W p l e R s m args below meth c H locs cells slots Q (F0 m tgt ls rest)) (kf : x = 0 → W p l e R s m args below meth c H locs cells slots Q (F0 m (pc + 3) ls rest)) : W p l e R s m args below meth c H locs cells slots Q (F0 m pc ls (.int (nI x) :: rest)) :=
  lv_if_ne hx hb hdg ht (fun q => kt fun z => q (by rw [z]; exact nI_0)) (fun q => kf ((nI_eq h (by decide)).mp (q.trans nI_0.symm)))
theorem zr_lald (hx : p.tables.exec = Jvm.exec) (hb : c.code = cc) (hK : va_K D cl tys s) (hP : va_P D cl ws H) (q0 t0 : Nat) {cA : ClassId} {n j : Nat} {f : Nat → Int64} (ha : ws[q0]? = some (a, .inl (cA, n, .inr (.inl f)))) (ht : tys[t0]? = some (cA, .long)) (hj : j < n) (hn : n < 2 ^ 31) (hdg : decode cc pc = .ok (.laload, 1))
    (kk : W p l e R s m args below meth c H locs cells slots Q (F0 m (pc + 1) ls (.long (f j) :: rest))) : W p l e R s m args below meth c H locs cells slots Q (F0 m pc ls (.int (nI j) :: .ref a :: rest)) :=
  va_lald hx hb hK hP q0 t0 ha ht (vp_in_nI hj hn) hdg (by rw [nI_clamp (Nat.lt_trans hj hn)]; exact kk)
theorem zr_nald (hx : p.tables.exec = Jvm.exec) (hb : c.code = cc) (hK : va_K D cl tys s) (hP : va_P D cl ws H) (q0 t0 : Nat) {cA : ClassId} {n j : Nat} {g : Nat → Nat} (ha : ws[q0]? = some (a, .inl (cA, n, .inl (fun i => nI (g i))))) (ht : tys[t0]? = some (cA, .int)) (hj : j < n) (hn : n < 2 ^ 31) (hdg : decode cc pc = .ok (.iaload, 1))
    (kk : W p l e R s m args below meth c H locs cells slots Q (F0 m (pc + 1) ls (.int (nI (g j)) :: rest))) : W p l e R s m args below meth c H locs cells slots Q (F0 m pc ls (.int (nI j) :: .ref a :: rest)) :=
  va_iald hx hb hK hP q0 t0 ha ht (vp_in_nI hj hn) hdg (by rw [nI_clamp (Nat.lt_trans hj hn)]; exact kk)
theorem zr_zald (hx : p.tables.exec = Jvm.exec) (hb : c.code = cc) (hK : va_K D cl tys s) (hP : va_P D cl ws H) (q0 t0 : Nat) {cA : ClassId} {n j : Nat} {g : Nat → Bool} (ha : ws[q0]? = some (a, .inl (cA, n, .inl (fun i => bI (g i))))) (ht : tys[t0]? = some (cA, .boolean)) (hj : j < n) (hn : n < 2 ^ 31) (hdg : decode cc pc = .ok (.baload, 1))
    (kk : W p l e R s m args below meth c H locs cells slots Q (F0 m (pc + 1) ls (.int (bI (g j)) :: rest))) : W p l e R s m args below meth c H locs cells slots Q (F0 m pc ls (.int (nI j) :: .ref a :: rest)) :=
  va_zald hx hb hK hP q0 t0 ha ht (vp_in_nI hj hn) hdg (by rw [nI_clamp (Nat.lt_trans hj hn)]; exact kk)
theorem zr_xald (hx : p.tables.exec = Jvm.exec) (hb : c.code = cc) (hK : va_K D cl tys s) (hP : va_P D cl ws H) (q0 t0 : Nat) {cA : ClassId} {n j : Nat} {g : Nat → BitVec 8} (ha : ws[q0]? = some (a, .inl (cA, n, .inl (fun i => sx (g i))))) (ht : tys[t0]? = some (cA, .byte)) (hj : j < n) (hn : n < 2 ^ 31) (hdg : decode cc pc = .ok (.baload, 1))
    (kk : W p l e R s m args below meth c H locs cells slots Q (F0 m (pc + 1) ls (.int (sx (g j)) :: rest))) : W p l e R s m args below meth c H locs cells slots Q (F0 m pc ls (.int (nI j) :: .ref a :: rest)) :=
  va_bald hx hb hK hP q0 t0 ha ht (vp_in_nI hj hn) hdg (by rw [nI_clamp (Nat.lt_trans hj hn)]; exact kk)
theorem zr_last (hx : p.tables.exec = Jvm.exec) (hb : c.code = cc) (hK : va_K D cl tys s) (hP : va_P D cl ws H) (hD : va_D A ws) (hS : va_S A H0 H locs) (q0 t0 : Nat) {cA : ClassId} {n j : Nat} {f : Nat → Int64} (ha : ws[q0]? = some (a, .inl (cA, n, .inr (.inl f)))) (ht : tys[t0]? = some (cA, .long)) {x : Int64} (hj : j < n) (hn : n < 2 ^ 31) (hdg : decode cc pc = .ok (.lastore, 1))
    (kk : ∀ (H1 : Heap) (locs1 : List Loc), va_P D cl (ws.set q0 (a, .inl (cA, n, .inr (.inl (va_up f j x))))) H1 → va_D A (ws.set q0 (a, .inl (cA, n, .inr (.inl (va_up f j x))))) → va_S A H0 H1 locs1 → W p l e R s m args below meth c H1 locs1 cells slots Q (F0 m (pc + 1) ls rest)) : W p l e R s m args below meth c H locs cells slots Q (F0 m pc ls (.long x :: .int (nI j) :: .ref a :: rest)) :=
  va_last hx hb hK hP hD hS q0 t0 ha ht (vp_in_nI hj hn) hdg (by rw [nI_clamp (Nat.lt_trans hj hn), zr_updL]; exact kk)
theorem zr_nast (hx : p.tables.exec = Jvm.exec) (hb : c.code = cc) (hK : va_K D cl tys s) (hP : va_P D cl ws H) (hD : va_D A ws) (hS : va_S A H0 H locs) (q0 t0 : Nat) {cA : ClassId} {n j : Nat} {g : Nat → Nat} (ha : ws[q0]? = some (a, .inl (cA, n, .inl (fun i => nI (g i))))) (ht : tys[t0]? = some (cA, .int)) {x : Nat} (hj : j < n) (hn : n < 2 ^ 31) (hdg : decode cc pc = .ok (.iastore, 1))
    (kk : ∀ (H1 : Heap) (locs1 : List Loc), va_P D cl (ws.set q0 (a, .inl (cA, n, .inl (fun i => nI (va_up g j x i))))) H1 → va_D A (ws.set q0 (a, .inl (cA, n, .inl (fun i => nI (va_up g j x i))))) → va_S A H0 H1 locs1 → W p l e R s m args below meth c H1 locs1 cells slots Q (F0 m (pc + 1) ls rest)) : W p l e R s m args below meth c H locs cells slots Q (F0 m pc ls (.int (nI x) :: .int (nI j) :: .ref a :: rest)) :=
  va_iast hx hb hK hP hD hS q0 t0 ha ht (vp_in_nI hj hn) hdg (by rw [nI_clamp (Nat.lt_trans hj hn), zr_upd_n]; exact kk)
theorem zr_zast (hx : p.tables.exec = Jvm.exec) (hb : c.code = cc) (hK : va_K D cl tys s) (hP : va_P D cl ws H) (hD : va_D A ws) (hS : va_S A H0 H locs) (q0 t0 : Nat) {cA : ClassId} {n j : Nat} {g : Nat → Bool} (ha : ws[q0]? = some (a, .inl (cA, n, .inl (fun i => bI (g i))))) (ht : tys[t0]? = some (cA, .boolean)) {x : Bool} (hj : j < n) (hn : n < 2 ^ 31) (hdg : decode cc pc = .ok (.bastore, 1))
    (kk : ∀ (H1 : Heap) (locs1 : List Loc), va_P D cl (ws.set q0 (a, .inl (cA, n, .inl (fun i => bI (va_up g j x i))))) H1 → va_D A (ws.set q0 (a, .inl (cA, n, .inl (fun i => bI (va_up g j x i))))) → va_S A H0 H1 locs1 → W p l e R s m args below meth c H1 locs1 cells slots Q (F0 m (pc + 1) ls rest)) : W p l e R s m args below meth c H locs cells slots Q (F0 m pc ls (.int (bI x) :: .int (nI j) :: .ref a :: rest)) :=
  va_zast hx hb hK hP hD hS q0 t0 ha ht (vp_in_nI hj hn) hdg (by rw [nI_clamp (Nat.lt_trans hj hn), zr_upd_b]; exact kk)
theorem zr_xast (hx : p.tables.exec = Jvm.exec) (hb : c.code = cc) (hK : va_K D cl tys s) (hP : va_P D cl ws H) (hD : va_D A ws) (hS : va_S A H0 H locs) (q0 t0 : Nat) {cA : ClassId} {n j : Nat} {g : Nat → BitVec 8} (ha : ws[q0]? = some (a, .inl (cA, n, .inl (fun i => sx (g i))))) (ht : tys[t0]? = some (cA, .byte)) {x : Int32} (hj : j < n) (hn : n < 2 ^ 31) (hdg : decode cc pc = .ok (.bastore, 1))
    (kk : ∀ (H1 : Heap) (locs1 : List Loc), va_P D cl (ws.set q0 (a, .inl (cA, n, .inl (fun i => sx (va_up g j (x.toBitVec.setWidth 8) i))))) H1 → va_D A (ws.set q0 (a, .inl (cA, n, .inl (fun i => sx (va_up g j (x.toBitVec.setWidth 8) i))))) → va_S A H0 H1 locs1 → W p l e R s m args below meth c H1 locs1 cells slots Q (F0 m (pc + 1) ls rest)) : W p l e R s m args below meth c H locs cells slots Q (F0 m pc ls (.int x :: .int (nI j) :: .ref a :: rest)) :=
  va_bast hx hb hK hP hD hS q0 t0 ha ht (vp_in_nI hj hn) hdg (by rw [nI_clamp (Nat.lt_trans hj hn), zr_upd_x]; exact kk)
end ZR
end
section
/-! pure words of the class -/
def okI (x : Int32) (n : Nat) : Bool := decide (0 ≤ x.toInt ∧ x.toInt < n)
theorem okI_f1 {x : Int32} {n : Nat} (h : x < 0) : okI x n = false := by
  have h1 := Int32.lt_iff_toInt_lt.mp h
  simp only [okI, decide_eq_false_iff_not]
  intro q
  have : (0 : Int32).toInt = 0 := rfl
  omega
theorem okI_f2 {x : Int32} {n : Nat} (hn : n < 2 ^ 31) (h : nI n ≤ x) : okI x n = false := by
  have h1 := Int32.le_iff_toInt_le.mp h
  rw [nI_toInt hn] at h1
  simp only [okI, decide_eq_false_iff_not]
  intro q
  omega
theorem okI_t {x : Int32} {n : Nat} (hn : n < 2 ^ 31) (h0 : ¬ x < 0) (h : ¬ nI n ≤ x) : okI x n = true := by
  have h1 : ¬ (nI n).toInt ≤ x.toInt := fun q => h (Int32.le_iff_toInt_le.mpr q)
  have h2 : ¬ x.toInt < (0 : Int32).toInt := fun q => h0 (Int32.lt_iff_toInt_lt.mpr q)
  rw [nI_toInt hn] at h1
  have : (0 : Int32).toInt = 0 := rfl
  simp only [okI, decide_eq_true_eq]
  omega
theorem okI_get {x : Int32} {n : Nat} (hn : n < 2 ^ 31) (h : okI x n = true) : ∃ d : Nat, d < n ∧ x = nI d := by
  simp only [okI, decide_eq_true_eq] at h
  refine ⟨x.toInt.toNat, by omega, ?_⟩
  apply Int32.toInt_inj.mp
  rw [nI_toInt (by omega)]
  omega
theorem okI_nI {d n : Nat} (hd : d < n) (hn : n < 2 ^ 31) : okI (nI d) n = true := by
  simp only [okI, decide_eq_true_eq, nI_toInt (show d < 2 ^ 31 by omega)]
  omega
/-- 1 .. 8 -/
def okC (x : Int32) : Bool := decide (1 ≤ x.toInt ∧ x.toInt ≤ 8)
theorem okC_f1 {x : Int32} (h : x < nI 1) : okC x = false := by
  have h1 := Int32.lt_iff_toInt_lt.mp h
  rw [nI_toInt (by decide)] at h1
  simp only [okC, decide_eq_false_iff_not]
  intro q
  omega
theorem okC_f2 {x : Int32} (h : nI 8 < x) : okC x = false := by
  have h1 := Int32.lt_iff_toInt_lt.mp h
  rw [nI_toInt (by decide)] at h1
  simp only [okC, decide_eq_false_iff_not]
  intro q
  omega
theorem okC_t {x : Int32} (h0 : ¬ x < nI 1) (h : ¬ nI 8 < x) : okC x = true := by
  have h1 : ¬ (nI 8).toInt < x.toInt := fun q => h (Int32.lt_iff_toInt_lt.mpr q)
  have h2 : ¬ x.toInt < (nI 1).toInt := fun q => h0 (Int32.lt_iff_toInt_lt.mpr q)
  rw [nI_toInt (by decide)] at h1 h2
  simp only [okC, decide_eq_true_eq]
  omega
theorem okC_get {x : Int32} (h : okC x = true) : ∃ d : Nat, 1 ≤ d ∧ d ≤ 8 ∧ x = nI d := by
  simp only [okC, decide_eq_true_eq] at h
  refine ⟨x.toInt.toNat, by omega, by omega, ?_⟩
  apply Int32.toInt_inj.mp
  rw [nI_toInt (by omega)]
  omega
end
section
set_option maxHeartbeats 4000000 in
set_option maxRecDepth 100000 in
theorem c_X0_isDisk (l : Launch) (dC : Nat → ClassId) (dI : Nat → Nat → Nat) (sz : Nat) (x : Int32) : Met l yX0_isDisk wsX0_isDisk ({ frames := 0, cells := 0, slots := 0, locals := 0 }) (va_Pc [.int x] (fun U => U.heap.size = sz ∧ va_P (dC, dI) vwCl [] U.heap ∧ va_K (dC, dI) vwCl [] U ∧ va_D (fun _ => True) [])) (va_Qi (fun (r : Int32) (_ : Unit) => r = bI (okI x 16)) (fun (_ : Unit) t => va_P (dC, dI) vwCl [] t.heap ∧ va_K (dC, dI) vwCl [] t ∧ va_D (va_A [] sz) []) (va_A [] sz)) 0 0 (va_A [] sz) := by
  refine Met.ofW (cc := cX0_isDisk) (maxL := 1) (ret := some .boolean) (by decide) rfl ?_
  intro p e s m args below meth c s₁ B hml hv
  obtain ⟨rfl, hsz, hP, hK, hD0⟩ := hv
  have hx := B.exec
  have hb := B.bytes
  have hr := B.returns
  have hts := atoms_spec (ws := wsX0_isDisk) B.pre
  have hown : s.vm.findClass RX0 = some m.cls := findClass_of_methodNamed B.named
  have hlocks := B.notSynchronized
  subst hsz
  have hD := hD0.self (sz := s.heap.size)
  generalize hAe : va_A [] s.heap.size = A at hD ⊢
  have hA : ∀ q : Nat, s.heap.size ≤ q → A q := fun q h => by rw [← hAe]; exact Or.inr h
  generalize hH : s.heap = H at hP ⊢
  have hS : va_S A s.heap H [] := by rw [hH]; exact va_S.rf
  have hP : va_P (dC, dI) vwCl [] H := hP
  have hl := lv_entry ([.int x]) (n := 1) (Nat.le_of_ble_eq_true rfl)
  rw [lg_entry_eq]
  generalize (lg_sl ([.int x]) ++ List.replicate (1 - (lg_sl ([.int x])).length) Slot.unset).toArray = ls at hl ⊢
  have hl : lv_has ls 1 [(0, .int x)] := hl
  refine lv_iload_n hx hb dX0_isDisk_0 rfl (lv_at hl 0 rfl) ?_
  refine lv_if_lt (tgt := 14) hx hb dX0_isDisk_1 (by decide) (fun c1 => ?_) (fun c1 => ?_)
  · refine lv_iconst (v := nI 0) hx hb dX0_isDisk_14 (by decide) ?_
    refine zr_topi (bI (okI x 16)) (by first | rw [okI_f1 (by assumption)]; rfl | rw [okI_f2 (by decide) (by assumption)]; rfl) ?_
    have hP9 := hP.sub (ws' := []) [] rfl
    have hD9 := hD.sub (ws' := []) [] (by decide) rfl
    exact W.zret (v := bI (okI x 16)) hx hb hr (zr_nar_b _) (fun t ht hW => ⟨⟨bI (okI x 16), (), rfl, rfl, by rw [ht]; exact hP9, va_K.moved hW.alike hK, hD9⟩, hS.F ht⟩) hS.2.2 dX0_isDisk_15
  · refine lv_iload_n hx hb dX0_isDisk_4 rfl (lv_at hl 0 rfl) ?_
    refine lv_bipush (v := nI 16) hx hb dX0_isDisk_5 (by decide) ?_
    refine lv_icmp_ge (tgt := 14) hx hb dX0_isDisk_7 (by decide) (fun c7 => ?_) (fun c7 => ?_)
    · refine lv_iconst (v := nI 0) hx hb dX0_isDisk_14 (by decide) ?_
      refine zr_topi (bI (okI x 16)) (by first | rw [okI_f1 (by assumption)]; rfl | rw [okI_f2 (by decide) (by assumption)]; rfl) ?_
      have hP9 := hP.sub (ws' := []) [] rfl
      have hD9 := hD.sub (ws' := []) [] (by decide) rfl
      exact W.zret (v := bI (okI x 16)) hx hb hr (zr_nar_b _) (fun t ht hW => ⟨⟨bI (okI x 16), (), rfl, rfl, by rw [ht]; exact hP9, va_K.moved hW.alike hK, hD9⟩, hS.F ht⟩) hS.2.2 dX0_isDisk_15
    · refine lv_iconst (v := nI 1) hx hb dX0_isDisk_10 (by decide) ?_
      refine lv_goto (tgt := 15) hx hb dX0_isDisk_11 (by decide) ?_
      refine zr_topi (bI (okI x 16)) (by rw [okI_t (by decide) (by assumption) (by assumption)]; rfl) ?_
      have hP9 := hP.sub (ws' := []) [] rfl
      have hD9 := hD.sub (ws' := []) [] (by decide) rfl
      exact W.zret (v := bI (okI x 16)) hx hb hr (zr_nar_b _) (fun t ht hW => ⟨⟨bI (okI x 16), (), rfl, rfl, by rw [ht]; exact hP9, va_K.moved hW.alike hK, hD9⟩, hS.F ht⟩) hS.2.2 dX0_isDisk_15
set_option maxHeartbeats 4000000 in
set_option maxRecDepth 100000 in
theorem c_X0_isCount (l : Launch) (dC : Nat → ClassId) (dI : Nat → Nat → Nat) (sz : Nat) (x : Int32) : Met l yX0_isCount wsX0_isCount ({ frames := 0, cells := 0, slots := 0, locals := 0 }) (va_Pc [.int x] (fun U => U.heap.size = sz ∧ va_P (dC, dI) vwCl [] U.heap ∧ va_K (dC, dI) vwCl [] U ∧ va_D (fun _ => True) [])) (va_Qi (fun (r : Int32) (_ : Unit) => r = bI (okC x)) (fun (_ : Unit) t => va_P (dC, dI) vwCl [] t.heap ∧ va_K (dC, dI) vwCl [] t ∧ va_D (va_A [] sz) []) (va_A [] sz)) 0 0 (va_A [] sz) := by
  refine Met.ofW (cc := cX0_isCount) (maxL := 1) (ret := some .boolean) (by decide) rfl ?_
  intro p e s m args below meth c s₁ B hml hv
  obtain ⟨rfl, hsz, hP, hK, hD0⟩ := hv
  have hx := B.exec
  have hb := B.bytes
  have hr := B.returns
  have hts := atoms_spec (ws := wsX0_isCount) B.pre
  have hown : s.vm.findClass RX0 = some m.cls := findClass_of_methodNamed B.named
  have hlocks := B.notSynchronized
  subst hsz
  have hD := hD0.self (sz := s.heap.size)
  generalize hAe : va_A [] s.heap.size = A at hD ⊢
  have hA : ∀ q : Nat, s.heap.size ≤ q → A q := fun q h => by rw [← hAe]; exact Or.inr h
  generalize hH : s.heap = H at hP ⊢
  have hS : va_S A s.heap H [] := by rw [hH]; exact va_S.rf
  have hP : va_P (dC, dI) vwCl [] H := hP
  have hl := lv_entry ([.int x]) (n := 1) (Nat.le_of_ble_eq_true rfl)
  rw [lg_entry_eq]
  generalize (lg_sl ([.int x]) ++ List.replicate (1 - (lg_sl ([.int x])).length) Slot.unset).toArray = ls at hl ⊢
  have hl : lv_has ls 1 [(0, .int x)] := hl
  refine lv_iload_n hx hb dX0_isCount_0 rfl (lv_at hl 0 rfl) ?_
  refine lv_iconst (v := nI 1) hx hb dX0_isCount_1 (by decide) ?_
  refine lv_icmp_lt (tgt := 15) hx hb dX0_isCount_2 (by decide) (fun c2 => ?_) (fun c2 => ?_)
  · refine lv_iconst (v := nI 0) hx hb dX0_isCount_15 (by decide) ?_
    refine zr_topi (bI (okC x)) (by first | rw [okC_f1 (by assumption)]; rfl | rw [okC_f2 (by assumption)]; rfl) ?_
    have hP9 := hP.sub (ws' := []) [] rfl
    have hD9 := hD.sub (ws' := []) [] (by decide) rfl
    exact W.zret (v := bI (okC x)) hx hb hr (zr_nar_b _) (fun t ht hW => ⟨⟨bI (okC x), (), rfl, rfl, by rw [ht]; exact hP9, va_K.moved hW.alike hK, hD9⟩, hS.F ht⟩) hS.2.2 dX0_isCount_16
  · refine lv_iload_n hx hb dX0_isCount_5 rfl (lv_at hl 0 rfl) ?_
    refine lv_bipush (v := nI 8) hx hb dX0_isCount_6 (by decide) ?_
    refine lv_icmp_gt (tgt := 15) hx hb dX0_isCount_8 (by decide) (fun c8 => ?_) (fun c8 => ?_)
    · refine lv_iconst (v := nI 0) hx hb dX0_isCount_15 (by decide) ?_
      refine zr_topi (bI (okC x)) (by first | rw [okC_f1 (by assumption)]; rfl | rw [okC_f2 (by assumption)]; rfl) ?_
      have hP9 := hP.sub (ws' := []) [] rfl
      have hD9 := hD.sub (ws' := []) [] (by decide) rfl
      exact W.zret (v := bI (okC x)) hx hb hr (zr_nar_b _) (fun t ht hW => ⟨⟨bI (okC x), (), rfl, rfl, by rw [ht]; exact hP9, va_K.moved hW.alike hK, hD9⟩, hS.F ht⟩) hS.2.2 dX0_isCount_16
    · refine lv_iconst (v := nI 1) hx hb dX0_isCount_11 (by decide) ?_
      refine lv_goto (tgt := 16) hx hb dX0_isCount_12 (by decide) ?_
      refine zr_topi (bI (okC x)) (by rw [okC_t (by assumption) (by assumption)]; rfl) ?_
      have hP9 := hP.sub (ws' := []) [] rfl
      have hD9 := hD.sub (ws' := []) [] (by decide) rfl
      exact W.zret (v := bI (okC x)) hx hb hr (zr_nar_b _) (fun t ht hW => ⟨⟨bI (okC x), (), rfl, rfl, by rw [ht]; exact hP9, va_K.moved hW.alike hK, hD9⟩, hS.F ht⟩) hS.2.2 dX0_isCount_16
set_option maxHeartbeats 4000000 in
set_option maxRecDepth 100000 in
theorem c_X0_isCell (l : Launch) (dC : Nat → ClassId) (dI : Nat → Nat → Nat) (sz : Nat) (x y : Int32) : Met l yX0_isCell wsX0_isCell ({ frames := 1, cells := 0, slots := 0, locals := 20 }) (va_Pc [.int x, .int y] (fun U => U.heap.size = sz ∧ va_P (dC, dI) vwCl [] U.heap ∧ va_K (dC, dI) vwCl [] U ∧ va_D (fun _ => True) [])) (va_Qi (fun (r : Int32) (_ : Unit) => r = bI (okI x 16 && okI y 66)) (fun (_ : Unit) t => va_P (dC, dI) vwCl [] t.heap ∧ va_K (dC, dI) vwCl [] t ∧ va_D (va_A [] sz) []) (va_A [] sz)) 0 0 (va_A [] sz) := by
  refine Met.ofW (cc := cX0_isCell) (maxL := 2) (ret := some .boolean) (by decide) rfl ?_
  intro p e s m args below meth c s₁ B hml hv
  obtain ⟨rfl, hsz, hP, hK, hD0⟩ := hv
  have hx := B.exec
  have hb := B.bytes
  have hr := B.returns
  have hts := atoms_spec (ws := wsX0_isCell) B.pre
  have hown : s.vm.findClass RX0 = some m.cls := findClass_of_methodNamed B.named
  have hlocks := B.notSynchronized
  subst hsz
  have hD := hD0.self (sz := s.heap.size)
  generalize hAe : va_A [] s.heap.size = A at hD ⊢
  have hA : ∀ q : Nat, s.heap.size ≤ q → A q := fun q h => by rw [← hAe]; exact Or.inr h
  generalize hH : s.heap = H at hP ⊢
  have hS : va_S A s.heap H [] := by rw [hH]; exact va_S.rf
  have hP : va_P (dC, dI) vwCl [] H := hP
  have hl := lv_entry ([.int x, .int y]) (n := 2) (Nat.le_of_ble_eq_true rfl)
  rw [lg_entry_eq]
  generalize (lg_sl ([.int x, .int y]) ++ List.replicate (2 - (lg_sl ([.int x, .int y])).length) Slot.unset).toArray = ls at hl ⊢
  have hl : lv_has ls 2 [(0, .int x), (1, .int y)] := hl
  refine lv_iload_n hx hb dX0_isCell_0 rfl (lv_at hl 0 rfl) ?_
  have hPc := hP.sub (ws' := []) [] rfl
  have hDc := hD.sub (ws' := []) [] (by decide) rfl
  have hKc := hK.sub (tys' := []) [] rfl
  have hFc := va_free (wc := []) hD hS hA [] rfl
  refine va_calli (va_runS (As := [.int x]) (rest := []) ⟨hx, hb, hml, hown, hts⟩ (c_X0_isDisk l dC dI H.size x) (va_cwS 1 hts gX0_isCell_X0_isDisk rfl rfl rfl (by decide +kernel) ⟨Nat.le_of_ble_eq_true rfl, Nat.le_of_ble_eq_true rfl⟩) ⟨fun a U g mk q => by obtain ⟨q0, q1, qP, qK, qD⟩ := q; exact ⟨q0, q1, qP, va_K.moved (u := U) (U := U.calling g mk a) (Vm.Alike.refl U.vm) qK, qD⟩, fun U hU hW => ⟨rfl, by rw [hU], by rw [hU]; exact hPc, va_K.moved hW.alike hKc, hDc.weaken (fun _ _ _ _ => trivial)⟩⟩ rfl rfl hl.1 rfl (lv_room (Nat.le_of_ble_eq_true rfl)) dX0_isCell_1 ⟨Nat.zero_le _, Nat.zero_le _⟩) hS (fun q _ h => hFc q h) hFc (fun r_1 u t H1 locs ht hvm hw hB hz1 hk1 hS => ?_)
  obtain ⟨hP1, hK1, hD1⟩ := hB
  rw [ht] at hP1
  obtain ⟨hP, hD⟩ := va_join (wr := []) (w1 := []) hP hD [] [] rfl rfl (by decide) (by decide) hk1 hFc hP1 hD1
  clear hP1 hD1 hK1 hPc hDc hKc hFc hk1 hz1 hvm ht
  generalize H1 = H at hP hS ⊢
  have hP : va_P (dC, dI) vwCl [] H := hP
  have hD : va_D A [] := hD
  refine W.widen (k := 0) (n := 0) (Nat.le_refl _) (Nat.le_refl _) ?_
  obtain rfl := hw
  refine zr_ifb_eq (tgt := 21) hx hb dX0_isCell_4 (by decide) (fun c4 => ?_) (fun c4 => ?_)
  · refine lv_iconst (v := nI 0) hx hb dX0_isCell_21 (by decide) ?_
    refine zr_topi (bI (okI x 16 && okI y 66)) (by first | rw [show okI x 16 = false by assumption]; rfl | rw [okI_f1 (x := y) (by assumption), Bool.and_false]; rfl | rw [okI_f2 (x := y) (by decide) (by assumption), Bool.and_false]; rfl) ?_
    have hP9 := hP.sub (ws' := []) [] rfl
    have hD9 := hD.sub (ws' := []) [] (by decide) rfl
    exact W.zret (v := bI (okI x 16 && okI y 66)) hx hb hr (zr_nar_b _) (fun t ht hW => ⟨⟨bI (okI x 16 && okI y 66), (), rfl, rfl, by rw [ht]; exact hP9, va_K.moved hW.alike hK, hD9⟩, hS.F ht⟩) hS.2.2 dX0_isCell_22
  · refine lv_iload_n hx hb dX0_isCell_7 rfl (lv_at hl 1 rfl) ?_
    refine lv_if_lt (tgt := 21) hx hb dX0_isCell_8 (by decide) (fun c8 => ?_) (fun c8 => ?_)
    · refine lv_iconst (v := nI 0) hx hb dX0_isCell_21 (by decide) ?_
      refine zr_topi (bI (okI x 16 && okI y 66)) (by first | rw [show okI x 16 = false by assumption]; rfl | rw [okI_f1 (x := y) (by assumption), Bool.and_false]; rfl | rw [okI_f2 (x := y) (by decide) (by assumption), Bool.and_false]; rfl) ?_
      have hP9 := hP.sub (ws' := []) [] rfl
      have hD9 := hD.sub (ws' := []) [] (by decide) rfl
      exact W.zret (v := bI (okI x 16 && okI y 66)) hx hb hr (zr_nar_b _) (fun t ht hW => ⟨⟨bI (okI x 16 && okI y 66), (), rfl, rfl, by rw [ht]; exact hP9, va_K.moved hW.alike hK, hD9⟩, hS.F ht⟩) hS.2.2 dX0_isCell_22
    · refine lv_iload_n hx hb dX0_isCell_11 rfl (lv_at hl 1 rfl) ?_
      refine lv_bipush (v := nI 66) hx hb dX0_isCell_12 (by decide) ?_
      refine lv_icmp_ge (tgt := 21) hx hb dX0_isCell_14 (by decide) (fun c14 => ?_) (fun c14 => ?_)
      · refine lv_iconst (v := nI 0) hx hb dX0_isCell_21 (by decide) ?_
        refine zr_topi (bI (okI x 16 && okI y 66)) (by first | rw [show okI x 16 = false by assumption]; rfl | rw [okI_f1 (x := y) (by assumption), Bool.and_false]; rfl | rw [okI_f2 (x := y) (by decide) (by assumption), Bool.and_false]; rfl) ?_
        have hP9 := hP.sub (ws' := []) [] rfl
        have hD9 := hD.sub (ws' := []) [] (by decide) rfl
        exact W.zret (v := bI (okI x 16 && okI y 66)) hx hb hr (zr_nar_b _) (fun t ht hW => ⟨⟨bI (okI x 16 && okI y 66), (), rfl, rfl, by rw [ht]; exact hP9, va_K.moved hW.alike hK, hD9⟩, hS.F ht⟩) hS.2.2 dX0_isCell_22
      · refine lv_iconst (v := nI 1) hx hb dX0_isCell_17 (by decide) ?_
        refine lv_goto (tgt := 22) hx hb dX0_isCell_18 (by decide) ?_
        refine zr_topi (bI (okI x 16 && okI y 66)) (by rw [okI_t (x := y) (by decide) (by assumption) (by assumption), show okI x 16 = true by assumption]; rfl) ?_
        have hP9 := hP.sub (ws' := []) [] rfl
        have hD9 := hD.sub (ws' := []) [] (by decide) rfl
        exact W.zret (v := bI (okI x 16 && okI y 66)) hx hb hr (zr_nar_b _) (fun t ht hW => ⟨⟨bI (okI x 16 && okI y 66), (), rfl, rfl, by rw [ht]; exact hP9, va_K.moved hW.alike hK, hD9⟩, hS.F ht⟩) hS.2.2 dX0_isCell_22
set_option maxHeartbeats 4000000 in
set_option maxRecDepth 100000 in
theorem c_X0_spotOf (l : Launch) (dC : Nat → ClassId) (dI : Nat → Nat → Nat) (sz : Nat) (di ce : Nat) : Met l yX0_spotOf wsX0_spotOf ({ frames := 0, cells := 0, slots := 0, locals := 0 }) (va_Pc [.int (nI di), .int (nI ce)] (fun U => U.heap.size = sz ∧ va_P (dC, dI) vwCl [] U.heap ∧ va_K (dC, dI) vwCl [] U ∧ va_D (fun _ => True) [])) (va_Qi (fun (r : Int32) (_ : Unit) => r = nI (di * 66 + ce)) (fun (_ : Unit) t => va_P (dC, dI) vwCl [] t.heap ∧ va_K (dC, dI) vwCl [] t ∧ va_D (va_A [] sz) []) (va_A [] sz)) 0 0 (va_A [] sz) := by
  refine Met.ofW (cc := cX0_spotOf) (maxL := 2) (ret := some .int) (by decide) rfl ?_
  intro p e s m args below meth c s₁ B hml hv
  obtain ⟨rfl, hsz, hP, hK, hD0⟩ := hv
  have hx := B.exec
  have hb := B.bytes
  have hr := B.returns
  have hts := atoms_spec (ws := wsX0_spotOf) B.pre
  have hown : s.vm.findClass RX0 = some m.cls := findClass_of_methodNamed B.named
  have hlocks := B.notSynchronized
  subst hsz
  have hD := hD0.self (sz := s.heap.size)
  generalize hAe : va_A [] s.heap.size = A at hD ⊢
  have hA : ∀ q : Nat, s.heap.size ≤ q → A q := fun q h => by rw [← hAe]; exact Or.inr h
  generalize hH : s.heap = H at hP ⊢
  have hS : va_S A s.heap H [] := by rw [hH]; exact va_S.rf
  have hP : va_P (dC, dI) vwCl [] H := hP
  have hl := lv_entry ([.int (nI di), .int (nI ce)]) (n := 2) (Nat.le_of_ble_eq_true rfl)
  rw [lg_entry_eq]
  generalize (lg_sl ([.int (nI di), .int (nI ce)]) ++ List.replicate (2 - (lg_sl ([.int (nI di), .int (nI ce)])).length) Slot.unset).toArray = ls at hl ⊢
  have hl : lv_has ls 2 [(0, .int (nI di)), (1, .int (nI ce))] := hl
  refine lv_iload_n hx hb dX0_spotOf_0 rfl (lv_at hl 0 rfl) ?_
  refine lv_bipush (v := nI 66) hx hb dX0_spotOf_1 (by decide) ?_
  refine zr_imul hx hb dX0_spotOf_3 ?_
  refine lv_iload_n hx hb dX0_spotOf_4 rfl (lv_at hl 1 rfl) ?_
  refine zr_iadd hx hb dX0_spotOf_5 ?_
  have hP9 := hP.sub (ws' := []) [] rfl
  have hD9 := hD.sub (ws' := []) [] (by decide) rfl
  exact W.iret (v := nI ((di * 66) + ce)) hx hb hr (fun t ht hW => ⟨⟨nI ((di * 66) + ce), (), rfl, rfl, by rw [ht]; exact hP9, va_K.moved hW.alike hK, hD9⟩, hS.F ht⟩) hS.2.2 dX0_spotOf_6
end
section
/-! bits of longs and ints -/
def lb (x : Int64) (i : Nat) : Bool := x.toBitVec.getLsbD i
theorem lb_ext {x y : Int64} (h : ∀ i, i < 64 → lb x i = lb y i) : x = y := by
  apply Int64.toBitVec_inj.mp
  exact BitVec.eq_of_getLsbD_eq h
theorem lb_big {x : Int64} {i : Nat} (h : 64 ≤ i) : lb x i = false := BitVec.getLsbD_of_ge _ _ h
theorem lb_xor (x y : Int64) (i : Nat) : lb (x ^^^ y) i = (lb x i ^^ lb y i) := by simp [lb]
theorem lb_and (x y : Int64) (i : Nat) : lb (x &&& y) i = (lb x i && lb y i) := by simp [lb]
theorem lb_or (x y : Int64) (i : Nat) : lb (x ||| y) i = (lb x i || lb y i) := by simp [lb]
theorem lb_cu : ∀ k, k < 64 → ((nI k).toInt64.toUInt64 &&& Int64.toUInt64 63).toBitVec % 64 = BitVec.ofNat 64 k := by decide +kernel
theorem lb_cs : ∀ k, k < 64 → (((nI k).toInt64 &&& 63).toBitVec.smod 64) = BitVec.ofNat 64 k := by decide +kernel
theorem lb_tn : ∀ k, k < 64 → (BitVec.ofNat 64 k).toNat = k := fun k hk => by
  rw [BitVec.toNat_ofNat]; omega
theorem lb_ushr (x : Int64) {k : Nat} (hk : k < 64) (i : Nat) : lb ((x.toUInt64 >>> ((nI k).toInt64.toUInt64 &&& Int64.toUInt64 63)).toInt64) i = lb x (k + i) := by
  show ((x.toUInt64 >>> ((nI k).toInt64.toUInt64 &&& Int64.toUInt64 63)).toBitVec).getLsbD i = x.toBitVec.getLsbD (k + i)
  rw [UInt64.toBitVec_shiftRight, lb_cu k hk, BitVec.ushiftRight_eq', lb_tn k hk, BitVec.getLsbD_ushiftRight]
  rfl
theorem lb_shl (x : Int64) {k : Nat} (hk : k < 64) (i : Nat) : lb (x <<< ((nI k).toInt64 &&& 63)) i = (decide (i < 64) && !decide (i < k) && lb x (i - k)) := by
  show ((x <<< ((nI k).toInt64 &&& 63)).toBitVec).getLsbD i = _
  rw [Int64.toBitVec_shiftLeft, lb_cs k hk, BitVec.shiftLeft_eq', lb_tn k hk, BitVec.getLsbD_shiftLeft]
  rfl
theorem lb_nI {n : Nat} (h : n < 2 ^ 31) (i : Nat) : lb ((nI n).toInt64) i = n.testBit i := by
  rw [nI_l h]
  show (BitVec.ofNat 64 n).getLsbD i = n.testBit i
  rw [BitVec.getLsbD_ofNat]
  by_cases hi : i < 64
  · simp [hi]
  · rw [Nat.testBit_lt_two_pow (Nat.lt_of_lt_of_le h (Nat.pow_le_pow_right (by decide) (by omega)))]
    simp
theorem lb_ones (m : Int64) (k : Nat) (hm : m.toBitVec.toNat = 2 ^ k - 1) (i : Nat) : lb m i = decide (i < k) := by
  show m.toBitVec.getLsbD i = _
  rw [BitVec.getLsbD, hm, Nat.testBit_two_pow_sub_one]
theorem lb_255 (i : Nat) : lb 255 i = decide (i < 8) := lb_ones 255 8 (by decide) i
theorem lb_65535 (i : Nat) : lb 65535 i = decide (i < 16) := lb_ones 65535 16 (by decide) i
theorem lb_32 (i : Nat) : lb 4294967295 i = decide (i < 32) := lb_ones 4294967295 32 (by decide) i
theorem lb_0 (i : Nat) : lb 0 i = false := by simp [lb]
/-- the byte k of the words from fr on -/
def byF (f : Nat → Int64) (fr k : Nat) : Nat := (f (fr + k / 8)).toBitVec.toNat / 2 ^ (k % 8 * 8) % 256
theorem byF_lt (f : Nat → Int64) (fr k : Nat) : byF f fr k < 256 := Nat.mod_lt _ (by decide)
/-- bit x of the words from fr on -/
def cb (f : Nat → Int64) (fr x : Nat) : Bool := lb (f (fr + x / 64)) (x % 64)
theorem byF_bit (f : Nat → Int64) (fr k i : Nat) : (byF f fr k).testBit i = (decide (i < 8) && cb f fr (8 * k + i)) := by
  unfold byF cb lb
  rw [show (256 : Nat) = 2 ^ 8 from rfl, Nat.testBit_mod_two_pow, Nat.testBit_div_two_pow]
  by_cases hi : i < 8
  · rw [show (8 * k + i) / 64 = k / 8 by omega, show (8 * k + i) % 64 = i + k % 8 * 8 by omega]
    rfl
  · simp [hi]
theorem byF_eq (w : Int64) {k : Nat} (hk : k < 64) : ((w.toUInt64 >>> ((nI k).toInt64.toUInt64 &&& Int64.toUInt64 63)).toInt64).toInt32 &&& nI 255 = nI (w.toBitVec.toNat / 2 ^ k % 256) := by
  rw [pk_and _ 8 (by decide)]
  congr 1
  rw [Int64.toBitVec_toInt32, BitVec.signExtend_eq_setWidth_of_le _ (by decide)]
  show (((w.toUInt64 >>> ((nI k).toInt64.toUInt64 &&& Int64.toUInt64 63)).toBitVec).setWidth 32).toNat % 2 ^ 8 = _
  rw [BitVec.toNat_setWidth, UInt64.toBitVec_shiftRight, lb_cu k hk, BitVec.ushiftRight_eq', lb_tn k hk, BitVec.toNat_ushiftRight, Nat.shiftRight_eq_div_pow]
  show (w.toBitVec.toNat / 2 ^ k) % 2 ^ 32 % 2 ^ 8 = _
  omega
end
section
/-! turning bytes -/
def tV (w mk : Int64) (i k : Nat) : Int64 := w ^^^ (((mk.toUInt64 >>> ((nI (i * 8)).toInt64.toUInt64 &&& Int64.toUInt64 63)).toInt64 &&& 255) <<< ((nI (k % 8 * 8)).toInt64 &&& 63))
def tF (f : Nat → Int64) (fr pl : Nat) (mk : Int64) : Nat → Nat → Int64
  | 0 => f
  | i + 1 => va_up (tF f fr pl mk i) (fr + (pl + i) / 8) (tV (tF f fr pl mk i (fr + (pl + i) / 8)) mk i (pl + i))
theorem tV_bit (w mk : Int64) {i : Nat} (hi : i < 8) (k : Nat) {b : Nat} (hb : b < 64) : lb (tV w mk i k) b = (lb w b ^^ (decide (k % 8 * 8 ≤ b ∧ b < k % 8 * 8 + 8) && lb mk (i * 8 + (b - k % 8 * 8)))) := by
  unfold tV
  rw [lb_xor, lb_shl _ (by omega), lb_and, lb_ushr _ (by omega), lb_255]
  congr 1
  by_cases h1 : b < k % 8 * 8
  · have h2 : ¬ (k % 8 * 8 ≤ b ∧ b < k % 8 * 8 + 8) := by omega
    simp [h1, h2]
  · by_cases h3 : b - k % 8 * 8 < 8
    · have h2 : k % 8 * 8 ≤ b ∧ b < k % 8 * 8 + 8 := by omega
      simp [h1, h2, h3, hb]
    · have h2 : ¬ (k % 8 * 8 ≤ b ∧ b < k % 8 * 8 + 8) := by omega
      simp [h1, h2, h3]
theorem cb_up (g : Nat → Int64) (fr q : Nat) (v : Int64) (x : Nat) : cb (va_up g (fr + q) v) fr x = if x / 64 = q then lb v (x % 64) else cb g fr x := by
  unfold cb va_up
  by_cases h : x / 64 = q
  · simp [h]
  · rw [if_neg (by omega), if_neg h]
theorem tF_bit (f : Nat → Int64) (fr pl : Nat) (mk : Int64) : ∀ n, n ≤ 8 → ∀ x, cb (tF f fr pl mk n) fr x = (cb f fr x ^^ (decide (8 * pl ≤ x ∧ x < 8 * (pl + n)) && lb mk (x - 8 * pl))) := by
  intro n
  induction n with
  | zero =>
    intro _ x
    have h : ¬ (8 * pl ≤ x ∧ x < 8 * (pl + 0)) := by omega
    show cb f fr x = _
    rw [decide_eq_false h]; simp
  | succ i ih =>
    intro hn x
    have ih := ih (by omega) x
    show cb (va_up (tF f fr pl mk i) (fr + (pl + i) / 8) (tV (tF f fr pl mk i (fr + (pl + i) / 8)) mk i (pl + i))) fr x = _
    rw [cb_up]
    by_cases hq : x / 64 = (pl + i) / 8
    · rw [if_pos hq, tV_bit _ _ (by omega) _ (Nat.mod_lt _ (by decide))]
      have e1 : lb (tF f fr pl mk i (fr + (pl + i) / 8)) (x % 64) = cb (tF f fr pl mk i) fr x := by unfold cb; rw [hq]
      rw [e1, ih]
      by_cases h1 : (pl + i) % 8 * 8 ≤ x % 64 ∧ x % 64 < (pl + i) % 8 * 8 + 8
      · have h2 : ¬ (8 * pl ≤ x ∧ x < 8 * (pl + i)) := by omega
        have h3 : 8 * pl ≤ x ∧ x < 8 * (pl + (i + 1)) := by omega
        have h4 : i * 8 + (x % 64 - (pl + i) % 8 * 8) = x - 8 * pl := by omega
        rw [h4]
        rw [decide_eq_true h1, decide_eq_false h2, decide_eq_true h3]; simp
      · by_cases h2 : 8 * pl ≤ x ∧ x < 8 * (pl + i)
        · have h3 : 8 * pl ≤ x ∧ x < 8 * (pl + (i + 1)) := by omega
          simp [h1, h2, h3]
        · have h3 : ¬ (8 * pl ≤ x ∧ x < 8 * (pl + (i + 1))) := by omega
          simp [h1, h2, h3]
    · rw [if_neg hq, ih]
      by_cases h2 : 8 * pl ≤ x ∧ x < 8 * (pl + i)
      · have h3 : 8 * pl ≤ x ∧ x < 8 * (pl + (i + 1)) := by omega
        simp [h2, h3]
      · have h3 : ¬ (8 * pl ≤ x ∧ x < 8 * (pl + (i + 1))) := by omega
        simp [h2, h3]
theorem tF_out (f : Nat → Int64) (fr pl : Nat) (mk : Int64) {j : Nat} : ∀ n, (∀ i, i < n → j ≠ fr + (pl + i) / 8) → tF f fr pl mk n j = f j := by
  intro n
  induction n with
  | zero => intro _; rfl
  | succ i ih =>
    intro h
    show va_up (tF f fr pl mk i) (fr + (pl + i) / 8) _ j = _
    rw [va_up_ne _ _ (h i (by omega))]
    exact ih (fun k hk => h k (by omega))
/-! the check: by a word that is shifted, and by division -/
/-- one step down of the word -/
def ckS (w : Int64) : Int64 := if lb w 0 then (w.toUInt64 >>> ((nI 1).toInt64.toUInt64 &&& Int64.toUInt64 63)).toInt64 ^^^ 2197175160 else (w.toUInt64 >>> ((nI 1).toInt64.toUInt64 &&& Int64.toUInt64 63)).toInt64
def ckI (w : Int64) : Nat → Int64
  | 0 => w
  | i + 1 => ckS (ckI w i)
def ckW (f : Nat → Int64) (fr : Nat) : Nat → Int64
  | 0 => 4294967295
  | k + 1 => ckI (ckW f fr k ^^^ (nI (byF f fr k)).toInt64) 8
/-- the divisor's bit k -/
def pB (k : Nat) : Bool := (4394350321 : Nat).testBit k
def pD (i x : Nat) : Bool := decide (i ≤ x) && pB (x - i)
/-- division: n steps -/
def dv (M : Nat → Bool) : Nat → Nat → Bool
  | 0 => M
  | n + 1 => fun x => dv M n x ^^ (dv M n n && pD n x)
theorem pB_lb : ∀ j, j < 64 → lb 2197175160 j = pB (j + 1) := by decide +kernel
theorem pB_big {k : Nat} (h : 33 ≤ k) : pB k = false := by
  unfold pB
  exact Nat.testBit_lt_two_pow (Nat.lt_of_lt_of_le (by decide) (Nat.pow_le_pow_right (by decide) h))
theorem ckS_bit (w : Int64) (j : Nat) : lb (ckS w) j = (lb w (1 + j) ^^ (lb w 0 && pB (j + 1))) := by
  by_cases hj : j < 64
  · unfold ckS
    by_cases h : lb w 0
    · rw [if_pos h, lb_xor, lb_ushr _ (by decide), pB_lb j hj, h]; simp
    · rw [if_neg h, lb_ushr _ (by decide)]; simp [h]
  · rw [lb_big (by omega), lb_big (show 64 ≤ 1 + j by omega), pB_big (by omega)]; simp
/-- what the word is to the division: E are the bits that aren't in it yet -/
theorem ck_step {M E : Nat → Bool} {w : Int64} {i : Nat} (h : ∀ j, dv M i (i + j) = (lb w j ^^ E (i + j))) (hE : E i = false) : ∀ j, dv M (i + 1) (i + 1 + j) = (lb (ckS w) j ^^ E (i + 1 + j)) := by
  intro j
  have h0 : dv M i i = lb w 0 := by have := h 0; simpa [hE] using this
  have h1 := h (1 + j)
  show (dv M i (i + 1 + j) ^^ (dv M i i && pD i (i + 1 + j))) = _
  rw [h0, show i + 1 + j = i + (1 + j) by omega, h1, ckS_bit]
  have e : pD i (i + (1 + j)) = pB (j + 1) := by
    unfold pD
    rw [show i + (1 + j) - i = j + 1 by omega]
    simp
  rw [e]
  cases lb w (1 + j) <;> cases lb w 0 <;> cases pB (j + 1) <;> cases E (i + (1 + j)) <;> rfl
theorem ck_steps {M E : Nat → Bool} {w : Int64} {i : Nat} (h : ∀ j, dv M i (i + j) = (lb w j ^^ E (i + j))) : ∀ n, (∀ k, k < n → E (i + k) = false) → ∀ j, dv M (i + n) (i + n + j) = (lb (ckI w n) j ^^ E (i + n + j)) := by
  intro n
  induction n with
  | zero => intro _; exact h
  | succ n ih =>
    intro hE
    exact ck_step (ih (fun k hk => hE k (by omega))) (hE n (by omega))
/-- the 528 bits that are checked, and 0s behind them -/
def m0 (f : Nat → Int64) (fr x : Nat) : Bool := decide (x < 528) && cb f fr x
def m1 (f : Nat → Int64) (fr x : Nat) : Bool := m0 f fr x ^^ decide (x < 32)
theorem ck_all (f : Nat → Int64) (fr : Nat) : ∀ k, k ≤ 66 → ∀ j, dv (m1 f fr) (8 * k) (8 * k + j) = (lb (ckW f fr k) j ^^ m0 f fr (8 * k + j)) := by
  intro k
  induction k with
  | zero =>
    intro _ j
    show m1 f fr (8 * 0 + j) = (lb 4294967295 j ^^ m0 f fr (8 * 0 + j))
    rw [lb_32, Nat.mul_zero, Nat.zero_add]
    unfold m1
    exact Bool.xor_comm _ _
  | succ k ih =>
    intro hk
    have ih := ih (by omega)
    have h1 : ∀ j, dv (m1 f fr) (8 * k) (8 * k + j) = (lb (ckW f fr k ^^^ (nI (byF f fr k)).toInt64) j ^^ (m0 f fr (8 * k + j) && !decide (j < 8))) := by
      intro j
      rw [ih j, lb_xor, lb_nI (Nat.lt_of_lt_of_le (byF_lt f fr k) (by decide)), byF_bit]
      by_cases hj : j < 8
      · have h2 : 8 * k + j < 528 := by omega
        simp [m0, hj, h2]
      · simp [hj]
    have h2 := ck_steps (E := fun x => m0 f fr x && !decide (x < 8 * k + 8)) (w := ckW f fr k ^^^ (nI (byF f fr k)).toInt64) (i := 8 * k) (fun j => by
      rw [h1 j]
      have e : decide (j < 8) = decide (8 * k + j < 8 * k + 8) := by simp
      rw [e]) 8 (fun q hq => by
      have e : 8 * k + q < 8 * k + 8 := by omega
      simp [e])
    intro j
    have h3 := h2 j
    have e : ¬ 8 * k + 8 + j < 8 * k + 8 := by omega
    rw [show 8 * (k + 1) = 8 * k + 8 by omega, h3]
    show _ = (lb (ckI (ckW f fr k ^^^ (nI (byF f fr k)).toInt64) 8) j ^^ _)
    simp [e]
theorem ckS_hi {w : Int64} (h : ∀ j, 32 ≤ j → lb w j = false) : ∀ j, 32 ≤ j → lb (ckS w) j = false := by
  intro j hj
  rw [ckS_bit, h (1 + j) (by omega), pB_big (by omega)]; simp
theorem ckI_hi {w : Int64} (h : ∀ j, 32 ≤ j → lb w j = false) : ∀ n, ∀ j, 32 ≤ j → lb (ckI w n) j = false := by
  intro n
  induction n with
  | zero => exact h
  | succ n ih => exact ckS_hi ih
theorem ckW_hi (f : Nat → Int64) (fr : Nat) : ∀ k, ∀ j, 32 ≤ j → lb (ckW f fr k) j = false := by
  intro k
  induction k with
  | zero => intro j hj; show lb 4294967295 j = false; rw [lb_32]; simp; omega
  | succ k ih =>
    refine ckI_hi ?_ 8
    intro j hj
    rw [lb_xor, ih j hj, lb_nI (Nat.lt_of_lt_of_le (byF_lt f fr k) (by decide)), byF_bit]
    have : ¬ j < 8 := by omega
    simp [this]
/-- the check of the 66 bytes -/
def ckV (f : Nat → Int64) (fr : Nat) : Int64 := ckW f fr 66 ^^^ 4294967295
theorem ckV_bit (f : Nat → Int64) (fr : Nat) {j : Nat} (hj : j < 32) : lb (ckV f fr) j = !dv (m1 f fr) 528 (528 + j) := by
  have h := ck_all f fr 66 (Nat.le_refl _) j
  have e : m0 f fr (8 * 66 + j) = false := by
    have : ¬ 8 * 66 + j < 528 := by omega
    unfold m0
    simp [this]
  rw [e] at h
  unfold ckV
  rw [lb_xor, lb_32]
  show (lb (ckW f fr 66) j ^^ decide (j < 32)) = !dv (m1 f fr) (8 * 66) (8 * 66 + j)
  rw [h]
  simp [hj]
theorem ckV_hi (f : Nat → Int64) (fr : Nat) {j : Nat} (hj : 32 ≤ j) : lb (ckV f fr) j = false := by
  unfold ckV
  rw [lb_xor, lb_32, ckW_hi f fr 66 j hj]
  have : ¬ j < 32 := by omega
  simp [this]
/-! division is linear -/
theorem dv_xor (M M' : Nat → Bool) : ∀ n x, dv (fun y => M y ^^ M' y) n x = (dv M n x ^^ dv M' n x) := by
  intro n
  induction n with
  | zero => intro x; rfl
  | succ n ih =>
    intro x
    show (dv (fun y => M y ^^ M' y) n x ^^ (dv (fun y => M y ^^ M' y) n n && pD n x)) = ((dv M n x ^^ (dv M n n && pD n x)) ^^ (dv M' n x ^^ (dv M' n n && pD n x)))
    rw [ih x, ih n]
    cases dv M n x <;> cases dv M' n x <;> cases dv M n n <;> cases dv M' n n <;> cases pD n x <;> rfl
theorem dv_low (M : Nat → Bool) : ∀ n, (∀ i, i < n → M i = false) → ∀ x, dv M n x = M x := by
  intro n
  induction n with
  | zero => intro _ x; rfl
  | succ n ih =>
    intro h x
    have ih := ih (fun i hi => h i (by omega))
    show (dv M n x ^^ (dv M n n && pD n x)) = M x
    rw [ih x, ih n, h n (by omega)]; simp
theorem dv_congr {M M' : Nat → Bool} (h : ∀ x, M x = M' x) (n x : Nat) : dv M n x = dv M' n x := by rw [show M = M' from funext h]
end
section
/-! pure: kinds and their counts, filling, power -/
def skC (cn kd : Nat → Nat) (sp k : Nat) : Nat → Nat := va_up (va_up cn (kd sp) (cn (kd sp) - 1)) k (va_up cn (kd sp) (cn (kd sp) - 1) k + 1)
def skK (kd : Nat → Nat) (di k : Nat) : Nat → Nat → Nat
  | 0 => kd
  | i + 1 => va_up (skK kd di k i) (di * 66 + i) k
def skN (kd cn : Nat → Nat) (di k : Nat) : Nat → Nat → Nat
  | 0 => cn
  | i + 1 => skC (skN kd cn di k i) (skK kd di k i) (di * 66 + i) k
def ctK (kd : Nat → Nat) (v : Nat) : Nat → Nat
  | 0 => 0
  | n + 1 => ctK kd v n + (if kd n = v then 1 else 0)
theorem ctK_out (kd : Nat → Nat) (v sp k : Nat) : ∀ n, n ≤ sp → ctK (va_up kd sp k) v n = ctK kd v n := by
  intro n
  induction n with
  | zero => intro _; rfl
  | succ n ih =>
    intro h
    show ctK (va_up kd sp k) v n + (if va_up kd sp k n = v then 1 else 0) = ctK kd v n + (if kd n = v then 1 else 0)
    rw [ih (by omega), va_up_ne _ _ (by omega)]
theorem ctK_up (kd : Nat → Nat) (v sp k : Nat) : ∀ n, sp < n → ctK (va_up kd sp k) v n + (if kd sp = v then 1 else 0) = ctK kd v n + (if k = v then 1 else 0) := by
  intro n
  induction n with
  | zero => intro h; omega
  | succ n ih =>
    intro h
    show ctK (va_up kd sp k) v n + (if va_up kd sp k n = v then 1 else 0) + _ = ctK kd v n + (if kd n = v then 1 else 0) + _
    by_cases e : sp = n
    · subst e
      rw [ctK_out _ _ _ _ _ (Nat.le_refl _), va_up_self]
      omega
    · have := ih (by omega)
      rw [va_up_ne _ _ (by omega)]
      omega
theorem ctK_pos (kd : Nat → Nat) (sp : Nat) : ∀ n, sp < n → 1 ≤ ctK kd (kd sp) n := by
  intro n
  induction n with
  | zero => intro h; omega
  | succ n ih =>
    intro h
    show 1 ≤ ctK kd (kd sp) n + (if kd n = kd sp then 1 else 0)
    by_cases e : sp = n
    · subst e; simp
    · have := ih (by omega); omega
theorem ctK_le (kd : Nat → Nat) (v : Nat) : ∀ n, ctK kd v n ≤ n := by
  intro n
  induction n with
  | zero => exact Nat.le_refl 0
  | succ n ih =>
    show ctK kd v n + (if kd n = v then 1 else 0) ≤ n + 1
    split <;> omega
def cnOK (kd cn : Nat → Nat) : Prop := ∀ v, v < 4 → cn v = ctK kd v 1056
theorem cnOK_pos {kd cn : Nat → Nat} (h : cnOK kd cn) {sp : Nat} (hs : sp < 1056) (hk : kd sp < 4) : 1 ≤ cn (kd sp) := by
  rw [h _ hk]; exact ctK_pos kd sp 1056 hs
theorem cnOK_up {kd cn : Nat → Nat} (h : cnOK kd cn) {sp k : Nat} (hs : sp < 1056) (hk : kd sp < 4) (h4 : k < 4) : cnOK (va_up kd sp k) (skC cn kd sp k) := by
  intro v hv
  have h1 := ctK_up kd v sp k 1056 hs
  have h2 := h v hv
  have h3 := h k h4
  have h5 := h _ hk
  have h6 := cnOK_pos h hs hk
  unfold skC
  by_cases e1 : v = k
  · subst e1
    rw [va_up_self]
    by_cases e2 : v = kd sp
    · rw [← e2, va_up_self]
      rw [← e2] at h1 h6
      simp at h1
      omega
    · rw [va_up_ne _ _ e2]
      rw [if_neg (Ne.symm e2), if_pos rfl] at h1
      omega
  · rw [va_up_ne _ _ e1]
    by_cases e2 : v = kd sp
    · rw [← e2, va_up_self]
      rw [← e2] at h1 h6
      rw [if_pos rfl, if_neg (Ne.symm e1)] at h1
      omega
    · rw [va_up_ne _ _ e2]
      rw [if_neg (Ne.symm e2), if_neg (Ne.symm e1)] at h1
      omega
def kdOK (kd : Nat → Nat) : Prop := ∀ j, kd j < 4
theorem kdOK_up {kd : Nat → Nat} (h : kdOK kd) {sp k : Nat} (h4 : k < 4) : kdOK (va_up kd sp k) := by
  intro j
  unfold va_up
  split
  · exact h4
  · exact h j
theorem sk_ok {kd cn : Nat → Nat} (hk : kdOK kd) (hc : cnOK kd cn) {di k : Nat} (hd : di < 16) (h4 : k < 4) : ∀ i, i ≤ 66 → kdOK (skK kd di k i) ∧ cnOK (skK kd di k i) (skN kd cn di k i) := by
  intro i
  induction i with
  | zero => intro _; exact ⟨hk, hc⟩
  | succ i ih =>
    intro h
    obtain ⟨h1, h2⟩ := ih (by omega)
    exact ⟨kdOK_up h1 h4, cnOK_up h2 (by omega) (h1 _) h4⟩
theorem skK_at (kd : Nat → Nat) (di k : Nat) : ∀ n j, skK kd di k n j = if di * 66 ≤ j ∧ j < di * 66 + n then k else kd j := by
  intro n
  induction n with
  | zero => intro j; rw [if_neg (by omega)]; rfl
  | succ n ih =>
    intro j
    show va_up (skK kd di k n) (di * 66 + n) k j = _
    by_cases e : j = di * 66 + n
    · subst e; rw [va_up_self, if_pos (by omega)]
    · rw [va_up_ne _ _ e, ih j]
      by_cases q : di * 66 ≤ j ∧ j < di * 66 + n
      · rw [if_pos q, if_pos (by omega)]
      · rw [if_neg q, if_neg (by omega)]
/-- filling the first n places -/
def flF {α : Type} (f : Nat → α) (v : α) : Nat → Nat → α
  | 0 => f
  | i + 1 => va_up (flF f v i) i v
theorem flF_at {α : Type} (f : Nat → α) (v : α) : ∀ n j, flF f v n j = if j < n then v else f j := by
  intro n
  induction n with
  | zero => intro j; rw [if_neg (by omega)]; rfl
  | succ n ih =>
    intro j
    show va_up (flF f v n) n v j = _
    by_cases e : j = n
    · subst e; rw [va_up_self, if_pos (by omega)]
    · rw [va_up_ne _ _ e, ih j]
      by_cases q : j < n
      · rw [if_pos q, if_pos (by omega)]
      · rw [if_neg q, if_neg (by omega)]
def dpO (off : Bool) (wl : Int32) : Bool := off || decide (wl = 0)
def dpW (off : Bool) (wl : Int32) : Int32 := if dpO off wl then wl else if wl = -1 then wl else wl - 1
noncomputable def swOK (now latest : Nat → Int64) (fr : Nat) : Bool := @decide (∀ i, i < 9 → now (fr + i) = latest (fr + i)) (Classical.propDecidable _)
theorem swOK_t {now latest : Nat → Int64} {fr : Nat} (h : ∀ i, i < 9 → now (fr + i) = latest (fr + i)) : swOK now latest fr = true := by
  unfold swOK; exact @decide_eq_true _ (Classical.propDecidable _) h
theorem swOK_f {now latest : Nat → Int64} {fr i : Nat} (hi : i < 9) (h : ¬ now (fr + i) = latest (fr + i)) : swOK now latest fr = false := by
  unfold swOK; exact @decide_eq_false _ (Classical.propDecidable _) (fun q => h (q i hi))
/-- whether the last word bears the check -/
def icOK (now : Nat → Int64) (fr : Nat) : Bool := decide (((now (fr + 8)).toUInt64 >>> ((nI 16).toInt64.toUInt64 &&& Int64.toUInt64 63)).toInt64 = ckV now fr)
section ZR2
variable {p : Program} {l : Launch} {e : Env} {R : Room} {s : State} {m : MethodId} {args : Array Value} {below : List Frame} {meth : Method} {c : Code} {H H0 : Heap} {locs : List Loc} {cells slots : Nat} {Q : State → Prop} {cc : ByteArray} {pc : Nat} {ls : Array Slot} {rest : List Value}
theorem zr_cmp_eq (hx : p.tables.exec = Jvm.exec) (hb : c.code = cc) {x y : Int64} {off : Int} {tgt : Nat} (hdg : decode cc pc = .ok (.ifCond .eq off, 3)) (ht : (pc : Int) + off = (tgt : Int)) (kt : x = y → W p l e R s m args below meth c H locs cells slots Q (F0 m tgt ls rest)) (kf : ¬ x = y → W p l e R s m args below meth c H locs cells slots Q (F0 m (pc + 3) ls rest)) : W p l e R s m args below meth c H locs cells slots Q (F0 m pc ls (.int (lg_cmp x y) :: rest)) :=
  lv_if_eq hx hb hdg ht (fun q => kt ((lg_cmp_eq x y).mp q)) (fun q => kf fun z => q ((lg_cmp_eq x y).mpr z))
theorem zr_cmp_ne (hx : p.tables.exec = Jvm.exec) (hb : c.code = cc) {x y : Int64} {off : Int} {tgt : Nat} (hdg : decode cc pc = .ok (.ifCond .ne off, 3)) (ht : (pc : Int) + off = (tgt : Int)) (kt : ¬ x = y → W p l e R s m args below meth c H locs cells slots Q (F0 m tgt ls rest)) (kf : x = y → W p l e R s m args below meth c H locs cells slots Q (F0 m (pc + 3) ls rest)) : W p l e R s m args below meth c H locs cells slots Q (F0 m pc ls (.int (lg_cmp x y) :: rest)) :=
  lv_if_ne hx hb hdg ht (fun q => kt fun z => q ((lg_cmp_eq x y).mpr z)) (fun q => kf ((lg_cmp_eq x y).mp q))
end ZR2
end
section
set_option maxHeartbeats 4000000 in
set_option maxRecDepth 100000 in
theorem c_X0_byteOf (l : Launch) (dC : Nat → ClassId) (dI : Nat → Nat → Nat) (sz : Nat) (a0 : Nat) (cJ : ClassId) (nn : Nat) (f : Nat → Int64) (fr k : Nat) (hn : nn < 2 ^ 31) (hk : k < 2 ^ 31) (hf : fr + k / 8 < nn) : Met l yX0_byteOf wsX0_byteOf ({ frames := 0, cells := 0, slots := 0, locals := 0 }) (va_Pc [.ref a0, .int (nI fr), .int (nI k)] (fun U => U.heap.size = sz ∧ va_P (dC, dI) vwCl [(a0, .inl (cJ, nn, .inr (.inl f)))] U.heap ∧ va_K (dC, dI) vwCl [(cJ, .long)] U ∧ va_D (fun _ => True) [(a0, .inl (cJ, nn, .inr (.inl f)))])) (va_Qi (fun (r : Int32) (_ : Unit) => r = nI (byF f fr k)) (fun (_ : Unit) t => va_P (dC, dI) vwCl [(a0, .inl (cJ, nn, .inr (.inl f)))] t.heap ∧ va_K (dC, dI) vwCl [(cJ, .long)] t ∧ va_D (va_A [(a0, .inl (cJ, nn, .inr (.inl f)))] sz) [(a0, .inl (cJ, nn, .inr (.inl f)))]) (va_A [(a0, .inl (cJ, nn, .inr (.inl f)))] sz)) 0 0 (va_A [(a0, .inl (cJ, nn, .inr (.inl f)))] sz) := by
  refine Met.ofW (cc := cX0_byteOf) (maxL := 3) (ret := some .int) (by decide) rfl ?_
  intro p e s m args below meth c s₁ B hml hv
  obtain ⟨rfl, hsz, hP, hK, hD0⟩ := hv
  have hx := B.exec
  have hb := B.bytes
  have hr := B.returns
  have hts := atoms_spec (ws := wsX0_byteOf) B.pre
  have hown : s.vm.findClass RX0 = some m.cls := findClass_of_methodNamed B.named
  have hlocks := B.notSynchronized
  subst hsz
  have hD := hD0.self (sz := s.heap.size)
  generalize hAe : va_A [(a0, .inl (cJ, nn, .inr (.inl f)))] s.heap.size = A at hD ⊢
  have hA : ∀ q : Nat, s.heap.size ≤ q → A q := fun q h => by rw [← hAe]; exact Or.inr h
  generalize hH : s.heap = H at hP ⊢
  have hS : va_S A s.heap H [] := by rw [hH]; exact va_S.rf
  have hP : va_P (dC, dI) vwCl [(a0, .inl (cJ, nn, .inr (.inl f)))] H := hP
  have hl := lv_entry ([.ref a0, .int (nI fr), .int (nI k)]) (n := 3) (Nat.le_of_ble_eq_true rfl)
  rw [lg_entry_eq]
  generalize (lg_sl ([.ref a0, .int (nI fr), .int (nI k)]) ++ List.replicate (3 - (lg_sl ([.ref a0, .int (nI fr), .int (nI k)])).length) Slot.unset).toArray = ls at hl ⊢
  have hl : lv_has ls 3 [(0, .ref a0), (1, .int (nI fr)), (2, .int (nI k))] := hl
  refine lv_aload_n hx hb dX0_byteOf_0 rfl (lv_at hl 0 rfl) ?_
  refine lv_iload_n hx hb dX0_byteOf_1 rfl (lv_at hl 1 rfl) ?_
  refine lv_iload_n hx hb dX0_byteOf_2 rfl (lv_at hl 2 rfl) ?_
  refine lv_bipush (v := nI 8) hx hb dX0_byteOf_3 (by decide) ?_
  refine zr_idiv hx hb (by omega) (by omega) (by omega) dX0_byteOf_5 ?_
  refine zr_iadd hx hb dX0_byteOf_6 ?_
  refine zr_lald hx hb hK hP 0 0 rfl rfl (by omega) (by omega) dX0_byteOf_7 ?_
  refine lv_iload_n hx hb dX0_byteOf_8 rfl (lv_at hl 2 rfl) ?_
  refine lv_bipush (v := nI 8) hx hb dX0_byteOf_9 (by decide) ?_
  refine zr_irem hx hb (by omega) (by omega) (by omega) dX0_byteOf_11 ?_
  refine lv_bipush (v := nI 8) hx hb dX0_byteOf_12 (by decide) ?_
  refine zr_imul hx hb dX0_byteOf_14 ?_
  refine lv_lushr hx hb dX0_byteOf_15 rfl ?_
  refine lv_l2i hx hb dX0_byteOf_16 rfl ?_
  refine lv_sipush (v := nI 255) hx hb dX0_byteOf_17 (by decide) ?_
  refine lv_iand hx hb dX0_byteOf_20 ?_
  refine zr_topi (nI (byF f fr k)) (byF_eq _ (by omega)) ?_
  have hP9 := hP.sub (ws' := [(a0, .inl (cJ, nn, .inr (.inl f)))]) [0] rfl
  have hD9 := hD.sub (ws' := [(a0, .inl (cJ, nn, .inr (.inl f)))]) [0] (by decide) rfl
  exact W.iret (v := nI (byF f fr k)) hx hb hr (fun t ht hW => ⟨⟨nI (byF f fr k), (), rfl, rfl, by rw [ht]; exact hP9, va_K.moved hW.alike hK, hD9⟩, hS.F ht⟩) hS.2.2 dX0_byteOf_21
set_option maxHeartbeats 4000000 in
set_option maxRecDepth 100000 in
theorem lp_X0_turnBytes {p : Program} {l : Launch} {e : Env} {R : Room} {s : State} {m : MethodId} {args : Array Value} {below : List Frame} {meth : Method} {c : Code} {cells slots : Nat} {Q : State → Prop} {A : Nat → Prop} {H0 : Heap} {dC : Nat → ClassId} {dI : Nat → Nat → Nat} (a0 : Nat) (cJ : ClassId) (nn : Nat) (f : Nat → Int64) (fr pl : Nat) (mk : Int64) (n0 : Nat) (hn : nn < 2 ^ 31) (h8 : n0 ≤ 8) (hp : pl + n0 < 2 ^ 31) (hf : ∀ i, i < n0 → fr + (pl + i) / 8 < nn) (hx : p.tables.exec = Jvm.exec) (hb : c.code = cX0_turnBytes) (hml : c.maxLocals = 8) (hown : s.vm.findClass RX0 = some m.cls) (hts : ∀ w ∈ wsX0_turnBytes, w.before args s = true) (hA : ∀ q : Nat, H0.size ≤ q → A q) (hK : va_K (dC, dI) vwCl [(cJ, .long)] s) (kk : ∀  (H : Heap) (locs : List Loc) (ls : Array Slot), va_P (dC, dI) vwCl [(a0, .inl (cJ, nn, .inr (.inl (tF f fr pl mk n0))))] H → va_D A [(a0, .inl (cJ, nn, .inr (.inl (tF f fr pl mk n0))))] → va_S A H0 H locs → lv_has ls 8 [(0, .ref a0), (1, .int (nI fr)), (2, .int (nI pl)), (3, .long mk), (5, .int (nI n0)), (6, .int (nI n0))] → W p l e R s m args below meth c H locs cells slots Q (F0 m 54 ls [])) : ∀ (n : Nat) (i : Nat), n0 + 1 ≤ i + n → i ≤ n0 → ∀ (H : Heap) (locs : List Loc) (ls : Array Slot), va_P (dC, dI) vwCl [(a0, .inl (cJ, nn, .inr (.inl (tF f fr pl mk i))))] H → va_D A [(a0, .inl (cJ, nn, .inr (.inl (tF f fr pl mk i))))] → va_S A H0 H locs → lv_has ls 8 [(0, .ref a0), (1, .int (nI fr)), (2, .int (nI pl)), (3, .long mk), (5, .int (nI n0)), (6, .int (nI i))] → W p l e R s m args below meth c H locs cells slots Q (F0 m 3 ls []) := by
  intro n
  induction n with
  | zero => intro i  hm hi; exact absurd hm (by omega)
  | succ n ih =>
    intro i  hm hi H locs ls hP hD hS hl
    refine lv_iload hx hb dX0_turnBytes_3 (lv_at hl 5 rfl) ?_
    refine lv_iload hx hb dX0_turnBytes_5 (lv_at hl 4 rfl) ?_
    refine zr_icmp_ge (tgt := 54) hx hb (by omega) (by omega) dX0_turnBytes_7 (by decide) (fun c7 => ?_) (fun c7 => ?_)
    · obtain rfl : n0 = i := by omega
      exact kk  H locs ls (hP.sub [0] rfl) (hD.sub [0] (by decide) rfl) hS (lv_sub hl [0, 1, 2, 3, 4, 5] rfl)
    · refine lv_iload_n hx hb dX0_turnBytes_10 rfl (lv_at hl 2 rfl) ?_
      refine lv_iload hx hb dX0_turnBytes_11 (lv_at hl 5 rfl) ?_
      refine zr_iadd hx hb dX0_turnBytes_13 ?_
      refine lv_istore (lv' := [(7, .int (nI (pl + i))), (0, .ref a0), (1, .int (nI fr)), (2, .int (nI pl)), (3, .long mk), (5, .int (nI n0)), (6, .int (nI i))]) hx hb dX0_turnBytes_14 hl (by decide) rfl (fun ls hl => ?_)
      refine lv_aload_n hx hb dX0_turnBytes_16 rfl (lv_at hl 1 rfl) ?_
      refine lv_iload_n hx hb dX0_turnBytes_17 rfl (lv_at hl 2 rfl) ?_
      refine lv_iload hx hb dX0_turnBytes_18 (lv_at hl 0 rfl) ?_
      refine lv_bipush (v := nI 8) hx hb dX0_turnBytes_20 (by decide) ?_
      refine zr_idiv hx hb (by omega) (by omega) (by omega) dX0_turnBytes_22 ?_
      refine zr_iadd hx hb dX0_turnBytes_23 ?_
      refine lv_dup2_11 hx hb dX0_turnBytes_24 rfl rfl ?_
      refine zr_lald hx hb hK hP 0 0 rfl rfl (hf i (by omega)) (by omega) dX0_turnBytes_25 ?_
      refine lv_lload_n hx hb dX0_turnBytes_26 rfl (lv_at hl 4 rfl) ?_
      refine lv_iload hx hb dX0_turnBytes_27 (lv_at hl 6 rfl) ?_
      refine lv_bipush (v := nI 8) hx hb dX0_turnBytes_29 (by decide) ?_
      refine zr_imul hx hb dX0_turnBytes_31 ?_
      refine lv_lushr hx hb dX0_turnBytes_32 rfl ?_
      refine lv_ldc2 hx hb hown (hts (.constantLong RX0 175 (255)) (by decide +kernel)) dX0_turnBytes_33 ?_
      refine lv_land hx hb dX0_turnBytes_36 ?_
      refine lv_iload hx hb dX0_turnBytes_37 (lv_at hl 0 rfl) ?_
      refine lv_bipush (v := nI 8) hx hb dX0_turnBytes_39 (by decide) ?_
      refine zr_irem hx hb (by omega) (by omega) (by omega) dX0_turnBytes_41 ?_
      refine lv_bipush (v := nI 8) hx hb dX0_turnBytes_42 (by decide) ?_
      refine zr_imul hx hb dX0_turnBytes_44 ?_
      refine lv_lshl hx hb dX0_turnBytes_45 rfl ?_
      refine lv_lxor hx hb dX0_turnBytes_46 ?_
      refine zr_last hx hb hK hP hD hS 0 0 rfl rfl (hf i (by omega)) (by omega) dX0_turnBytes_47 (fun H locs hP hD hS => ?_)
      have hP : va_P (dC, dI) vwCl [(a0, .inl (cJ, nn, .inr (.inl (va_up (tF f fr pl mk i) (fr + ((pl + i) / 8)) (((tF f fr pl mk i) (fr + ((pl + i) / 8))) ^^^ ((((mk.toUInt64 >>> ((nI (i * 8)).toInt64.toUInt64 &&& Int64.toUInt64 63)).toInt64) &&& 255) <<< ((nI (((pl + i) % 8) * 8)).toInt64 &&& 63)))))))] H := hP
      have hD : va_D A [(a0, .inl (cJ, nn, .inr (.inl (va_up (tF f fr pl mk i) (fr + ((pl + i) / 8)) (((tF f fr pl mk i) (fr + ((pl + i) / 8))) ^^^ ((((mk.toUInt64 >>> ((nI (i * 8)).toInt64.toUInt64 &&& Int64.toUInt64 63)).toInt64) &&& 255) <<< ((nI (((pl + i) % 8) * 8)).toInt64 &&& 63)))))))] := hD
      refine lv_iinc (v := nI (i + 1)) (lv' := [(6, .int (nI (i + 1))), (7, .int (nI (pl + i))), (0, .ref a0), (1, .int (nI fr)), (2, .int (nI pl)), (3, .long mk), (5, .int (nI n0))]) hx hb dX0_turnBytes_48 hl (k := 6) rfl (nI_add (i) 1) (by decide) rfl (fun ls hl => ?_)
      refine lv_goto (tgt := 3) hx hb dX0_turnBytes_51 (by decide) ?_
      exact ih (i + 1) (by omega) (by omega) H locs ls (hP.sub [0] rfl) (hD.sub [0] (by decide) rfl) hS (lv_sub hl [2, 3, 4, 5, 6, 0] rfl)
set_option maxHeartbeats 4000000 in
set_option maxRecDepth 100000 in
theorem c_X0_turnBytes (l : Launch) (dC : Nat → ClassId) (dI : Nat → Nat → Nat) (sz : Nat) (a0 : Nat) (cJ : ClassId) (nn : Nat) (f : Nat → Int64) (fr pl : Nat) (mk : Int64) (n0 : Nat) (hn : nn < 2 ^ 31) (h8 : n0 ≤ 8) (hp : pl + n0 < 2 ^ 31) (hf : ∀ i, i < n0 → fr + (pl + i) / 8 < nn) : Met l yX0_turnBytes wsX0_turnBytes ({ frames := 0, cells := 0, slots := 0, locals := 0 }) (va_Pc [.ref a0, .int (nI fr), .int (nI pl), .long mk, .int (nI n0)] (fun U => U.heap.size = sz ∧ va_P (dC, dI) vwCl [(a0, .inl (cJ, nn, .inr (.inl f)))] U.heap ∧ va_K (dC, dI) vwCl [(cJ, .long)] U ∧ va_D (fun _ => True) [(a0, .inl (cJ, nn, .inr (.inl f)))])) (va_Qv (fun (_ : Unit) => True) (fun (_ : Unit) t => va_P (dC, dI) vwCl [(a0, .inl (cJ, nn, .inr (.inl (tF f fr pl mk n0))))] t.heap ∧ va_K (dC, dI) vwCl [(cJ, .long)] t ∧ va_D (va_A [(a0, .inl (cJ, nn, .inr (.inl f)))] sz) [(a0, .inl (cJ, nn, .inr (.inl (tF f fr pl mk n0))))]) (va_A [(a0, .inl (cJ, nn, .inr (.inl f)))] sz)) 0 0 (va_A [(a0, .inl (cJ, nn, .inr (.inl f)))] sz) := by
  refine Met.ofW (cc := cX0_turnBytes) (maxL := 8) (ret := none) (by decide) rfl ?_
  intro p e s m args below meth c s₁ B hml hv
  obtain ⟨rfl, hsz, hP, hK, hD0⟩ := hv
  have hx := B.exec
  have hb := B.bytes
  have hr := B.returns
  have hts := atoms_spec (ws := wsX0_turnBytes) B.pre
  have hown : s.vm.findClass RX0 = some m.cls := findClass_of_methodNamed B.named
  have hlocks := B.notSynchronized
  subst hsz
  have hD := hD0.self (sz := s.heap.size)
  generalize hAe : va_A [(a0, .inl (cJ, nn, .inr (.inl f)))] s.heap.size = A at hD ⊢
  have hA : ∀ q : Nat, s.heap.size ≤ q → A q := fun q h => by rw [← hAe]; exact Or.inr h
  generalize hH : s.heap = H at hP ⊢
  have hS : va_S A s.heap H [] := by rw [hH]; exact va_S.rf
  have hP : va_P (dC, dI) vwCl [(a0, .inl (cJ, nn, .inr (.inl f)))] H := hP
  have hl := lv_entry ([.ref a0, .int (nI fr), .int (nI pl), .long mk, .int (nI n0)]) (n := 8) (Nat.le_of_ble_eq_true rfl)
  rw [lg_entry_eq]
  generalize (lg_sl ([.ref a0, .int (nI fr), .int (nI pl), .long mk, .int (nI n0)]) ++ List.replicate (8 - (lg_sl ([.ref a0, .int (nI fr), .int (nI pl), .long mk, .int (nI n0)])).length) Slot.unset).toArray = ls at hl ⊢
  have hl : lv_has ls 8 [(0, .ref a0), (1, .int (nI fr)), (2, .int (nI pl)), (3, .long mk), (5, .int (nI n0))] := hl
  refine lv_iconst (v := nI 0) hx hb dX0_turnBytes_0 (by decide) ?_
  refine lv_istore (lv' := [(6, .int (nI 0)), (0, .ref a0), (1, .int (nI fr)), (2, .int (nI pl)), (3, .long mk), (5, .int (nI n0))]) hx hb dX0_turnBytes_1 hl (by decide) rfl (fun ls hl => ?_)
  refine lp_X0_turnBytes a0 cJ nn f fr pl mk n0 hn h8 hp hf hx hb hml hown hts hA hK (fun  H locs ls hP hD hS hl => ?_) (n0 + 1) 0 (by omega) (by omega) _ _ _ (hP.sub [0] rfl) (hD.sub [0] (by decide) rfl) hS (lv_sub hl [1, 2, 3, 4, 5, 0] rfl)
  have hP9 := hP.sub (ws' := [(a0, .inl (cJ, nn, .inr (.inl (tF f fr pl mk n0))))]) [0] rfl
  have hD9 := hD.sub (ws' := [(a0, .inl (cJ, nn, .inr (.inl (tF f fr pl mk n0))))]) [0] (by decide) rfl
  exact W.vret hx hb hr (fun t ht hW => ⟨⟨(), rfl, trivial, by rw [ht]; exact hP9, va_K.moved hW.alike hK, hD9⟩, hS.F ht⟩) hS.2.2 dX0_turnBytes_54
set_option maxHeartbeats 4000000 in
set_option maxRecDepth 100000 in
theorem lp_J7_fill_d0a16 {p : Program} {l : Launch} {e : Env} {R : Room} {s : State} {m : MethodId} {args : Array Value} {below : List Frame} {meth : Method} {c : Code} {cells slots : Nat} {Q : State → Prop} {A : Nat → Prop} {H0 : Heap} {dC : Nat → ClassId} {dI : Nat → Nat → Nat} (a0 : Nat) (cJ : ClassId) (nn : Nat) (f : Nat → Int64) (v : Int64) (hn : nn < 2 ^ 31) (hx : p.tables.exec = Jvm.exec) (hb : c.code = cJ7_fill_d0a16) (hml : c.maxLocals = 5) (hown : s.vm.findClass RJ7 = some m.cls) (hts : ∀ w ∈ wsJ7_fill_d0a16, w.before args s = true) (hA : ∀ q : Nat, H0.size ≤ q → A q) (hK : va_K (dC, dI) vwCl [(cJ, .long)] s) (kk : ∀  (H : Heap) (locs : List Loc) (ls : Array Slot), va_P (dC, dI) vwCl [(a0, .inl (cJ, nn, .inr (.inl (flF f v nn))))] H → va_D A [(a0, .inl (cJ, nn, .inr (.inl (flF f v nn))))] → va_S A H0 H locs → lv_has ls 5 [(0, .ref a0), (1, .long v), (4, .int (nI nn)), (3, .int (nI nn))] → W p l e R s m args below meth c H locs cells slots Q (F0 m 22 ls [])) : ∀ (n : Nat) (i : Nat), nn + 1 ≤ i + n → i ≤ nn → ∀ (H : Heap) (locs : List Loc) (ls : Array Slot), va_P (dC, dI) vwCl [(a0, .inl (cJ, nn, .inr (.inl (flF f v i))))] H → va_D A [(a0, .inl (cJ, nn, .inr (.inl (flF f v i))))] → va_S A H0 H locs → lv_has ls 5 [(0, .ref a0), (1, .long v), (4, .int (nI nn)), (3, .int (nI i))] → W p l e R s m args below meth c H locs cells slots Q (F0 m 6 ls []) := by
  intro n
  induction n with
  | zero => intro i  hm hi; exact absurd hm (by omega)
  | succ n ih =>
    intro i  hm hi H locs ls hP hD hS hl
    refine lv_iload_n hx hb dJ7_fill_d0a16_6 rfl (lv_at hl 3 rfl) ?_
    refine lv_iload hx hb dJ7_fill_d0a16_7 (lv_at hl 2 rfl) ?_
    refine zr_icmp_ge (tgt := 22) hx hb (by omega) (by omega) dJ7_fill_d0a16_9 (by decide) (fun c9 => ?_) (fun c9 => ?_)
    · obtain rfl : nn = i := by omega
      exact kk  H locs ls (hP.sub [0] rfl) (hD.sub [0] (by decide) rfl) hS (lv_sub hl [0, 1, 2, 3] rfl)
    · refine lv_aload_n hx hb dJ7_fill_d0a16_12 rfl (lv_at hl 0 rfl) ?_
      refine lv_iload_n hx hb dJ7_fill_d0a16_13 rfl (lv_at hl 3 rfl) ?_
      refine lv_lload_n hx hb dJ7_fill_d0a16_14 rfl (lv_at hl 1 rfl) ?_
      refine zr_last hx hb hK hP hD hS 0 0 rfl rfl (by omega) (by omega) dJ7_fill_d0a16_15 (fun H locs hP hD hS => ?_)
      have hP : va_P (dC, dI) vwCl [(a0, .inl (cJ, nn, .inr (.inl (va_up (flF f v i) i v))))] H := hP
      have hD : va_D A [(a0, .inl (cJ, nn, .inr (.inl (va_up (flF f v i) i v))))] := hD
      refine lv_iinc (v := nI (i + 1)) (lv' := [(3, .int (nI (i + 1))), (0, .ref a0), (1, .long v), (4, .int (nI nn))]) hx hb dJ7_fill_d0a16_16 hl (k := 3) rfl (nI_add (i) 1) (by decide) rfl (fun ls hl => ?_)
      refine lv_goto (tgt := 6) hx hb dJ7_fill_d0a16_19 (by decide) ?_
      exact ih (i + 1) (by omega) (by omega) H locs ls (hP.sub [0] rfl) (hD.sub [0] (by decide) rfl) hS (lv_sub hl [1, 2, 3, 0] rfl)
set_option maxHeartbeats 4000000 in
set_option maxRecDepth 100000 in
theorem c_J7_fill_d0a16 (l : Launch) (dC : Nat → ClassId) (dI : Nat → Nat → Nat) (sz : Nat) (a0 : Nat) (cJ : ClassId) (nn : Nat) (f : Nat → Int64) (v : Int64) (hn : nn < 2 ^ 31) : Met l yJ7_fill_d0a16 wsJ7_fill_d0a16 ({ frames := 0, cells := 0, slots := 0, locals := 0 }) (va_Pc [.ref a0, .long v] (fun U => U.heap.size = sz ∧ va_P (dC, dI) vwCl [(a0, .inl (cJ, nn, .inr (.inl f)))] U.heap ∧ va_K (dC, dI) vwCl [(cJ, .long)] U ∧ va_D (fun _ => True) [(a0, .inl (cJ, nn, .inr (.inl f)))])) (va_Qv (fun (_ : Unit) => True) (fun (_ : Unit) t => va_P (dC, dI) vwCl [(a0, .inl (cJ, nn, .inr (.inl (flF f v nn))))] t.heap ∧ va_K (dC, dI) vwCl [(cJ, .long)] t ∧ va_D (va_A [(a0, .inl (cJ, nn, .inr (.inl f)))] sz) [(a0, .inl (cJ, nn, .inr (.inl (flF f v nn))))]) (va_A [(a0, .inl (cJ, nn, .inr (.inl f)))] sz)) 0 0 (va_A [(a0, .inl (cJ, nn, .inr (.inl f)))] sz) := by
  refine Met.ofW (cc := cJ7_fill_d0a16) (maxL := 5) (ret := none) (by decide) rfl ?_
  intro p e s m args below meth c s₁ B hml hv
  obtain ⟨rfl, hsz, hP, hK, hD0⟩ := hv
  have hx := B.exec
  have hb := B.bytes
  have hr := B.returns
  have hts := atoms_spec (ws := wsJ7_fill_d0a16) B.pre
  have hown : s.vm.findClass RJ7 = some m.cls := findClass_of_methodNamed B.named
  have hlocks := B.notSynchronized
  subst hsz
  have hD := hD0.self (sz := s.heap.size)
  generalize hAe : va_A [(a0, .inl (cJ, nn, .inr (.inl f)))] s.heap.size = A at hD ⊢
  have hA : ∀ q : Nat, s.heap.size ≤ q → A q := fun q h => by rw [← hAe]; exact Or.inr h
  generalize hH : s.heap = H at hP ⊢
  have hS : va_S A s.heap H [] := by rw [hH]; exact va_S.rf
  have hP : va_P (dC, dI) vwCl [(a0, .inl (cJ, nn, .inr (.inl f)))] H := hP
  have hl := lv_entry ([.ref a0, .long v]) (n := 5) (Nat.le_of_ble_eq_true rfl)
  rw [lg_entry_eq]
  generalize (lg_sl ([.ref a0, .long v]) ++ List.replicate (5 - (lg_sl ([.ref a0, .long v])).length) Slot.unset).toArray = ls at hl ⊢
  have hl : lv_has ls 5 [(0, .ref a0), (1, .long v)] := hl
  refine lv_iconst (v := nI 0) hx hb dJ7_fill_d0a16_0 (by decide) ?_
  refine lv_istore_n (lv' := [(3, .int (nI 0)), (0, .ref a0), (1, .long v)]) hx hb dJ7_fill_d0a16_1 rfl hl (by decide) rfl (fun ls hl => ?_)
  refine lv_aload_n hx hb dJ7_fill_d0a16_2 rfl (lv_at hl 1 rfl) ?_
  refine va_alen (v := nI nn) hx hb hK hP 0 0 rfl rfl rfl dJ7_fill_d0a16_3 ?_
  refine lv_istore (lv' := [(4, .int (nI nn)), (3, .int (nI 0)), (0, .ref a0), (1, .long v)]) hx hb dJ7_fill_d0a16_4 hl (by decide) rfl (fun ls hl => ?_)
  refine lp_J7_fill_d0a16 a0 cJ nn f v hn hx hb hml hown hts hA hK (fun  H locs ls hP hD hS hl => ?_) (nn + 1) 0 (by omega) (by omega) _ _ _ (hP.sub [0] rfl) (hD.sub [0] (by decide) rfl) hS (lv_sub hl [2, 3, 0, 1] rfl)
  have hP9 := hP.sub (ws' := [(a0, .inl (cJ, nn, .inr (.inl (flF f v nn))))]) [0] rfl
  have hD9 := hD.sub (ws' := [(a0, .inl (cJ, nn, .inr (.inl (flF f v nn))))]) [0] (by decide) rfl
  exact W.vret hx hb hr (fun t ht hW => ⟨⟨(), rfl, trivial, by rw [ht]; exact hP9, va_K.moved hW.alike hK, hD9⟩, hS.F ht⟩) hS.2.2 dJ7_fill_d0a16_22
set_option maxHeartbeats 4000000 in
set_option maxRecDepth 100000 in
theorem lp_J7_fill_53178 {p : Program} {l : Launch} {e : Env} {R : Room} {s : State} {m : MethodId} {args : Array Value} {below : List Frame} {meth : Method} {c : Code} {cells slots : Nat} {Q : State → Prop} {A : Nat → Prop} {H0 : Heap} {dC : Nat → ClassId} {dI : Nat → Nat → Nat} (a0 : Nat) (cI : ClassId) (nn : Nat) (f : Nat → Nat) (v : Nat) (hn : nn < 2 ^ 31) (hx : p.tables.exec = Jvm.exec) (hb : c.code = cJ7_fill_53178) (hml : c.maxLocals = 4) (hown : s.vm.findClass RJ7 = some m.cls) (hts : ∀ w ∈ wsJ7_fill_53178, w.before args s = true) (hA : ∀ q : Nat, H0.size ≤ q → A q) (hK : va_K (dC, dI) vwCl [(cI, .int)] s) (kk : ∀  (H : Heap) (locs : List Loc) (ls : Array Slot), va_P (dC, dI) vwCl [(a0, .inl (cI, nn, .inl (fun i9 => nI ((flF f v nn) i9))))] H → va_D A [(a0, .inl (cI, nn, .inl (fun i9 => nI ((flF f v nn) i9))))] → va_S A H0 H locs → lv_has ls 4 [(0, .ref a0), (1, .int (nI v)), (3, .int (nI nn)), (2, .int (nI nn))] → W p l e R s m args below meth c H locs cells slots Q (F0 m 20 ls [])) : ∀ (n : Nat) (i : Nat), nn + 1 ≤ i + n → i ≤ nn → ∀ (H : Heap) (locs : List Loc) (ls : Array Slot), va_P (dC, dI) vwCl [(a0, .inl (cI, nn, .inl (fun i9 => nI ((flF f v i) i9))))] H → va_D A [(a0, .inl (cI, nn, .inl (fun i9 => nI ((flF f v i) i9))))] → va_S A H0 H locs → lv_has ls 4 [(0, .ref a0), (1, .int (nI v)), (3, .int (nI nn)), (2, .int (nI i))] → W p l e R s m args below meth c H locs cells slots Q (F0 m 5 ls []) := by
  intro n
  induction n with
  | zero => intro i  hm hi; exact absurd hm (by omega)
  | succ n ih =>
    intro i  hm hi H locs ls hP hD hS hl
    refine lv_iload_n hx hb dJ7_fill_53178_5 rfl (lv_at hl 3 rfl) ?_
    refine lv_iload_n hx hb dJ7_fill_53178_6 rfl (lv_at hl 2 rfl) ?_
    refine zr_icmp_ge (tgt := 20) hx hb (by omega) (by omega) dJ7_fill_53178_7 (by decide) (fun c7 => ?_) (fun c7 => ?_)
    · obtain rfl : nn = i := by omega
      exact kk  H locs ls (hP.sub [0] rfl) (hD.sub [0] (by decide) rfl) hS (lv_sub hl [0, 1, 2, 3] rfl)
    · refine lv_aload_n hx hb dJ7_fill_53178_10 rfl (lv_at hl 0 rfl) ?_
      refine lv_iload_n hx hb dJ7_fill_53178_11 rfl (lv_at hl 3 rfl) ?_
      refine lv_iload_n hx hb dJ7_fill_53178_12 rfl (lv_at hl 1 rfl) ?_
      refine zr_nast hx hb hK hP hD hS 0 0 rfl rfl (by omega) (by omega) dJ7_fill_53178_13 (fun H locs hP hD hS => ?_)
      have hP : va_P (dC, dI) vwCl [(a0, .inl (cI, nn, .inl (fun i9 => nI ((va_up (flF f v i) i v) i9))))] H := hP
      have hD : va_D A [(a0, .inl (cI, nn, .inl (fun i9 => nI ((va_up (flF f v i) i v) i9))))] := hD
      refine lv_iinc (v := nI (i + 1)) (lv' := [(2, .int (nI (i + 1))), (0, .ref a0), (1, .int (nI v)), (3, .int (nI nn))]) hx hb dJ7_fill_53178_14 hl (k := 3) rfl (nI_add (i) 1) (by decide) rfl (fun ls hl => ?_)
      refine lv_goto (tgt := 5) hx hb dJ7_fill_53178_17 (by decide) ?_
      exact ih (i + 1) (by omega) (by omega) H locs ls (hP.sub [0] rfl) (hD.sub [0] (by decide) rfl) hS (lv_sub hl [1, 2, 3, 0] rfl)
set_option maxHeartbeats 4000000 in
set_option maxRecDepth 100000 in
theorem c_J7_fill_53178 (l : Launch) (dC : Nat → ClassId) (dI : Nat → Nat → Nat) (sz : Nat) (a0 : Nat) (cI : ClassId) (nn : Nat) (f : Nat → Nat) (v : Nat) (hn : nn < 2 ^ 31) : Met l yJ7_fill_53178 wsJ7_fill_53178 ({ frames := 0, cells := 0, slots := 0, locals := 0 }) (va_Pc [.ref a0, .int (nI v)] (fun U => U.heap.size = sz ∧ va_P (dC, dI) vwCl [(a0, .inl (cI, nn, .inl (fun i9 => nI (f i9))))] U.heap ∧ va_K (dC, dI) vwCl [(cI, .int)] U ∧ va_D (fun _ => True) [(a0, .inl (cI, nn, .inl (fun i9 => nI (f i9))))])) (va_Qv (fun (_ : Unit) => True) (fun (_ : Unit) t => va_P (dC, dI) vwCl [(a0, .inl (cI, nn, .inl (fun i9 => nI ((flF f v nn) i9))))] t.heap ∧ va_K (dC, dI) vwCl [(cI, .int)] t ∧ va_D (va_A [(a0, .inl (cI, nn, .inl (fun i9 => nI (f i9))))] sz) [(a0, .inl (cI, nn, .inl (fun i9 => nI ((flF f v nn) i9))))]) (va_A [(a0, .inl (cI, nn, .inl (fun i9 => nI (f i9))))] sz)) 0 0 (va_A [(a0, .inl (cI, nn, .inl (fun i9 => nI (f i9))))] sz) := by
  refine Met.ofW (cc := cJ7_fill_53178) (maxL := 4) (ret := none) (by decide) rfl ?_
  intro p e s m args below meth c s₁ B hml hv
  obtain ⟨rfl, hsz, hP, hK, hD0⟩ := hv
  have hx := B.exec
  have hb := B.bytes
  have hr := B.returns
  have hts := atoms_spec (ws := wsJ7_fill_53178) B.pre
  have hown : s.vm.findClass RJ7 = some m.cls := findClass_of_methodNamed B.named
  have hlocks := B.notSynchronized
  subst hsz
  have hD := hD0.self (sz := s.heap.size)
  generalize hAe : va_A [(a0, .inl (cI, nn, .inl (fun i9 => nI (f i9))))] s.heap.size = A at hD ⊢
  have hA : ∀ q : Nat, s.heap.size ≤ q → A q := fun q h => by rw [← hAe]; exact Or.inr h
  generalize hH : s.heap = H at hP ⊢
  have hS : va_S A s.heap H [] := by rw [hH]; exact va_S.rf
  have hP : va_P (dC, dI) vwCl [(a0, .inl (cI, nn, .inl (fun i9 => nI (f i9))))] H := hP
  have hl := lv_entry ([.ref a0, .int (nI v)]) (n := 4) (Nat.le_of_ble_eq_true rfl)
  rw [lg_entry_eq]
  generalize (lg_sl ([.ref a0, .int (nI v)]) ++ List.replicate (4 - (lg_sl ([.ref a0, .int (nI v)])).length) Slot.unset).toArray = ls at hl ⊢
  have hl : lv_has ls 4 [(0, .ref a0), (1, .int (nI v))] := hl
  refine lv_iconst (v := nI 0) hx hb dJ7_fill_53178_0 (by decide) ?_
  refine lv_istore_n (lv' := [(2, .int (nI 0)), (0, .ref a0), (1, .int (nI v))]) hx hb dJ7_fill_53178_1 rfl hl (by decide) rfl (fun ls hl => ?_)
  refine lv_aload_n hx hb dJ7_fill_53178_2 rfl (lv_at hl 1 rfl) ?_
  refine va_alen (v := nI nn) hx hb hK hP 0 0 rfl rfl rfl dJ7_fill_53178_3 ?_
  refine lv_istore_n (lv' := [(3, .int (nI nn)), (2, .int (nI 0)), (0, .ref a0), (1, .int (nI v))]) hx hb dJ7_fill_53178_4 rfl hl (by decide) rfl (fun ls hl => ?_)
  refine lp_J7_fill_53178 a0 cI nn f v hn hx hb hml hown hts hA hK (fun  H locs ls hP hD hS hl => ?_) (nn + 1) 0 (by omega) (by omega) _ _ _ (hP.sub [0] rfl) (hD.sub [0] (by decide) rfl) hS (lv_sub hl [2, 3, 0, 1] rfl)
  have hP9 := hP.sub (ws' := [(a0, .inl (cI, nn, .inl (fun i9 => nI ((flF f v nn) i9))))]) [0] rfl
  have hD9 := hD.sub (ws' := [(a0, .inl (cI, nn, .inl (fun i9 => nI ((flF f v nn) i9))))]) [0] (by decide) rfl
  exact W.vret hx hb hr (fun t ht hW => ⟨⟨(), rfl, trivial, by rw [ht]; exact hP9, va_K.moved hW.alike hK, hD9⟩, hS.F ht⟩) hS.2.2 dJ7_fill_53178_20
set_option maxHeartbeats 4000000 in
set_option maxRecDepth 100000 in
theorem c_X0_isLive (l : Launch) (dC : Nat → ClassId) (dI : Nat → Nat → Nat) (sz : Nat) (h0 aN aL aK aC aT aO : Nat) (ld tb ob : Nat) (off : Bool) (wl : Int32) (wd : Int64) (cI : ClassId) (kd : Nat → Nat) (di : Nat) (hd : di < 16) (hk : kdOK kd) : Met l yX0_isLive wsX0_isLive ({ frames := 1, cells := 0, slots := 0, locals := 21 }) (va_Pc [.ref h0, .int (nI di)] (fun U => U.heap.size = sz ∧ va_P (dC, dI) vwCl [(h0, .inr (0, [.ref aN, .ref aL, .ref aK, .ref aC, .int (nI ld), .ref aT, .int (nI tb), .ref aO, .int (nI ob), .int (bI off), .int wl, .long wd])), (aK, .inl (cI, 1056, .inl (fun i9 => nI (kd i9))))] U.heap ∧ va_K (dC, dI) vwCl [(cI, .int)] U ∧ va_D (fun _ => True) [(h0, .inr (0, [.ref aN, .ref aL, .ref aK, .ref aC, .int (nI ld), .ref aT, .int (nI tb), .ref aO, .int (nI ob), .int (bI off), .int wl, .long wd])), (aK, .inl (cI, 1056, .inl (fun i9 => nI (kd i9))))])) (va_Qi (fun (r : Int32) (_ : Unit) => r = bI (!decide (kd (di * 66) = 0))) (fun (_ : Unit) t => va_P (dC, dI) vwCl [(h0, .inr (0, [.ref aN, .ref aL, .ref aK, .ref aC, .int (nI ld), .ref aT, .int (nI tb), .ref aO, .int (nI ob), .int (bI off), .int wl, .long wd])), (aK, .inl (cI, 1056, .inl (fun i9 => nI (kd i9))))] t.heap ∧ va_K (dC, dI) vwCl [(cI, .int)] t ∧ va_D (va_A [(h0, .inr (0, [.ref aN, .ref aL, .ref aK, .ref aC, .int (nI ld), .ref aT, .int (nI tb), .ref aO, .int (nI ob), .int (bI off), .int wl, .long wd])), (aK, .inl (cI, 1056, .inl (fun i9 => nI (kd i9))))] sz) [(h0, .inr (0, [.ref aN, .ref aL, .ref aK, .ref aC, .int (nI ld), .ref aT, .int (nI tb), .ref aO, .int (nI ob), .int (bI off), .int wl, .long wd])), (aK, .inl (cI, 1056, .inl (fun i9 => nI (kd i9))))]) (va_A [(h0, .inr (0, [.ref aN, .ref aL, .ref aK, .ref aC, .int (nI ld), .ref aT, .int (nI tb), .ref aO, .int (nI ob), .int (bI off), .int wl, .long wd])), (aK, .inl (cI, 1056, .inl (fun i9 => nI (kd i9))))] sz)) 0 0 (va_A [(h0, .inr (0, [.ref aN, .ref aL, .ref aK, .ref aC, .int (nI ld), .ref aT, .int (nI tb), .ref aO, .int (nI ob), .int (bI off), .int wl, .long wd])), (aK, .inl (cI, 1056, .inl (fun i9 => nI (kd i9))))] sz) := by
  refine Met.ofW (cc := cX0_isLive) (maxL := 2) (ret := some .boolean) (by decide) rfl ?_
  intro p e s m args below meth c s₁ B hml hv
  obtain ⟨rfl, hsz, hP, hK, hD0⟩ := hv
  have hx := B.exec
  have hb := B.bytes
  have hr := B.returns
  have hts := atoms_spec (ws := wsX0_isLive) B.pre
  have hown : s.vm.findClass RX0 = some m.cls := findClass_of_methodNamed B.named
  have hlocks := B.notSynchronized
  subst hsz
  have hD := hD0.self (sz := s.heap.size)
  generalize hAe : va_A [(h0, .inr (0, [.ref aN, .ref aL, .ref aK, .ref aC, .int (nI ld), .ref aT, .int (nI tb), .ref aO, .int (nI ob), .int (bI off), .int wl, .long wd])), (aK, .inl (cI, 1056, .inl (fun i9 => nI (kd i9))))] s.heap.size = A at hD ⊢
  have hA : ∀ q : Nat, s.heap.size ≤ q → A q := fun q h => by rw [← hAe]; exact Or.inr h
  generalize hH : s.heap = H at hP ⊢
  have hS : va_S A s.heap H [] := by rw [hH]; exact va_S.rf
  have hP : va_P (dC, dI) vwCl [(h0, .inr (0, [.ref aN, .ref aL, .ref aK, .ref aC, .int (nI ld), .ref aT, .int (nI tb), .ref aO, .int (nI ob), .int (bI off), .int wl, .long wd])), (aK, .inl (cI, 1056, .inl (fun i9 => nI (kd i9))))] H := hP
  have hl := lv_entry ([.ref h0, .int (nI di)]) (n := 2) (Nat.le_of_ble_eq_true rfl)
  rw [lg_entry_eq]
  generalize (lg_sl ([.ref h0, .int (nI di)]) ++ List.replicate (2 - (lg_sl ([.ref h0, .int (nI di)])).length) Slot.unset).toArray = ls at hl ⊢
  have hl : lv_has ls 2 [(0, .ref h0), (1, .int (nI di))] := hl
  have hi0 : ∀ w ∈ u_ws RX0 TX0 12, w ∈ wsX0_isLive := by decide +kernel
  refine lv_aload_n hx hb dX0_isLive_0 rfl (lv_at hl 0 rfl) ?_
  refine va_get (D := (dC, dI)) (ci := 0) (v := .ref aK) (C := RX0) (T := TX0) (N := 12) hx hb hts hi0 hown hK hP 0 rfl rfl 2 (by decide) (hts (.fieldLink RX0 16 "CellRack" "kinds" "[I") (by decide +kernel)) (fun _ h9 => h9) rfl dX0_isLive_1 ?_
  refine lv_iload_n hx hb dX0_isLive_4 rfl (lv_at hl 1 rfl) ?_
  refine lv_iconst (v := nI 0) hx hb dX0_isLive_5 (by decide) ?_
  have hPc := hP.sub (ws' := []) [] rfl
  have hDc := hD.sub (ws' := []) [] (by decide) rfl
  have hKc := hK.sub (tys' := []) [] rfl
  have hFc := va_free (wc := []) hD hS hA [] rfl
  refine va_calli (va_runS (As := [.int (nI di), .int (nI 0)]) (rest := [.ref aK]) ⟨hx, hb, hml, hown, hts⟩ (c_X0_spotOf l dC dI H.size di 0) (va_cwS 2 hts gX0_isLive_X0_spotOf rfl rfl rfl (by decide +kernel) ⟨Nat.le_of_ble_eq_true rfl, Nat.le_of_ble_eq_true rfl⟩) ⟨fun a U g mk q => by obtain ⟨q0, q1, qP, qK, qD⟩ := q; exact ⟨q0, q1, qP, va_K.moved (u := U) (U := U.calling g mk a) (Vm.Alike.refl U.vm) qK, qD⟩, fun U hU hW => ⟨rfl, by rw [hU], by rw [hU]; exact hPc, va_K.moved hW.alike hKc, hDc.weaken (fun _ _ _ _ => trivial)⟩⟩ rfl rfl hl.1 rfl (lv_room (Nat.le_of_ble_eq_true rfl)) dX0_isLive_6 ⟨Nat.zero_le _, Nat.zero_le _⟩) hS (fun q _ h => hFc q h) hFc (fun r_1 u t H1 locs ht hvm hw hB hz1 hk1 hS => ?_)
  obtain ⟨hP1, hK1, hD1⟩ := hB
  rw [ht] at hP1
  obtain ⟨hP, hD⟩ := va_join (wr := [(h0, .inr (0, [.ref aN, .ref aL, .ref aK, .ref aC, .int (nI ld), .ref aT, .int (nI tb), .ref aO, .int (nI ob), .int (bI off), .int wl, .long wd])), (aK, .inl (cI, 1056, .inl (fun i9 => nI (kd i9))))]) (w1 := []) hP hD [] [0, 1] rfl rfl (by decide) (by decide) hk1 hFc hP1 hD1
  clear hP1 hD1 hK1 hPc hDc hKc hFc hk1 hz1 hvm ht
  generalize H1 = H at hP hS ⊢
  have hP : va_P (dC, dI) vwCl [(h0, .inr (0, [.ref aN, .ref aL, .ref aK, .ref aC, .int (nI ld), .ref aT, .int (nI tb), .ref aO, .int (nI ob), .int (bI off), .int wl, .long wd])), (aK, .inl (cI, 1056, .inl (fun i9 => nI (kd i9))))] H := hP
  have hD : va_D A [(h0, .inr (0, [.ref aN, .ref aL, .ref aK, .ref aC, .int (nI ld), .ref aT, .int (nI tb), .ref aO, .int (nI ob), .int (bI off), .int wl, .long wd])), (aK, .inl (cI, 1056, .inl (fun i9 => nI (kd i9))))] := hD
  refine W.widen (k := 0) (n := 0) (Nat.le_refl _) (Nat.le_refl _) ?_
  obtain rfl := hw
  refine zr_nald hx hb hK hP 1 0 rfl rfl (by omega) (by omega) dX0_isLive_9 ?_
  refine zr_ifn_eq (tgt := 17) hx hb (Nat.lt_trans (hk _) (by decide)) dX0_isLive_10 (by decide) (fun c10 => ?_) (fun c10 => ?_)
  · refine lv_iconst (v := nI 0) hx hb dX0_isLive_17 (by decide) ?_
    refine zr_topi (bI (!decide (kd (di * 66) = 0))) (by rw [decide_eq_true (show kd (di * 66) = 0 from c10)]; rfl) ?_
    have hP9 := hP.sub (ws' := [(h0, .inr (0, [.ref aN, .ref aL, .ref aK, .ref aC, .int (nI ld), .ref aT, .int (nI tb), .ref aO, .int (nI ob), .int (bI off), .int wl, .long wd])), (aK, .inl (cI, 1056, .inl (fun i9 => nI (kd i9))))]) [0, 1] rfl
    have hD9 := hD.sub (ws' := [(h0, .inr (0, [.ref aN, .ref aL, .ref aK, .ref aC, .int (nI ld), .ref aT, .int (nI tb), .ref aO, .int (nI ob), .int (bI off), .int wl, .long wd])), (aK, .inl (cI, 1056, .inl (fun i9 => nI (kd i9))))]) [0, 1] (by decide) rfl
    exact W.zret (v := bI (!decide (kd (di * 66) = 0))) hx hb hr (zr_nar_b _) (fun t ht hW => ⟨⟨bI (!decide (kd (di * 66) = 0)), (), rfl, rfl, by rw [ht]; exact hP9, va_K.moved hW.alike hK, hD9⟩, hS.F ht⟩) hS.2.2 dX0_isLive_18
  · refine lv_iconst (v := nI 1) hx hb dX0_isLive_13 (by decide) ?_
    refine lv_goto (tgt := 18) hx hb dX0_isLive_14 (by decide) ?_
    refine zr_topi (bI (!decide (kd (di * 66) = 0))) (by rw [decide_eq_false (show ¬ kd (di * 66) = 0 from c10)]; rfl) ?_
    have hP9 := hP.sub (ws' := [(h0, .inr (0, [.ref aN, .ref aL, .ref aK, .ref aC, .int (nI ld), .ref aT, .int (nI tb), .ref aO, .int (nI ob), .int (bI off), .int wl, .long wd])), (aK, .inl (cI, 1056, .inl (fun i9 => nI (kd i9))))]) [0, 1] rfl
    have hD9 := hD.sub (ws' := [(h0, .inr (0, [.ref aN, .ref aL, .ref aK, .ref aC, .int (nI ld), .ref aT, .int (nI tb), .ref aO, .int (nI ob), .int (bI off), .int wl, .long wd])), (aK, .inl (cI, 1056, .inl (fun i9 => nI (kd i9))))]) [0, 1] (by decide) rfl
    exact W.zret (v := bI (!decide (kd (di * 66) = 0))) hx hb hr (zr_nar_b _) (fun t ht hW => ⟨⟨bI (!decide (kd (di * 66) = 0)), (), rfl, rfl, by rw [ht]; exact hP9, va_K.moved hW.alike hK, hD9⟩, hS.F ht⟩) hS.2.2 dX0_isLive_18
set_option maxHeartbeats 4000000 in
set_option maxRecDepth 100000 in
theorem c_X0_hasBytes (l : Launch) (dC : Nat → ClassId) (dI : Nat → Nat → Nat) (sz : Nat) (h0 aN aL aK aC aT aO : Nat) (ld tb ob : Nat) (off : Bool) (wl : Int32) (wd : Int64) (cI : ClassId) (kd : Nat → Nat) (sp : Nat) (hs : sp < 1056) (hk : kdOK kd) : Met l yX0_hasBytes wsX0_hasBytes ({ frames := 0, cells := 0, slots := 0, locals := 0 }) (va_Pc [.ref h0, .int (nI sp)] (fun U => U.heap.size = sz ∧ va_P (dC, dI) vwCl [(h0, .inr (0, [.ref aN, .ref aL, .ref aK, .ref aC, .int (nI ld), .ref aT, .int (nI tb), .ref aO, .int (nI ob), .int (bI off), .int wl, .long wd])), (aK, .inl (cI, 1056, .inl (fun i9 => nI (kd i9))))] U.heap ∧ va_K (dC, dI) vwCl [(cI, .int)] U ∧ va_D (fun _ => True) [(h0, .inr (0, [.ref aN, .ref aL, .ref aK, .ref aC, .int (nI ld), .ref aT, .int (nI tb), .ref aO, .int (nI ob), .int (bI off), .int wl, .long wd])), (aK, .inl (cI, 1056, .inl (fun i9 => nI (kd i9))))])) (va_Qi (fun (r : Int32) (_ : Unit) => r = bI (decide (kd sp = 2) || decide (kd sp = 3))) (fun (_ : Unit) t => va_P (dC, dI) vwCl [(h0, .inr (0, [.ref aN, .ref aL, .ref aK, .ref aC, .int (nI ld), .ref aT, .int (nI tb), .ref aO, .int (nI ob), .int (bI off), .int wl, .long wd])), (aK, .inl (cI, 1056, .inl (fun i9 => nI (kd i9))))] t.heap ∧ va_K (dC, dI) vwCl [(cI, .int)] t ∧ va_D (va_A [(h0, .inr (0, [.ref aN, .ref aL, .ref aK, .ref aC, .int (nI ld), .ref aT, .int (nI tb), .ref aO, .int (nI ob), .int (bI off), .int wl, .long wd])), (aK, .inl (cI, 1056, .inl (fun i9 => nI (kd i9))))] sz) [(h0, .inr (0, [.ref aN, .ref aL, .ref aK, .ref aC, .int (nI ld), .ref aT, .int (nI tb), .ref aO, .int (nI ob), .int (bI off), .int wl, .long wd])), (aK, .inl (cI, 1056, .inl (fun i9 => nI (kd i9))))]) (va_A [(h0, .inr (0, [.ref aN, .ref aL, .ref aK, .ref aC, .int (nI ld), .ref aT, .int (nI tb), .ref aO, .int (nI ob), .int (bI off), .int wl, .long wd])), (aK, .inl (cI, 1056, .inl (fun i9 => nI (kd i9))))] sz)) 0 0 (va_A [(h0, .inr (0, [.ref aN, .ref aL, .ref aK, .ref aC, .int (nI ld), .ref aT, .int (nI tb), .ref aO, .int (nI ob), .int (bI off), .int wl, .long wd])), (aK, .inl (cI, 1056, .inl (fun i9 => nI (kd i9))))] sz) := by
  refine Met.ofW (cc := cX0_hasBytes) (maxL := 2) (ret := some .boolean) (by decide) rfl ?_
  intro p e s m args below meth c s₁ B hml hv
  obtain ⟨rfl, hsz, hP, hK, hD0⟩ := hv
  have hx := B.exec
  have hb := B.bytes
  have hr := B.returns
  have hts := atoms_spec (ws := wsX0_hasBytes) B.pre
  have hown : s.vm.findClass RX0 = some m.cls := findClass_of_methodNamed B.named
  have hlocks := B.notSynchronized
  subst hsz
  have hD := hD0.self (sz := s.heap.size)
  generalize hAe : va_A [(h0, .inr (0, [.ref aN, .ref aL, .ref aK, .ref aC, .int (nI ld), .ref aT, .int (nI tb), .ref aO, .int (nI ob), .int (bI off), .int wl, .long wd])), (aK, .inl (cI, 1056, .inl (fun i9 => nI (kd i9))))] s.heap.size = A at hD ⊢
  have hA : ∀ q : Nat, s.heap.size ≤ q → A q := fun q h => by rw [← hAe]; exact Or.inr h
  generalize hH : s.heap = H at hP ⊢
  have hS : va_S A s.heap H [] := by rw [hH]; exact va_S.rf
  have hP : va_P (dC, dI) vwCl [(h0, .inr (0, [.ref aN, .ref aL, .ref aK, .ref aC, .int (nI ld), .ref aT, .int (nI tb), .ref aO, .int (nI ob), .int (bI off), .int wl, .long wd])), (aK, .inl (cI, 1056, .inl (fun i9 => nI (kd i9))))] H := hP
  have hl := lv_entry ([.ref h0, .int (nI sp)]) (n := 2) (Nat.le_of_ble_eq_true rfl)
  rw [lg_entry_eq]
  generalize (lg_sl ([.ref h0, .int (nI sp)]) ++ List.replicate (2 - (lg_sl ([.ref h0, .int (nI sp)])).length) Slot.unset).toArray = ls at hl ⊢
  have hl : lv_has ls 2 [(0, .ref h0), (1, .int (nI sp))] := hl
  have hi0 : ∀ w ∈ u_ws RX0 TX0 12, w ∈ wsX0_hasBytes := by decide +kernel
  refine lv_aload_n hx hb dX0_hasBytes_0 rfl (lv_at hl 0 rfl) ?_
  refine va_get (D := (dC, dI)) (ci := 0) (v := .ref aK) (C := RX0) (T := TX0) (N := 12) hx hb hts hi0 hown hK hP 0 rfl rfl 2 (by decide) (hts (.fieldLink RX0 16 "CellRack" "kinds" "[I") (by decide +kernel)) (fun _ h9 => h9) rfl dX0_hasBytes_1 ?_
  refine lv_iload_n hx hb dX0_hasBytes_4 rfl (lv_at hl 1 rfl) ?_
  refine zr_nald hx hb hK hP 1 0 rfl rfl (by omega) (by omega) dX0_hasBytes_5 ?_
  refine lv_iconst (v := nI 2) hx hb dX0_hasBytes_6 (by decide) ?_
  refine zr_icmp_eq (tgt := 20) hx hb (Nat.lt_trans (hk _) (by decide)) (by omega) dX0_hasBytes_7 (by decide) (fun c7 => ?_) (fun c7 => ?_)
  · refine lv_iconst (v := nI 1) hx hb dX0_hasBytes_20 (by decide) ?_
    refine lv_goto (tgt := 25) hx hb dX0_hasBytes_21 (by decide) ?_
    refine zr_topi (bI (decide (kd sp = 2) || decide (kd sp = 3))) (by first | rw [decide_eq_true c7]; rfl | rw [decide_eq_true c17, Bool.or_true]; rfl) ?_
    have hP9 := hP.sub (ws' := [(h0, .inr (0, [.ref aN, .ref aL, .ref aK, .ref aC, .int (nI ld), .ref aT, .int (nI tb), .ref aO, .int (nI ob), .int (bI off), .int wl, .long wd])), (aK, .inl (cI, 1056, .inl (fun i9 => nI (kd i9))))]) [0, 1] rfl
    have hD9 := hD.sub (ws' := [(h0, .inr (0, [.ref aN, .ref aL, .ref aK, .ref aC, .int (nI ld), .ref aT, .int (nI tb), .ref aO, .int (nI ob), .int (bI off), .int wl, .long wd])), (aK, .inl (cI, 1056, .inl (fun i9 => nI (kd i9))))]) [0, 1] (by decide) rfl
    exact W.zret (v := bI (decide (kd sp = 2) || decide (kd sp = 3))) hx hb hr (zr_nar_b _) (fun t ht hW => ⟨⟨bI (decide (kd sp = 2) || decide (kd sp = 3)), (), rfl, rfl, by rw [ht]; exact hP9, va_K.moved hW.alike hK, hD9⟩, hS.F ht⟩) hS.2.2 dX0_hasBytes_25
  · refine lv_aload_n hx hb dX0_hasBytes_10 rfl (lv_at hl 0 rfl) ?_
    refine va_get (D := (dC, dI)) (ci := 0) (v := .ref aK) (C := RX0) (T := TX0) (N := 12) hx hb hts hi0 hown hK hP 0 rfl rfl 2 (by decide) (hts (.fieldLink RX0 16 "CellRack" "kinds" "[I") (by decide +kernel)) (fun _ h9 => h9) rfl dX0_hasBytes_11 ?_
    refine lv_iload_n hx hb dX0_hasBytes_14 rfl (lv_at hl 1 rfl) ?_
    refine zr_nald hx hb hK hP 1 0 rfl rfl (by omega) (by omega) dX0_hasBytes_15 ?_
    refine lv_iconst (v := nI 3) hx hb dX0_hasBytes_16 (by decide) ?_
    refine zr_icmp_ne (tgt := 24) hx hb (Nat.lt_trans (hk _) (by decide)) (by omega) dX0_hasBytes_17 (by decide) (fun c17 => ?_) (fun c17 => ?_)
    · refine lv_iconst (v := nI 0) hx hb dX0_hasBytes_24 (by decide) ?_
      refine zr_topi (bI (decide (kd sp = 2) || decide (kd sp = 3))) (by rw [decide_eq_false c7, decide_eq_false c17]; rfl) ?_
      have hP9 := hP.sub (ws' := [(h0, .inr (0, [.ref aN, .ref aL, .ref aK, .ref aC, .int (nI ld), .ref aT, .int (nI tb), .ref aO, .int (nI ob), .int (bI off), .int wl, .long wd])), (aK, .inl (cI, 1056, .inl (fun i9 => nI (kd i9))))]) [0, 1] rfl
      have hD9 := hD.sub (ws' := [(h0, .inr (0, [.ref aN, .ref aL, .ref aK, .ref aC, .int (nI ld), .ref aT, .int (nI tb), .ref aO, .int (nI ob), .int (bI off), .int wl, .long wd])), (aK, .inl (cI, 1056, .inl (fun i9 => nI (kd i9))))]) [0, 1] (by decide) rfl
      exact W.zret (v := bI (decide (kd sp = 2) || decide (kd sp = 3))) hx hb hr (zr_nar_b _) (fun t ht hW => ⟨⟨bI (decide (kd sp = 2) || decide (kd sp = 3)), (), rfl, rfl, by rw [ht]; exact hP9, va_K.moved hW.alike hK, hD9⟩, hS.F ht⟩) hS.2.2 dX0_hasBytes_25
    · refine lv_iconst (v := nI 1) hx hb dX0_hasBytes_20 (by decide) ?_
      refine lv_goto (tgt := 25) hx hb dX0_hasBytes_21 (by decide) ?_
      refine zr_topi (bI (decide (kd sp = 2) || decide (kd sp = 3))) (by first | rw [decide_eq_true c7]; rfl | rw [decide_eq_true c17, Bool.or_true]; rfl) ?_
      have hP9 := hP.sub (ws' := [(h0, .inr (0, [.ref aN, .ref aL, .ref aK, .ref aC, .int (nI ld), .ref aT, .int (nI tb), .ref aO, .int (nI ob), .int (bI off), .int wl, .long wd])), (aK, .inl (cI, 1056, .inl (fun i9 => nI (kd i9))))]) [0, 1] rfl
      have hD9 := hD.sub (ws' := [(h0, .inr (0, [.ref aN, .ref aL, .ref aK, .ref aC, .int (nI ld), .ref aT, .int (nI tb), .ref aO, .int (nI ob), .int (bI off), .int wl, .long wd])), (aK, .inl (cI, 1056, .inl (fun i9 => nI (kd i9))))]) [0, 1] (by decide) rfl
      exact W.zret (v := bI (decide (kd sp = 2) || decide (kd sp = 3))) hx hb hr (zr_nar_b _) (fun t ht hW => ⟨⟨bI (decide (kd sp = 2) || decide (kd sp = 3)), (), rfl, rfl, by rw [ht]; exact hP9, va_K.moved hW.alike hK, hD9⟩, hS.F ht⟩) hS.2.2 dX0_hasBytes_25
set_option maxHeartbeats 4000000 in
set_option maxRecDepth 100000 in
theorem c_X0_setKind (l : Launch) (dC : Nat → ClassId) (dI : Nat → Nat → Nat) (sz : Nat) (h0 aN aL aK aC aT aO : Nat) (ld tb ob : Nat) (off : Bool) (wl : Int32) (wd : Int64) (cI : ClassId) (kd cn : Nat → Nat) (sp k : Nat) (hs : sp < 1056) (h4 : k < 4) (hk : kdOK kd) (hc : 1 ≤ cn (kd sp)) : Met l yX0_setKind wsX0_setKind ({ frames := 0, cells := 0, slots := 0, locals := 0 }) (va_Pc [.ref h0, .int (nI sp), .int (nI k)] (fun U => U.heap.size = sz ∧ va_P (dC, dI) vwCl [(h0, .inr (0, [.ref aN, .ref aL, .ref aK, .ref aC, .int (nI ld), .ref aT, .int (nI tb), .ref aO, .int (nI ob), .int (bI off), .int wl, .long wd])), (aK, .inl (cI, 1056, .inl (fun i9 => nI (kd i9)))), (aC, .inl (cI, 4, .inl (fun i9 => nI (cn i9))))] U.heap ∧ va_K (dC, dI) vwCl [(cI, .int)] U ∧ va_D (fun _ => True) [(h0, .inr (0, [.ref aN, .ref aL, .ref aK, .ref aC, .int (nI ld), .ref aT, .int (nI tb), .ref aO, .int (nI ob), .int (bI off), .int wl, .long wd])), (aK, .inl (cI, 1056, .inl (fun i9 => nI (kd i9)))), (aC, .inl (cI, 4, .inl (fun i9 => nI (cn i9))))])) (va_Qv (fun (_ : Unit) => True) (fun (_ : Unit) t => va_P (dC, dI) vwCl [(h0, .inr (0, [.ref aN, .ref aL, .ref aK, .ref aC, .int (nI ld), .ref aT, .int (nI tb), .ref aO, .int (nI ob), .int (bI off), .int wl, .long wd])), (aK, .inl (cI, 1056, .inl (fun i9 => nI ((va_up kd sp k) i9)))), (aC, .inl (cI, 4, .inl (fun i9 => nI ((skC cn kd sp k) i9))))] t.heap ∧ va_K (dC, dI) vwCl [(cI, .int)] t ∧ va_D (va_A [(h0, .inr (0, [.ref aN, .ref aL, .ref aK, .ref aC, .int (nI ld), .ref aT, .int (nI tb), .ref aO, .int (nI ob), .int (bI off), .int wl, .long wd])), (aK, .inl (cI, 1056, .inl (fun i9 => nI (kd i9)))), (aC, .inl (cI, 4, .inl (fun i9 => nI (cn i9))))] sz) [(h0, .inr (0, [.ref aN, .ref aL, .ref aK, .ref aC, .int (nI ld), .ref aT, .int (nI tb), .ref aO, .int (nI ob), .int (bI off), .int wl, .long wd])), (aK, .inl (cI, 1056, .inl (fun i9 => nI ((va_up kd sp k) i9)))), (aC, .inl (cI, 4, .inl (fun i9 => nI ((skC cn kd sp k) i9))))]) (va_A [(h0, .inr (0, [.ref aN, .ref aL, .ref aK, .ref aC, .int (nI ld), .ref aT, .int (nI tb), .ref aO, .int (nI ob), .int (bI off), .int wl, .long wd])), (aK, .inl (cI, 1056, .inl (fun i9 => nI (kd i9)))), (aC, .inl (cI, 4, .inl (fun i9 => nI (cn i9))))] sz)) 0 0 (va_A [(h0, .inr (0, [.ref aN, .ref aL, .ref aK, .ref aC, .int (nI ld), .ref aT, .int (nI tb), .ref aO, .int (nI ob), .int (bI off), .int wl, .long wd])), (aK, .inl (cI, 1056, .inl (fun i9 => nI (kd i9)))), (aC, .inl (cI, 4, .inl (fun i9 => nI (cn i9))))] sz) := by
  refine Met.ofW (cc := cX0_setKind) (maxL := 3) (ret := none) (by decide) rfl ?_
  intro p e s m args below meth c s₁ B hml hv
  obtain ⟨rfl, hsz, hP, hK, hD0⟩ := hv
  have hx := B.exec
  have hb := B.bytes
  have hr := B.returns
  have hts := atoms_spec (ws := wsX0_setKind) B.pre
  have hown : s.vm.findClass RX0 = some m.cls := findClass_of_methodNamed B.named
  have hlocks := B.notSynchronized
  subst hsz
  have hD := hD0.self (sz := s.heap.size)
  generalize hAe : va_A [(h0, .inr (0, [.ref aN, .ref aL, .ref aK, .ref aC, .int (nI ld), .ref aT, .int (nI tb), .ref aO, .int (nI ob), .int (bI off), .int wl, .long wd])), (aK, .inl (cI, 1056, .inl (fun i9 => nI (kd i9)))), (aC, .inl (cI, 4, .inl (fun i9 => nI (cn i9))))] s.heap.size = A at hD ⊢
  have hA : ∀ q : Nat, s.heap.size ≤ q → A q := fun q h => by rw [← hAe]; exact Or.inr h
  generalize hH : s.heap = H at hP ⊢
  have hS : va_S A s.heap H [] := by rw [hH]; exact va_S.rf
  have hP : va_P (dC, dI) vwCl [(h0, .inr (0, [.ref aN, .ref aL, .ref aK, .ref aC, .int (nI ld), .ref aT, .int (nI tb), .ref aO, .int (nI ob), .int (bI off), .int wl, .long wd])), (aK, .inl (cI, 1056, .inl (fun i9 => nI (kd i9)))), (aC, .inl (cI, 4, .inl (fun i9 => nI (cn i9))))] H := hP
  have hl := lv_entry ([.ref h0, .int (nI sp), .int (nI k)]) (n := 3) (Nat.le_of_ble_eq_true rfl)
  rw [lg_entry_eq]
  generalize (lg_sl ([.ref h0, .int (nI sp), .int (nI k)]) ++ List.replicate (3 - (lg_sl ([.ref h0, .int (nI sp), .int (nI k)])).length) Slot.unset).toArray = ls at hl ⊢
  have hl : lv_has ls 3 [(0, .ref h0), (1, .int (nI sp)), (2, .int (nI k))] := hl
  have hi0 : ∀ w ∈ u_ws RX0 TX0 12, w ∈ wsX0_setKind := by decide +kernel
  refine lv_aload_n hx hb dX0_setKind_0 rfl (lv_at hl 0 rfl) ?_
  refine va_get (D := (dC, dI)) (ci := 0) (v := .ref aC) (C := RX0) (T := TX0) (N := 12) hx hb hts hi0 hown hK hP 0 rfl rfl 3 (by decide) (hts (.fieldLink RX0 26 "CellRack" "cellsOfKind" "[I") (by decide +kernel)) (fun _ h9 => h9) rfl dX0_setKind_1 ?_
  refine lv_aload_n hx hb dX0_setKind_4 rfl (lv_at hl 0 rfl) ?_
  refine va_get (D := (dC, dI)) (ci := 0) (v := .ref aK) (C := RX0) (T := TX0) (N := 12) hx hb hts hi0 hown hK hP 0 rfl rfl 2 (by decide) (hts (.fieldLink RX0 16 "CellRack" "kinds" "[I") (by decide +kernel)) (fun _ h9 => h9) rfl dX0_setKind_5 ?_
  refine lv_iload_n hx hb dX0_setKind_8 rfl (lv_at hl 1 rfl) ?_
  refine zr_nald hx hb hK hP 1 0 rfl rfl (by omega) (by omega) dX0_setKind_9 ?_
  refine lv_dup2_11 hx hb dX0_setKind_10 rfl rfl ?_
  refine zr_nald hx hb hK hP 2 0 rfl rfl (hk _) (by omega) dX0_setKind_11 ?_
  refine lv_iconst (v := nI 1) hx hb dX0_setKind_12 (by decide) ?_
  refine zr_isub hx hb (by omega) dX0_setKind_13 ?_
  refine zr_nast hx hb hK hP hD hS 2 0 rfl rfl (hk _) (by omega) dX0_setKind_14 (fun H locs hP hD hS => ?_)
  have hP : va_P (dC, dI) vwCl [(h0, .inr (0, [.ref aN, .ref aL, .ref aK, .ref aC, .int (nI ld), .ref aT, .int (nI tb), .ref aO, .int (nI ob), .int (bI off), .int wl, .long wd])), (aK, .inl (cI, 1056, .inl (fun i9 => nI (kd i9)))), (aC, .inl (cI, 4, .inl (fun i9 => nI ((va_up cn (kd sp) ((cn (kd sp)) - 1)) i9))))] H := hP
  have hD : va_D A [(h0, .inr (0, [.ref aN, .ref aL, .ref aK, .ref aC, .int (nI ld), .ref aT, .int (nI tb), .ref aO, .int (nI ob), .int (bI off), .int wl, .long wd])), (aK, .inl (cI, 1056, .inl (fun i9 => nI (kd i9)))), (aC, .inl (cI, 4, .inl (fun i9 => nI ((va_up cn (kd sp) ((cn (kd sp)) - 1)) i9))))] := hD
  refine lv_aload_n hx hb dX0_setKind_15 rfl (lv_at hl 0 rfl) ?_
  refine va_get (D := (dC, dI)) (ci := 0) (v := .ref aK) (C := RX0) (T := TX0) (N := 12) hx hb hts hi0 hown hK hP 0 rfl rfl 2 (by decide) (hts (.fieldLink RX0 16 "CellRack" "kinds" "[I") (by decide +kernel)) (fun _ h9 => h9) rfl dX0_setKind_16 ?_
  refine lv_iload_n hx hb dX0_setKind_19 rfl (lv_at hl 1 rfl) ?_
  refine lv_iload_n hx hb dX0_setKind_20 rfl (lv_at hl 2 rfl) ?_
  refine zr_nast hx hb hK hP hD hS 1 0 rfl rfl (by omega) (by omega) dX0_setKind_21 (fun H locs hP hD hS => ?_)
  have hP : va_P (dC, dI) vwCl [(h0, .inr (0, [.ref aN, .ref aL, .ref aK, .ref aC, .int (nI ld), .ref aT, .int (nI tb), .ref aO, .int (nI ob), .int (bI off), .int wl, .long wd])), (aK, .inl (cI, 1056, .inl (fun i9 => nI ((va_up kd sp k) i9)))), (aC, .inl (cI, 4, .inl (fun i9 => nI ((va_up cn (kd sp) ((cn (kd sp)) - 1)) i9))))] H := hP
  have hD : va_D A [(h0, .inr (0, [.ref aN, .ref aL, .ref aK, .ref aC, .int (nI ld), .ref aT, .int (nI tb), .ref aO, .int (nI ob), .int (bI off), .int wl, .long wd])), (aK, .inl (cI, 1056, .inl (fun i9 => nI ((va_up kd sp k) i9)))), (aC, .inl (cI, 4, .inl (fun i9 => nI ((va_up cn (kd sp) ((cn (kd sp)) - 1)) i9))))] := hD
  refine lv_aload_n hx hb dX0_setKind_22 rfl (lv_at hl 0 rfl) ?_
  refine va_get (D := (dC, dI)) (ci := 0) (v := .ref aC) (C := RX0) (T := TX0) (N := 12) hx hb hts hi0 hown hK hP 0 rfl rfl 3 (by decide) (hts (.fieldLink RX0 26 "CellRack" "cellsOfKind" "[I") (by decide +kernel)) (fun _ h9 => h9) rfl dX0_setKind_23 ?_
  refine lv_iload_n hx hb dX0_setKind_26 rfl (lv_at hl 2 rfl) ?_
  refine lv_dup2_11 hx hb dX0_setKind_27 rfl rfl ?_
  refine zr_nald hx hb hK hP 2 0 rfl rfl (by omega) (by omega) dX0_setKind_28 ?_
  refine lv_iconst (v := nI 1) hx hb dX0_setKind_29 (by decide) ?_
  refine zr_iadd hx hb dX0_setKind_30 ?_
  refine zr_nast hx hb hK hP hD hS 2 0 rfl rfl (by omega) (by omega) dX0_setKind_31 (fun H locs hP hD hS => ?_)
  have hP : va_P (dC, dI) vwCl [(h0, .inr (0, [.ref aN, .ref aL, .ref aK, .ref aC, .int (nI ld), .ref aT, .int (nI tb), .ref aO, .int (nI ob), .int (bI off), .int wl, .long wd])), (aK, .inl (cI, 1056, .inl (fun i9 => nI ((va_up kd sp k) i9)))), (aC, .inl (cI, 4, .inl (fun i9 => nI ((va_up (va_up cn (kd sp) ((cn (kd sp)) - 1)) k (((va_up cn (kd sp) ((cn (kd sp)) - 1)) k) + 1)) i9))))] H := hP
  have hD : va_D A [(h0, .inr (0, [.ref aN, .ref aL, .ref aK, .ref aC, .int (nI ld), .ref aT, .int (nI tb), .ref aO, .int (nI ob), .int (bI off), .int wl, .long wd])), (aK, .inl (cI, 1056, .inl (fun i9 => nI ((va_up kd sp k) i9)))), (aC, .inl (cI, 4, .inl (fun i9 => nI ((va_up (va_up cn (kd sp) ((cn (kd sp)) - 1)) k (((va_up cn (kd sp) ((cn (kd sp)) - 1)) k) + 1)) i9))))] := hD
  have hP9 := hP.sub (ws' := [(h0, .inr (0, [.ref aN, .ref aL, .ref aK, .ref aC, .int (nI ld), .ref aT, .int (nI tb), .ref aO, .int (nI ob), .int (bI off), .int wl, .long wd])), (aK, .inl (cI, 1056, .inl (fun i9 => nI ((va_up kd sp k) i9)))), (aC, .inl (cI, 4, .inl (fun i9 => nI ((skC cn kd sp k) i9))))]) [0, 1, 2] rfl
  have hD9 := hD.sub (ws' := [(h0, .inr (0, [.ref aN, .ref aL, .ref aK, .ref aC, .int (nI ld), .ref aT, .int (nI tb), .ref aO, .int (nI ob), .int (bI off), .int wl, .long wd])), (aK, .inl (cI, 1056, .inl (fun i9 => nI ((va_up kd sp k) i9)))), (aC, .inl (cI, 4, .inl (fun i9 => nI ((skC cn kd sp k) i9))))]) [0, 1, 2] (by decide) rfl
  exact W.vret hx hb hr (fun t ht hW => ⟨⟨(), rfl, trivial, by rw [ht]; exact hP9, va_K.moved hW.alike hK, hD9⟩, hS.F ht⟩) hS.2.2 dX0_setKind_32
set_option maxHeartbeats 4000000 in
set_option maxRecDepth 100000 in
theorem lp_X0_setKindOfAll {p : Program} {l : Launch} {e : Env} {R : Room} {s : State} {m : MethodId} {args : Array Value} {below : List Frame} {meth : Method} {c : Code} {cells slots : Nat} {Q : State → Prop} {A : Nat → Prop} {H0 : Heap} {dC : Nat → ClassId} {dI : Nat → Nat → Nat} (h0 aN aL aK aC aT aO : Nat) (ld tb ob : Nat) (off : Bool) (wl : Int32) (wd : Int64) (cI : ClassId) (kd cn : Nat → Nat) (di k : Nat) (hd : di < 16) (h4 : k < 4) (hk : kdOK kd) (hc : cnOK kd cn) (hx : p.tables.exec = Jvm.exec) (hb : c.code = cX0_setKindOfAll) (hml : c.maxLocals = 4) (hown : s.vm.findClass RX0 = some m.cls) (hts : ∀ w ∈ wsX0_setKindOfAll, w.before args s = true) (hA : ∀ q : Nat, H0.size ≤ q → A q) (hK : va_K (dC, dI) vwCl [(cI, .int)] s) (hRf : 1 ≤ R.frames) (hRl : 22 ≤ R.locals) (hRc : cells ≤ R.cells) (hRs : slots ≤ R.slots) (kk : ∀  (H : Heap) (locs : List Loc) (ls : Array Slot), va_P (dC, dI) vwCl [(h0, .inr (0, [.ref aN, .ref aL, .ref aK, .ref aC, .int (nI ld), .ref aT, .int (nI tb), .ref aO, .int (nI ob), .int (bI off), .int wl, .long wd])), (aK, .inl (cI, 1056, .inl (fun i9 => nI ((skK kd di k 66) i9)))), (aC, .inl (cI, 4, .inl (fun i9 => nI ((skN kd cn di k 66) i9))))] H → va_D A [(h0, .inr (0, [.ref aN, .ref aL, .ref aK, .ref aC, .int (nI ld), .ref aT, .int (nI tb), .ref aO, .int (nI ob), .int (bI off), .int wl, .long wd])), (aK, .inl (cI, 1056, .inl (fun i9 => nI ((skK kd di k 66) i9)))), (aC, .inl (cI, 4, .inl (fun i9 => nI ((skN kd cn di k 66) i9))))] → va_S A H0 H locs → lv_has ls 4 [(0, .ref h0), (1, .int (nI di)), (2, .int (nI k)), (3, .int (nI 66))] → W p l e R s m args below meth c H locs cells slots Q (F0 m 24 ls [])) : ∀ (n : Nat) (i : Nat), 66 + 1 ≤ i + n → i ≤ 66 → ∀ (H : Heap) (locs : List Loc) (ls : Array Slot), va_P (dC, dI) vwCl [(h0, .inr (0, [.ref aN, .ref aL, .ref aK, .ref aC, .int (nI ld), .ref aT, .int (nI tb), .ref aO, .int (nI ob), .int (bI off), .int wl, .long wd])), (aK, .inl (cI, 1056, .inl (fun i9 => nI ((skK kd di k i) i9)))), (aC, .inl (cI, 4, .inl (fun i9 => nI ((skN kd cn di k i) i9))))] H → va_D A [(h0, .inr (0, [.ref aN, .ref aL, .ref aK, .ref aC, .int (nI ld), .ref aT, .int (nI tb), .ref aO, .int (nI ob), .int (bI off), .int wl, .long wd])), (aK, .inl (cI, 1056, .inl (fun i9 => nI ((skK kd di k i) i9)))), (aC, .inl (cI, 4, .inl (fun i9 => nI ((skN kd cn di k i) i9))))] → va_S A H0 H locs → lv_has ls 4 [(0, .ref h0), (1, .int (nI di)), (2, .int (nI k)), (3, .int (nI i))] → W p l e R s m args below meth c H locs cells slots Q (F0 m 2 ls []) := by
  intro n
  induction n with
  | zero => intro i  hm hi; exact absurd hm (by omega)
  | succ n ih =>
    intro i  hm hi H locs ls hP hD hS hl
    refine lv_iload_n hx hb dX0_setKindOfAll_2 rfl (lv_at hl 3 rfl) ?_
    refine lv_bipush (v := nI 66) hx hb dX0_setKindOfAll_3 (by decide) ?_
    refine zr_icmp_ge (tgt := 24) hx hb (by omega) (by omega) dX0_setKindOfAll_5 (by decide) (fun c5 => ?_) (fun c5 => ?_)
    · obtain rfl : 66 = i := by omega
      exact kk  H locs ls (hP.sub [0, 1, 2] rfl) (hD.sub [0, 1, 2] (by decide) rfl) hS (lv_sub hl [0, 1, 2, 3] rfl)
    · refine lv_aload_n hx hb dX0_setKindOfAll_8 rfl (lv_at hl 0 rfl) ?_
      refine lv_iload_n hx hb dX0_setKindOfAll_9 rfl (lv_at hl 1 rfl) ?_
      refine lv_iload_n hx hb dX0_setKindOfAll_10 rfl (lv_at hl 3 rfl) ?_
      have hPc := hP.sub (ws' := []) [] rfl
      have hDc := hD.sub (ws' := []) [] (by decide) rfl
      have hKc := hK.sub (tys' := []) [] rfl
      have hFc := va_free (wc := []) hD hS hA [] rfl
      refine va_calli (va_runS (As := [.int (nI di), .int (nI i)]) (rest := [.ref h0]) ⟨hx, hb, hml, hown, hts⟩ (c_X0_spotOf l dC dI H.size di i) (va_cwS 2 hts gX0_setKindOfAll_X0_spotOf rfl rfl rfl (by decide +kernel) ⟨Nat.le_trans (by decide) hRf, Nat.le_trans (by decide) hRl⟩) ⟨fun a U g mk q => by obtain ⟨q0, q1, qP, qK, qD⟩ := q; exact ⟨q0, q1, qP, va_K.moved (u := U) (U := U.calling g mk a) (Vm.Alike.refl U.vm) qK, qD⟩, fun U hU hW => ⟨rfl, by rw [hU], by rw [hU]; exact hPc, va_K.moved hW.alike hKc, hDc.weaken (fun _ _ _ _ => trivial)⟩⟩ rfl rfl hl.1 rfl (lv_room (Nat.le_of_ble_eq_true rfl)) dX0_setKindOfAll_11 ⟨hRc, hRs⟩) hS (fun q _ h => hFc q h) hFc (fun r_1 u t H1 locs ht hvm hw hB hz1 hk1 hS => ?_)
      obtain ⟨hP1, hK1, hD1⟩ := hB
      rw [ht] at hP1
      obtain ⟨hP, hD⟩ := va_join (wr := [(h0, .inr (0, [.ref aN, .ref aL, .ref aK, .ref aC, .int (nI ld), .ref aT, .int (nI tb), .ref aO, .int (nI ob), .int (bI off), .int wl, .long wd])), (aK, .inl (cI, 1056, .inl (fun i9 => nI ((skK kd di k i) i9)))), (aC, .inl (cI, 4, .inl (fun i9 => nI ((skN kd cn di k i) i9))))]) (w1 := []) hP hD [] [0, 1, 2] rfl rfl (by decide) (by decide) hk1 hFc hP1 hD1
      clear hP1 hD1 hK1 hPc hDc hKc hFc hk1 hz1 hvm ht
      generalize H1 = H at hP hS ⊢
      have hP : va_P (dC, dI) vwCl [(h0, .inr (0, [.ref aN, .ref aL, .ref aK, .ref aC, .int (nI ld), .ref aT, .int (nI tb), .ref aO, .int (nI ob), .int (bI off), .int wl, .long wd])), (aK, .inl (cI, 1056, .inl (fun i9 => nI ((skK kd di k i) i9)))), (aC, .inl (cI, 4, .inl (fun i9 => nI ((skN kd cn di k i) i9))))] H := hP
      have hD : va_D A [(h0, .inr (0, [.ref aN, .ref aL, .ref aK, .ref aC, .int (nI ld), .ref aT, .int (nI tb), .ref aO, .int (nI ob), .int (bI off), .int wl, .long wd])), (aK, .inl (cI, 1056, .inl (fun i9 => nI ((skK kd di k i) i9)))), (aC, .inl (cI, 4, .inl (fun i9 => nI ((skN kd cn di k i) i9))))] := hD
      refine W.widen (k := cells) (n := slots) (Nat.le_refl _) (Nat.le_refl _) ?_
      obtain rfl := hw
      refine lv_iload_n hx hb dX0_setKindOfAll_14 rfl (lv_at hl 2 rfl) ?_
      have hPc := hP.sub (ws' := [(h0, .inr (0, [.ref aN, .ref aL, .ref aK, .ref aC, .int (nI ld), .ref aT, .int (nI tb), .ref aO, .int (nI ob), .int (bI off), .int wl, .long wd])), (aK, .inl (cI, 1056, .inl (fun i9 => nI ((skK kd di k i) i9)))), (aC, .inl (cI, 4, .inl (fun i9 => nI ((skN kd cn di k i) i9))))]) [0, 1, 2] rfl
      have hDc := hD.sub (ws' := [(h0, .inr (0, [.ref aN, .ref aL, .ref aK, .ref aC, .int (nI ld), .ref aT, .int (nI tb), .ref aO, .int (nI ob), .int (bI off), .int wl, .long wd])), (aK, .inl (cI, 1056, .inl (fun i9 => nI ((skK kd di k i) i9)))), (aC, .inl (cI, 4, .inl (fun i9 => nI ((skN kd cn di k i) i9))))]) [0, 1, 2] (by decide) rfl
      have hKc := hK.sub (tys' := [(cI, .int)]) [0] rfl
      have hFc := va_free (wc := [(h0, .inr (0, [.ref aN, .ref aL, .ref aK, .ref aC, .int (nI ld), .ref aT, .int (nI tb), .ref aO, .int (nI ob), .int (bI off), .int wl, .long wd])), (aK, .inl (cI, 1056, .inl (fun i9 => nI ((skK kd di k i) i9)))), (aC, .inl (cI, 4, .inl (fun i9 => nI ((skN kd cn di k i) i9))))]) hD hS hA [0, 1, 2] rfl
      refine va_callv (va_runV (As := [.int (nI (di * 66 + i)), .int (nI k)]) (rest := []) ⟨hx, hb, hml, hown, hts⟩ (c_X0_setKind l dC dI H.size h0 aN aL aK aC aT aO ld tb ob off wl wd cI (skK kd di k i) (skN kd cn di k i) (di * 66 + i) k (by omega) h4 (sk_ok hk hc hd h4 i (by omega)).1 (cnOK_pos (sk_ok hk hc hd h4 i (by omega)).2 (by omega) ((sk_ok hk hc hd h4 i (by omega)).1 _))) (cwV 2 hts gX0_setKindOfAll_X0_setKind rfl rfl rfl (by decide +kernel) ⟨Nat.le_trans (by decide) hRf, Nat.le_trans (by decide) hRl⟩) ⟨fun a U g mk q => by obtain ⟨q0, q1, qP, qK, qD⟩ := q; exact ⟨q0, q1, qP, va_K.moved (u := U) (U := U.calling g mk a) (Vm.Alike.refl U.vm) qK, qD⟩, va_recv hKc hPc (ci := 0) (q0 := 0) rfl rfl, fun U hU hW => ⟨rfl, by rw [hU], by rw [hU]; exact hPc, va_K.moved hW.alike hKc, hDc.weaken (fun _ _ _ _ => trivial)⟩⟩ rfl rfl hl.1 rfl (lv_room (Nat.le_of_ble_eq_true rfl)) dX0_setKindOfAll_15 ⟨hRc, hRs⟩) hS (fun q _ h => hFc q h) hFc (fun u t H1 locs ht hvm hw hB hz1 hk1 hS => ?_)
      obtain ⟨hP1, hK1, hD1⟩ := hB
      rw [ht] at hP1
      obtain ⟨hP, hD⟩ := va_join (wr := []) (w1 := [(h0, .inr (0, [.ref aN, .ref aL, .ref aK, .ref aC, .int (nI ld), .ref aT, .int (nI tb), .ref aO, .int (nI ob), .int (bI off), .int wl, .long wd])), (aK, .inl (cI, 1056, .inl (fun i9 => nI ((va_up (skK kd di k i) (di * 66 + i) k) i9)))), (aC, .inl (cI, 4, .inl (fun i9 => nI ((skC (skN kd cn di k i) (skK kd di k i) (di * 66 + i) k) i9))))]) hP hD [0, 1, 2] [] rfl rfl (by decide) (by decide) hk1 hFc hP1 hD1
      clear hP1 hD1 hK1 hPc hDc hKc hFc hk1 hz1 hvm ht
      generalize H1 = H at hP hS ⊢
      have hP : va_P (dC, dI) vwCl [(h0, .inr (0, [.ref aN, .ref aL, .ref aK, .ref aC, .int (nI ld), .ref aT, .int (nI tb), .ref aO, .int (nI ob), .int (bI off), .int wl, .long wd])), (aK, .inl (cI, 1056, .inl (fun i9 => nI ((va_up (skK kd di k i) (di * 66 + i) k) i9)))), (aC, .inl (cI, 4, .inl (fun i9 => nI ((skC (skN kd cn di k i) (skK kd di k i) (di * 66 + i) k) i9))))] H := hP
      have hD : va_D A [(h0, .inr (0, [.ref aN, .ref aL, .ref aK, .ref aC, .int (nI ld), .ref aT, .int (nI tb), .ref aO, .int (nI ob), .int (bI off), .int wl, .long wd])), (aK, .inl (cI, 1056, .inl (fun i9 => nI ((va_up (skK kd di k i) (di * 66 + i) k) i9)))), (aC, .inl (cI, 4, .inl (fun i9 => nI ((skC (skN kd cn di k i) (skK kd di k i) (di * 66 + i) k) i9))))] := hD
      refine W.widen (k := cells) (n := slots) (Nat.le_refl _) (Nat.le_refl _) ?_
      refine lv_iinc (v := nI (i + 1)) (lv' := [(3, .int (nI (i + 1))), (0, .ref h0), (1, .int (nI di)), (2, .int (nI k))]) hx hb dX0_setKindOfAll_18 hl (k := 3) rfl (nI_add (i) 1) (by decide) rfl (fun ls hl => ?_)
      refine lv_goto (tgt := 2) hx hb dX0_setKindOfAll_21 (by decide) ?_
      exact ih (i + 1) (by omega) (by omega) H locs ls (hP.sub [0, 1, 2] rfl) (hD.sub [0, 1, 2] (by decide) rfl) hS (lv_sub hl [1, 2, 3, 0] rfl)
set_option maxHeartbeats 4000000 in
set_option maxRecDepth 100000 in
theorem c_X0_setKindOfAll (l : Launch) (dC : Nat → ClassId) (dI : Nat → Nat → Nat) (sz : Nat) (h0 aN aL aK aC aT aO : Nat) (ld tb ob : Nat) (off : Bool) (wl : Int32) (wd : Int64) (cI : ClassId) (kd cn : Nat → Nat) (di k : Nat) (hd : di < 16) (h4 : k < 4) (hk : kdOK kd) (hc : cnOK kd cn) : Met l yX0_setKindOfAll wsX0_setKindOfAll ({ frames := 1, cells := 0, slots := 0, locals := 22 }) (va_Pc [.ref h0, .int (nI di), .int (nI k)] (fun U => U.heap.size = sz ∧ va_P (dC, dI) vwCl [(h0, .inr (0, [.ref aN, .ref aL, .ref aK, .ref aC, .int (nI ld), .ref aT, .int (nI tb), .ref aO, .int (nI ob), .int (bI off), .int wl, .long wd])), (aK, .inl (cI, 1056, .inl (fun i9 => nI (kd i9)))), (aC, .inl (cI, 4, .inl (fun i9 => nI (cn i9))))] U.heap ∧ va_K (dC, dI) vwCl [(cI, .int)] U ∧ va_D (fun _ => True) [(h0, .inr (0, [.ref aN, .ref aL, .ref aK, .ref aC, .int (nI ld), .ref aT, .int (nI tb), .ref aO, .int (nI ob), .int (bI off), .int wl, .long wd])), (aK, .inl (cI, 1056, .inl (fun i9 => nI (kd i9)))), (aC, .inl (cI, 4, .inl (fun i9 => nI (cn i9))))])) (va_Qv (fun (_ : Unit) => True) (fun (_ : Unit) t => va_P (dC, dI) vwCl [(h0, .inr (0, [.ref aN, .ref aL, .ref aK, .ref aC, .int (nI ld), .ref aT, .int (nI tb), .ref aO, .int (nI ob), .int (bI off), .int wl, .long wd])), (aK, .inl (cI, 1056, .inl (fun i9 => nI ((skK kd di k 66) i9)))), (aC, .inl (cI, 4, .inl (fun i9 => nI ((skN kd cn di k 66) i9))))] t.heap ∧ va_K (dC, dI) vwCl [(cI, .int)] t ∧ va_D (va_A [(h0, .inr (0, [.ref aN, .ref aL, .ref aK, .ref aC, .int (nI ld), .ref aT, .int (nI tb), .ref aO, .int (nI ob), .int (bI off), .int wl, .long wd])), (aK, .inl (cI, 1056, .inl (fun i9 => nI (kd i9)))), (aC, .inl (cI, 4, .inl (fun i9 => nI (cn i9))))] sz) [(h0, .inr (0, [.ref aN, .ref aL, .ref aK, .ref aC, .int (nI ld), .ref aT, .int (nI tb), .ref aO, .int (nI ob), .int (bI off), .int wl, .long wd])), (aK, .inl (cI, 1056, .inl (fun i9 => nI ((skK kd di k 66) i9)))), (aC, .inl (cI, 4, .inl (fun i9 => nI ((skN kd cn di k 66) i9))))]) (va_A [(h0, .inr (0, [.ref aN, .ref aL, .ref aK, .ref aC, .int (nI ld), .ref aT, .int (nI tb), .ref aO, .int (nI ob), .int (bI off), .int wl, .long wd])), (aK, .inl (cI, 1056, .inl (fun i9 => nI (kd i9)))), (aC, .inl (cI, 4, .inl (fun i9 => nI (cn i9))))] sz)) 0 0 (va_A [(h0, .inr (0, [.ref aN, .ref aL, .ref aK, .ref aC, .int (nI ld), .ref aT, .int (nI tb), .ref aO, .int (nI ob), .int (bI off), .int wl, .long wd])), (aK, .inl (cI, 1056, .inl (fun i9 => nI (kd i9)))), (aC, .inl (cI, 4, .inl (fun i9 => nI (cn i9))))] sz) := by
  refine Met.ofW (cc := cX0_setKindOfAll) (maxL := 4) (ret := none) (by decide) rfl ?_
  intro p e s m args below meth c s₁ B hml hv
  obtain ⟨rfl, hsz, hP, hK, hD0⟩ := hv
  have hx := B.exec
  have hb := B.bytes
  have hr := B.returns
  have hts := atoms_spec (ws := wsX0_setKindOfAll) B.pre
  have hown : s.vm.findClass RX0 = some m.cls := findClass_of_methodNamed B.named
  have hlocks := B.notSynchronized
  subst hsz
  have hD := hD0.self (sz := s.heap.size)
  generalize hAe : va_A [(h0, .inr (0, [.ref aN, .ref aL, .ref aK, .ref aC, .int (nI ld), .ref aT, .int (nI tb), .ref aO, .int (nI ob), .int (bI off), .int wl, .long wd])), (aK, .inl (cI, 1056, .inl (fun i9 => nI (kd i9)))), (aC, .inl (cI, 4, .inl (fun i9 => nI (cn i9))))] s.heap.size = A at hD ⊢
  have hA : ∀ q : Nat, s.heap.size ≤ q → A q := fun q h => by rw [← hAe]; exact Or.inr h
  generalize hH : s.heap = H at hP ⊢
  have hS : va_S A s.heap H [] := by rw [hH]; exact va_S.rf
  have hP : va_P (dC, dI) vwCl [(h0, .inr (0, [.ref aN, .ref aL, .ref aK, .ref aC, .int (nI ld), .ref aT, .int (nI tb), .ref aO, .int (nI ob), .int (bI off), .int wl, .long wd])), (aK, .inl (cI, 1056, .inl (fun i9 => nI (kd i9)))), (aC, .inl (cI, 4, .inl (fun i9 => nI (cn i9))))] H := hP
  have hl := lv_entry ([.ref h0, .int (nI di), .int (nI k)]) (n := 4) (Nat.le_of_ble_eq_true rfl)
  rw [lg_entry_eq]
  generalize (lg_sl ([.ref h0, .int (nI di), .int (nI k)]) ++ List.replicate (4 - (lg_sl ([.ref h0, .int (nI di), .int (nI k)])).length) Slot.unset).toArray = ls at hl ⊢
  have hl : lv_has ls 4 [(0, .ref h0), (1, .int (nI di)), (2, .int (nI k))] := hl
  refine lv_iconst (v := nI 0) hx hb dX0_setKindOfAll_0 (by decide) ?_
  refine lv_istore_n (lv' := [(3, .int (nI 0)), (0, .ref h0), (1, .int (nI di)), (2, .int (nI k))]) hx hb dX0_setKindOfAll_1 rfl hl (by decide) rfl (fun ls hl => ?_)
  refine lp_X0_setKindOfAll h0 aN aL aK aC aT aO ld tb ob off wl wd cI kd cn di k hd h4 hk hc hx hb hml hown hts hA hK (Nat.le_of_ble_eq_true rfl) (Nat.le_of_ble_eq_true rfl) (Nat.zero_le _) (Nat.zero_le _) (fun  H locs ls hP hD hS hl => ?_) 67 0 (by omega) (by omega) _ _ _ (hP.sub [0, 1, 2] rfl) (hD.sub [0, 1, 2] (by decide) rfl) hS (lv_sub hl [1, 2, 3, 0] rfl)
  have hP9 := hP.sub (ws' := [(h0, .inr (0, [.ref aN, .ref aL, .ref aK, .ref aC, .int (nI ld), .ref aT, .int (nI tb), .ref aO, .int (nI ob), .int (bI off), .int wl, .long wd])), (aK, .inl (cI, 1056, .inl (fun i9 => nI ((skK kd di k 66) i9)))), (aC, .inl (cI, 4, .inl (fun i9 => nI ((skN kd cn di k 66) i9))))]) [0, 1, 2] rfl
  have hD9 := hD.sub (ws' := [(h0, .inr (0, [.ref aN, .ref aL, .ref aK, .ref aC, .int (nI ld), .ref aT, .int (nI tb), .ref aO, .int (nI ob), .int (bI off), .int wl, .long wd])), (aK, .inl (cI, 1056, .inl (fun i9 => nI ((skK kd di k 66) i9)))), (aC, .inl (cI, 4, .inl (fun i9 => nI ((skN kd cn di k 66) i9))))]) [0, 1, 2] (by decide) rfl
  exact W.vret hx hb hr (fun t ht hW => ⟨⟨(), rfl, trivial, by rw [ht]; exact hP9, va_K.moved hW.alike hK, hD9⟩, hS.F ht⟩) hS.2.2 dX0_setKindOfAll_24
end
section
/-! copies over Nat; one step of the check -/
theorem zr_and1 (w : Int64) : w &&& 1 = 0 ↔ lb w 0 = false := by
  constructor
  · intro h
    have h1 : lb (w &&& 1) 0 = false := by rw [h]; exact lb_0 0
    rw [lb_and] at h1
    have h2 : lb 1 0 = true := by decide
    rw [h2, Bool.and_true] at h1
    exact h1
  · intro h
    apply lb_ext
    intro i hi
    rw [lb_and, lb_0, lb_ones 1 1 (by decide)]
    by_cases e : i = 0
    · subst e; rw [h]; rfl
    · have : ¬ i < 1 := by omega
      simp [this]
theorem ckS_t {w : Int64} (h : ¬ w &&& 1 = 0) : (w.toUInt64 >>> ((nI 1).toInt64.toUInt64 &&& Int64.toUInt64 63)).toInt64 ^^^ 2197175160 = ckS w := by
  have h1 : lb w 0 = true := by
    cases e : lb w 0
    · exact absurd ((zr_and1 w).mpr e) h
    · rfl
  unfold ckS
  rw [if_pos h1]
theorem ckS_f {w : Int64} (h : w &&& 1 = 0) : (w.toUInt64 >>> ((nI 1).toInt64.toUInt64 &&& Int64.toUInt64 63)).toInt64 = ckS w := by
  have h1 := (zr_and1 w).mp h
  unfold ckS
  rw [if_neg (by rw [h1]; decide)]
section ZR3
variable {p : Program} {l : Launch} {e : Env} {R : Room} {s : State} {m : MethodId} {args : Array Value} {below : List Frame} {meth : Method} {c : Code} {H H0 : Heap} {locs : List Loc} {cells slots : Nat} {Q : State → Prop} {cc : ByteArray} {pc : Nat} {ls : Array Slot} {rest : List Value} {A : Nat → Prop} {D : va_G} {cl : List vw_C} {tys : List (ClassId × FieldType)} {ws : va_W} {a : Nat}
theorem zr_copyl (hx : p.tables.exec = Jvm.exec) (hb : c.code = cc) (hml : c.maxLocals = ls.size) {own : String} {index : Nat} (hown : s.vm.findClass own = some m.cls) (hlink : (Cond.methodLink own index arraycopyName).before args s = true) (hnat : (Cond.native arraycopyName).before args s = true) (hstat : (Cond.static arraycopyName).before args s = true) (hini : (Cond.initialized "java/lang/System").before args s = true)
    (hK : va_K D cl tys s) (hP : va_P D cl ws H) (hD : va_D A ws) (hS : va_S A H0 H locs) (q0 q1 t0 : Nat) {a0 : Nat} {c0 : ClassId} {n0 n1 : Nat} {f g : Nat → Int64} (ha0 : ws[q0]? = some (a0, .inl (c0, n0, .inr (.inl f)))) (ha1 : ws[q1]? = some (a, .inl (c0, n1, .inr (.inl g)))) (ht0 : tys[t0]? = some (c0, .long))
    {sp dp n : Nat} (h4 : sp + n ≤ n0) (h5 : dp + n ≤ n1) (h6 : n0 < 2 ^ 31) (h7 : n1 < 2 ^ 31)
    (hframes : 1 ≤ R.frames) (hlocals : (rest.map fun v => v.category).sum + (nativeFrameWords "java/lang/System" "arraycopy" 5 + 11) ≤ R.locals) (hdg : decode cc pc = .ok (.invokestatic index, 3))
    (kk : ∀ (H1 : Heap) (locs1 : List Loc), va_P D cl (ws.set q1 (a, .inl (c0, n1, .inr (.inl (va_cpy f g sp dp n))))) H1 → va_D A (ws.set q1 (a, .inl (c0, n1, .inr (.inl (va_cpy f g sp dp n))))) → va_S A H0 H1 locs1 → W p l e R s m args below meth c H1 locs1 cells slots Q (F0 m (pc + 3) ls rest)) : W p l e R s m args below meth c H locs cells slots Q (F0 m pc ls (.int (nI n) :: .int (nI dp) :: .ref a :: .int (nI sp) :: .ref a0 :: rest)) := by
  have e1 := nI_clamp (show sp < 2 ^ 31 by omega)
  have e2 := nI_clamp (show dp < 2 ^ 31 by omega)
  have e3 := nI_clamp (show n < 2 ^ 31 by omega)
  refine va_copyl hx hb hml hown hlink hnat hstat hini hK hP hD hS q0 q1 t0 t0 ha0 ha1 ht0 ht0 rfl (nI_pos (by omega)) (nI_pos (by omega)) (nI_pos (by omega)) (by rw [e1, e3]; exact h4) (by rw [e2, e3]; exact h5) (fun _ _ => rfl) hframes hlocals hdg ?_
  rw [e1, e2, e3]
  exact kk
end ZR3
theorem dpW_1 {off : Bool} {wl : Int32} (h : dpO off wl = true) : dpW off wl = wl := by unfold dpW; rw [if_pos h]
theorem dpW_2 {off : Bool} {wl : Int32} (h : dpO off wl = false) (h2 : wl = -1) : dpW off wl = wl := by unfold dpW; rw [h, if_neg (by decide), if_pos h2]
theorem dpW_3 {off : Bool} {wl : Int32} (h : dpO off wl = false) (h2 : ¬ wl = -1) : dpW off wl = wl - nI 1 := by unfold dpW; rw [h, if_neg (by decide), if_neg h2]; rfl
/-! what putTape makes of the words -/
def ptA (tape now : Nat → Int64) (sp tg : Nat) : Nat → Int64 := va_up (va_cpy tape now 0 (sp * 9) 8) (sp * 9 + 8) (nI tg).toInt64
def ptN (tape now : Nat → Int64) (sp tg : Nat) : Nat → Int64 := va_up (ptA tape now sp tg) (sp * 9 + 8) (ptA tape now sp tg (sp * 9 + 8) ||| (ckV (ptA tape now sp tg) (sp * 9) <<< ((nI 16).toInt64 &&& 63)))
def ptL (tape now latest : Nat → Int64) (sp tg : Nat) : Nat → Int64 := va_cpy (ptN tape now sp tg) latest (sp * 9) (sp * 9) 9
end
section
set_option maxHeartbeats 4000000 in
set_option maxRecDepth 100000 in
theorem c_X0_drawPower (l : Launch) (dC : Nat → ClassId) (dI : Nat → Nat → Nat) (sz : Nat) (h0 aN aL aK aC aT aO : Nat) (ld tb ob : Nat) (off : Bool) (wl : Int32) (wd : Int64) : Met l yX0_drawPower wsX0_drawPower ({ frames := 0, cells := 0, slots := 0, locals := 0 }) (va_Pc [.ref h0] (fun U => U.heap.size = sz ∧ va_P (dC, dI) vwCl [(h0, .inr (0, [.ref aN, .ref aL, .ref aK, .ref aC, .int (nI ld), .ref aT, .int (nI tb), .ref aO, .int (nI ob), .int (bI off), .int wl, .long wd]))] U.heap ∧ va_K (dC, dI) vwCl [] U ∧ va_D (fun _ => True) [(h0, .inr (0, [.ref aN, .ref aL, .ref aK, .ref aC, .int (nI ld), .ref aT, .int (nI tb), .ref aO, .int (nI ob), .int (bI off), .int wl, .long wd]))])) (va_Qi (fun (r : Int32) (_ : Unit) => r = bI (!dpO off wl)) (fun (_ : Unit) t => va_P (dC, dI) vwCl [(h0, .inr (0, [.ref aN, .ref aL, .ref aK, .ref aC, .int (nI ld), .ref aT, .int (nI tb), .ref aO, .int (nI ob), .int (bI (dpO off wl)), .int (dpW off wl), .long wd]))] t.heap ∧ va_K (dC, dI) vwCl [] t ∧ va_D (va_A [(h0, .inr (0, [.ref aN, .ref aL, .ref aK, .ref aC, .int (nI ld), .ref aT, .int (nI tb), .ref aO, .int (nI ob), .int (bI off), .int wl, .long wd]))] sz) [(h0, .inr (0, [.ref aN, .ref aL, .ref aK, .ref aC, .int (nI ld), .ref aT, .int (nI tb), .ref aO, .int (nI ob), .int (bI (dpO off wl)), .int (dpW off wl), .long wd]))]) (va_A [(h0, .inr (0, [.ref aN, .ref aL, .ref aK, .ref aC, .int (nI ld), .ref aT, .int (nI tb), .ref aO, .int (nI ob), .int (bI off), .int wl, .long wd]))] sz)) 0 0 (va_A [(h0, .inr (0, [.ref aN, .ref aL, .ref aK, .ref aC, .int (nI ld), .ref aT, .int (nI tb), .ref aO, .int (nI ob), .int (bI off), .int wl, .long wd]))] sz) := by
  refine Met.ofW (cc := cX0_drawPower) (maxL := 1) (ret := some .boolean) (by decide) rfl ?_
  intro p e s m args below meth c s₁ B hml hv
  obtain ⟨rfl, hsz, hP, hK, hD0⟩ := hv
  have hx := B.exec
  have hb := B.bytes
  have hr := B.returns
  have hts := atoms_spec (ws := wsX0_drawPower) B.pre
  have hown : s.vm.findClass RX0 = some m.cls := findClass_of_methodNamed B.named
  have hlocks := B.notSynchronized
  subst hsz
  have hD := hD0.self (sz := s.heap.size)
  generalize hAe : va_A [(h0, .inr (0, [.ref aN, .ref aL, .ref aK, .ref aC, .int (nI ld), .ref aT, .int (nI tb), .ref aO, .int (nI ob), .int (bI off), .int wl, .long wd]))] s.heap.size = A at hD ⊢
  have hA : ∀ q : Nat, s.heap.size ≤ q → A q := fun q h => by rw [← hAe]; exact Or.inr h
  generalize hH : s.heap = H at hP ⊢
  have hS : va_S A s.heap H [] := by rw [hH]; exact va_S.rf
  have hP : va_P (dC, dI) vwCl [(h0, .inr (0, [.ref aN, .ref aL, .ref aK, .ref aC, .int (nI ld), .ref aT, .int (nI tb), .ref aO, .int (nI ob), .int (bI off), .int wl, .long wd]))] H := hP
  have hl := lv_entry ([.ref h0]) (n := 1) (Nat.le_of_ble_eq_true rfl)
  rw [lg_entry_eq]
  generalize (lg_sl ([.ref h0]) ++ List.replicate (1 - (lg_sl ([.ref h0])).length) Slot.unset).toArray = ls at hl ⊢
  have hl : lv_has ls 1 [(0, .ref h0)] := hl
  have hi0 : ∀ w ∈ u_ws RX0 TX0 12, w ∈ wsX0_drawPower := by decide +kernel
  refine lv_aload_n hx hb dX0_drawPower_0 rfl (lv_at hl 0 rfl) ?_
  refine va_get (D := (dC, dI)) (ci := 0) (v := .int wl) (C := RX0) (T := TX0) (N := 12) hx hb hts hi0 hown hK hP 0 rfl rfl 10 (by decide) (hts (.fieldLink RX0 49 "CellRack" "writesLeft" "I") (by decide +kernel)) (fun _ h9 => h9) rfl dX0_drawPower_1 ?_
  refine lv_if_ne (tgt := 12) hx hb dX0_drawPower_4 (by decide) (fun c4 => ?_) (fun c4 => ?_)
  · refine lv_aload_n hx hb dX0_drawPower_12 rfl (lv_at hl 0 rfl) ?_
    refine va_get (D := (dC, dI)) (ci := 0) (v := .int (bI off)) (C := RX0) (T := TX0) (N := 12) hx hb hts hi0 hown hK hP 0 rfl rfl 9 (by decide) (hts (.fieldLink RX0 45 "CellRack" "off" "Z") (by decide +kernel)) (fun _ h9 => h9) rfl dX0_drawPower_13 ?_
    refine zr_ifb_eq (tgt := 21) hx hb dX0_drawPower_16 (by decide) (fun c16 => ?_) (fun c16 => ?_)
    · refine lv_aload_n hx hb dX0_drawPower_21 rfl (lv_at hl 0 rfl) ?_
      refine va_get (D := (dC, dI)) (ci := 0) (v := .int wl) (C := RX0) (T := TX0) (N := 12) hx hb hts hi0 hown hK hP 0 rfl rfl 10 (by decide) (hts (.fieldLink RX0 49 "CellRack" "writesLeft" "I") (by decide +kernel)) (fun _ h9 => h9) rfl dX0_drawPower_22 ?_
      refine lv_iconst (v := (-1)) hx hb dX0_drawPower_25 (by decide) ?_
      refine lv_icmp_eq (tgt := 39) hx hb dX0_drawPower_26 (by decide) (fun c26 => ?_) (fun c26 => ?_)
      · refine lv_iconst (v := nI 1) hx hb dX0_drawPower_39 (by decide) ?_
        have e1 : dpO off wl = off := by simp [dpO, c4]
        have e2 := dpW_2 (e1.trans c16) c26
        have hP9 : va_P (dC, dI) vwCl [(h0, .inr (0, [.ref aN, .ref aL, .ref aK, .ref aC, .int (nI ld), .ref aT, .int (nI tb), .ref aO, .int (nI ob), .int (bI (dpO off wl)), .int (dpW off wl), .long wd]))] H := by rw [e1, e2]; exact hP.sub (ws' := [(h0, .inr (0, [.ref aN, .ref aL, .ref aK, .ref aC, .int (nI ld), .ref aT, .int (nI tb), .ref aO, .int (nI ob), .int (bI off), .int wl, .long wd]))]) [0] rfl
        have hD9 : va_D A [(h0, .inr (0, [.ref aN, .ref aL, .ref aK, .ref aC, .int (nI ld), .ref aT, .int (nI tb), .ref aO, .int (nI ob), .int (bI (dpO off wl)), .int (dpW off wl), .long wd]))] := by rw [e1, e2]; exact hD.sub (ws' := [(h0, .inr (0, [.ref aN, .ref aL, .ref aK, .ref aC, .int (nI ld), .ref aT, .int (nI tb), .ref aO, .int (nI ob), .int (bI off), .int wl, .long wd]))]) [0] (by decide) rfl
        exact W.zret (v := nI 1) hx hb hr (by decide) (fun t ht hW => ⟨⟨nI 1, (), rfl, by rw [e1, c16]; rfl, by rw [ht]; exact hP9, va_K.moved hW.alike hK, hD9⟩, hS.F ht⟩) hS.2.2 dX0_drawPower_40
      · refine lv_aload_n hx hb dX0_drawPower_29 rfl (lv_at hl 0 rfl) ?_
        refine lv_dup hx hb dX0_drawPower_30 rfl ?_
        refine va_get (D := (dC, dI)) (ci := 0) (v := .int wl) (C := RX0) (T := TX0) (N := 12) hx hb hts hi0 hown hK hP 0 rfl rfl 10 (by decide) (hts (.fieldLink RX0 49 "CellRack" "writesLeft" "I") (by decide +kernel)) (fun _ h9 => h9) rfl dX0_drawPower_31 ?_
        refine lv_iconst (v := nI 1) hx hb dX0_drawPower_34 (by decide) ?_
        refine lv_isub hx hb dX0_drawPower_35 ?_
        refine va_put (D := (dC, dI)) (ci := 0) (v := .int (wl - (nI 1))) (ty := .int) (C := RX0) (T := TX0) (N := 12) hx hb hts hi0 tyX0 tyX0_ok nmX0 hown hK hP hD hS 0 rfl rfl 10 (by decide) (hts (.fieldLink RX0 49 "CellRack" "writesLeft" "I") (by decide +kernel)) (fun _ h9 => h9) rfl (by decide +kernel) (rfl) (rfl) (Nat.le_of_ble_eq_true rfl) dX0_drawPower_36 (fun H locs hP hD hS => ?_)
        have hP : va_P (dC, dI) vwCl [(h0, .inr (0, [.ref aN, .ref aL, .ref aK, .ref aC, .int (nI ld), .ref aT, .int (nI tb), .ref aO, .int (nI ob), .int (bI off), .int (wl - (nI 1)), .long wd]))] H := hP
        have hD : va_D A [(h0, .inr (0, [.ref aN, .ref aL, .ref aK, .ref aC, .int (nI ld), .ref aT, .int (nI tb), .ref aO, .int (nI ob), .int (bI off), .int (wl - (nI 1)), .long wd]))] := hD
        refine lv_iconst (v := nI 1) hx hb dX0_drawPower_39 (by decide) ?_
        have e1 : dpO off wl = off := by simp [dpO, c4]
        have e2 := dpW_3 (e1.trans c16) c26
        have hP9 : va_P (dC, dI) vwCl [(h0, .inr (0, [.ref aN, .ref aL, .ref aK, .ref aC, .int (nI ld), .ref aT, .int (nI tb), .ref aO, .int (nI ob), .int (bI (dpO off wl)), .int (dpW off wl), .long wd]))] H := by rw [e1, e2]; exact hP.sub (ws' := [(h0, .inr (0, [.ref aN, .ref aL, .ref aK, .ref aC, .int (nI ld), .ref aT, .int (nI tb), .ref aO, .int (nI ob), .int (bI off), .int (wl - (nI 1)), .long wd]))]) [0] rfl
        have hD9 : va_D A [(h0, .inr (0, [.ref aN, .ref aL, .ref aK, .ref aC, .int (nI ld), .ref aT, .int (nI tb), .ref aO, .int (nI ob), .int (bI (dpO off wl)), .int (dpW off wl), .long wd]))] := by rw [e1, e2]; exact hD.sub (ws' := [(h0, .inr (0, [.ref aN, .ref aL, .ref aK, .ref aC, .int (nI ld), .ref aT, .int (nI tb), .ref aO, .int (nI ob), .int (bI off), .int (wl - (nI 1)), .long wd]))]) [0] (by decide) rfl
        exact W.zret (v := nI 1) hx hb hr (by decide) (fun t ht hW => ⟨⟨nI 1, (), rfl, by rw [e1, c16]; rfl, by rw [ht]; exact hP9, va_K.moved hW.alike hK, hD9⟩, hS.F ht⟩) hS.2.2 dX0_drawPower_40
    · refine lv_iconst (v := nI 0) hx hb dX0_drawPower_19 (by decide) ?_
      have e1 : dpO off wl = off := by simp [dpO, c4]
      have e2 := dpW_1 (e1.trans c16)
      have hP9 : va_P (dC, dI) vwCl [(h0, .inr (0, [.ref aN, .ref aL, .ref aK, .ref aC, .int (nI ld), .ref aT, .int (nI tb), .ref aO, .int (nI ob), .int (bI (dpO off wl)), .int (dpW off wl), .long wd]))] H := by rw [e1, e2]; exact hP.sub (ws' := [(h0, .inr (0, [.ref aN, .ref aL, .ref aK, .ref aC, .int (nI ld), .ref aT, .int (nI tb), .ref aO, .int (nI ob), .int (bI off), .int wl, .long wd]))]) [0] rfl
      have hD9 : va_D A [(h0, .inr (0, [.ref aN, .ref aL, .ref aK, .ref aC, .int (nI ld), .ref aT, .int (nI tb), .ref aO, .int (nI ob), .int (bI (dpO off wl)), .int (dpW off wl), .long wd]))] := by rw [e1, e2]; exact hD.sub (ws' := [(h0, .inr (0, [.ref aN, .ref aL, .ref aK, .ref aC, .int (nI ld), .ref aT, .int (nI tb), .ref aO, .int (nI ob), .int (bI off), .int wl, .long wd]))]) [0] (by decide) rfl
      exact W.zret (v := nI 0) hx hb hr (by decide) (fun t ht hW => ⟨⟨nI 0, (), rfl, by rw [e1, c16]; rfl, by rw [ht]; exact hP9, va_K.moved hW.alike hK, hD9⟩, hS.F ht⟩) hS.2.2 dX0_drawPower_20
  · refine lv_aload_n hx hb dX0_drawPower_7 rfl (lv_at hl 0 rfl) ?_
    refine lv_iconst (v := nI 1) hx hb dX0_drawPower_8 (by decide) ?_
    refine zr_topi (bI true) (rfl) ?_
    refine va_put (D := (dC, dI)) (ci := 0) (v := .int (bI true)) (ty := .boolean) (C := RX0) (T := TX0) (N := 12) hx hb hts hi0 tyX0 tyX0_ok nmX0 hown hK hP hD hS 0 rfl rfl 9 (by decide) (hts (.fieldLink RX0 45 "CellRack" "off" "Z") (by decide +kernel)) (fun _ h9 => h9) rfl (by decide +kernel) (zr_nar_b _) (zr_fit_b _) (Nat.le_of_ble_eq_true rfl) dX0_drawPower_9 (fun H locs hP hD hS => ?_)
    have hP : va_P (dC, dI) vwCl [(h0, .inr (0, [.ref aN, .ref aL, .ref aK, .ref aC, .int (nI ld), .ref aT, .int (nI tb), .ref aO, .int (nI ob), .int (bI true), .int wl, .long wd]))] H := hP
    have hD : va_D A [(h0, .inr (0, [.ref aN, .ref aL, .ref aK, .ref aC, .int (nI ld), .ref aT, .int (nI tb), .ref aO, .int (nI ob), .int (bI true), .int wl, .long wd]))] := hD
    refine lv_aload_n hx hb dX0_drawPower_12 rfl (lv_at hl 0 rfl) ?_
    refine va_get (D := (dC, dI)) (ci := 0) (v := .int (bI true)) (C := RX0) (T := TX0) (N := 12) hx hb hts hi0 hown hK hP 0 rfl rfl 9 (by decide) (hts (.fieldLink RX0 45 "CellRack" "off" "Z") (by decide +kernel)) (fun _ h9 => h9) rfl dX0_drawPower_13 ?_
    refine zr_ifb_eq (tgt := 21) hx hb dX0_drawPower_16 (by decide) (fun c16 => ?_) (fun c16 => ?_)
    · exact absurd c16 (by decide)
    · refine lv_iconst (v := nI 0) hx hb dX0_drawPower_19 (by decide) ?_
      have e1 : dpO off wl = true := by simp [dpO, c4]
      have e2 := dpW_1 e1
      have hP9 : va_P (dC, dI) vwCl [(h0, .inr (0, [.ref aN, .ref aL, .ref aK, .ref aC, .int (nI ld), .ref aT, .int (nI tb), .ref aO, .int (nI ob), .int (bI (dpO off wl)), .int (dpW off wl), .long wd]))] H := by rw [e1, e2]; exact hP.sub (ws' := [(h0, .inr (0, [.ref aN, .ref aL, .ref aK, .ref aC, .int (nI ld), .ref aT, .int (nI tb), .ref aO, .int (nI ob), .int (bI true), .int wl, .long wd]))]) [0] rfl
      have hD9 : va_D A [(h0, .inr (0, [.ref aN, .ref aL, .ref aK, .ref aC, .int (nI ld), .ref aT, .int (nI tb), .ref aO, .int (nI ob), .int (bI (dpO off wl)), .int (dpW off wl), .long wd]))] := by rw [e1, e2]; exact hD.sub (ws' := [(h0, .inr (0, [.ref aN, .ref aL, .ref aK, .ref aC, .int (nI ld), .ref aT, .int (nI tb), .ref aO, .int (nI ob), .int (bI true), .int wl, .long wd]))]) [0] (by decide) rfl
      exact W.zret (v := nI 0) hx hb hr (by decide) (fun t ht hW => ⟨⟨nI 0, (), rfl, by rw [e1]; rfl, by rw [ht]; exact hP9, va_K.moved hW.alike hK, hD9⟩, hS.F ht⟩) hS.2.2 dX0_drawPower_20
set_option maxHeartbeats 4000000 in
set_option maxRecDepth 100000 in
theorem c_X0_clearTape (l : Launch) (dC : Nat → ClassId) (dI : Nat → Nat → Nat) (sz : Nat) (h0 aN aL aK aC aT aO : Nat) (ld tb ob : Nat) (off : Bool) (wl : Int32) (wd : Int64) (cJ : ClassId) (tape : Nat → Int64) : Met l yX0_clearTape wsX0_clearTape ({ frames := 1, cells := 0, slots := 0, locals := 24 }) (va_Pc [.ref h0] (fun U => U.heap.size = sz ∧ va_P (dC, dI) vwCl [(h0, .inr (0, [.ref aN, .ref aL, .ref aK, .ref aC, .int (nI ld), .ref aT, .int (nI tb), .ref aO, .int (nI ob), .int (bI off), .int wl, .long wd])), (aT, .inl (cJ, 8, .inr (.inl tape)))] U.heap ∧ va_K (dC, dI) vwCl [(cJ, .long)] U ∧ va_D (fun _ => True) [(h0, .inr (0, [.ref aN, .ref aL, .ref aK, .ref aC, .int (nI ld), .ref aT, .int (nI tb), .ref aO, .int (nI ob), .int (bI off), .int wl, .long wd])), (aT, .inl (cJ, 8, .inr (.inl tape)))])) (va_Qv (fun (_ : Unit) => True) (fun (_ : Unit) t => va_P (dC, dI) vwCl [(h0, .inr (0, [.ref aN, .ref aL, .ref aK, .ref aC, .int (nI ld), .ref aT, .int (nI 0), .ref aO, .int (nI ob), .int (bI off), .int wl, .long wd])), (aT, .inl (cJ, 8, .inr (.inl (flF tape 0 8))))] t.heap ∧ va_K (dC, dI) vwCl [(cJ, .long)] t ∧ va_D (va_A [(h0, .inr (0, [.ref aN, .ref aL, .ref aK, .ref aC, .int (nI ld), .ref aT, .int (nI tb), .ref aO, .int (nI ob), .int (bI off), .int wl, .long wd])), (aT, .inl (cJ, 8, .inr (.inl tape)))] sz) [(h0, .inr (0, [.ref aN, .ref aL, .ref aK, .ref aC, .int (nI ld), .ref aT, .int (nI 0), .ref aO, .int (nI ob), .int (bI off), .int wl, .long wd])), (aT, .inl (cJ, 8, .inr (.inl (flF tape 0 8))))]) (va_A [(h0, .inr (0, [.ref aN, .ref aL, .ref aK, .ref aC, .int (nI ld), .ref aT, .int (nI tb), .ref aO, .int (nI ob), .int (bI off), .int wl, .long wd])), (aT, .inl (cJ, 8, .inr (.inl tape)))] sz)) 0 0 (va_A [(h0, .inr (0, [.ref aN, .ref aL, .ref aK, .ref aC, .int (nI ld), .ref aT, .int (nI tb), .ref aO, .int (nI ob), .int (bI off), .int wl, .long wd])), (aT, .inl (cJ, 8, .inr (.inl tape)))] sz) := by
  refine Met.ofW (cc := cX0_clearTape) (maxL := 1) (ret := none) (by decide) rfl ?_
  intro p e s m args below meth c s₁ B hml hv
  obtain ⟨rfl, hsz, hP, hK, hD0⟩ := hv
  have hx := B.exec
  have hb := B.bytes
  have hr := B.returns
  have hts := atoms_spec (ws := wsX0_clearTape) B.pre
  have hown : s.vm.findClass RX0 = some m.cls := findClass_of_methodNamed B.named
  have hlocks := B.notSynchronized
  subst hsz
  have hD := hD0.self (sz := s.heap.size)
  generalize hAe : va_A [(h0, .inr (0, [.ref aN, .ref aL, .ref aK, .ref aC, .int (nI ld), .ref aT, .int (nI tb), .ref aO, .int (nI ob), .int (bI off), .int wl, .long wd])), (aT, .inl (cJ, 8, .inr (.inl tape)))] s.heap.size = A at hD ⊢
  have hA : ∀ q : Nat, s.heap.size ≤ q → A q := fun q h => by rw [← hAe]; exact Or.inr h
  generalize hH : s.heap = H at hP ⊢
  have hS : va_S A s.heap H [] := by rw [hH]; exact va_S.rf
  have hP : va_P (dC, dI) vwCl [(h0, .inr (0, [.ref aN, .ref aL, .ref aK, .ref aC, .int (nI ld), .ref aT, .int (nI tb), .ref aO, .int (nI ob), .int (bI off), .int wl, .long wd])), (aT, .inl (cJ, 8, .inr (.inl tape)))] H := hP
  have hl := lv_entry ([.ref h0]) (n := 1) (Nat.le_of_ble_eq_true rfl)
  rw [lg_entry_eq]
  generalize (lg_sl ([.ref h0]) ++ List.replicate (1 - (lg_sl ([.ref h0])).length) Slot.unset).toArray = ls at hl ⊢
  have hl : lv_has ls 1 [(0, .ref h0)] := hl
  have hi0 : ∀ w ∈ u_ws RX0 TX0 12, w ∈ wsX0_clearTape := by decide +kernel
  refine lv_aload_n hx hb dX0_clearTape_0 rfl (lv_at hl 0 rfl) ?_
  refine va_get (D := (dC, dI)) (ci := 0) (v := .ref aT) (C := RX0) (T := TX0) (N := 12) hx hb hts hi0 hown hK hP 0 rfl rfl 5 (by decide) (hts (.fieldLink RX0 33 "CellRack" "tape" "[J") (by decide +kernel)) (fun _ h9 => h9) rfl dX0_clearTape_1 ?_
  refine lv_lconst (v := 0) hx hb dX0_clearTape_4 (by decide) ?_
  have hPc := hP.sub (ws' := [(aT, .inl (cJ, 8, .inr (.inl tape)))]) [1] rfl
  have hDc := hD.sub (ws' := [(aT, .inl (cJ, 8, .inr (.inl tape)))]) [1] (by decide) rfl
  have hKc := hK.sub (tys' := [(cJ, .long)]) [0] rfl
  have hFc := va_free (wc := [(aT, .inl (cJ, 8, .inr (.inl tape)))]) hD hS hA [1] rfl
  refine va_callv (va_runS (As := [.ref aT, .long 0]) (rest := []) ⟨hx, hb, hml, hown, hts⟩ (c_J7_fill_d0a16 l dC dI H.size aT cJ 8 tape 0 (by decide)) (va_cwS 2 hts gX0_clearTape_J7_fill_d0a16 rfl rfl rfl (by decide +kernel) ⟨Nat.le_of_ble_eq_true rfl, Nat.le_of_ble_eq_true rfl⟩) ⟨fun a U g mk q => by obtain ⟨q0, q1, qP, qK, qD⟩ := q; exact ⟨q0, q1, qP, va_K.moved (u := U) (U := U.calling g mk a) (Vm.Alike.refl U.vm) qK, qD⟩, fun U hU hW => ⟨rfl, by rw [hU], by rw [hU]; exact hPc, va_K.moved hW.alike hKc, hDc.weaken (fun _ _ _ _ => trivial)⟩⟩ rfl rfl hl.1 rfl (lv_room (Nat.le_of_ble_eq_true rfl)) dX0_clearTape_5 ⟨Nat.zero_le _, Nat.zero_le _⟩) hS (fun q _ h => hFc q h) hFc (fun u t H1 locs ht hvm hw hB hz1 hk1 hS => ?_)
  obtain ⟨hP1, hK1, hD1⟩ := hB
  rw [ht] at hP1
  obtain ⟨hP, hD⟩ := va_join (wr := [(h0, .inr (0, [.ref aN, .ref aL, .ref aK, .ref aC, .int (nI ld), .ref aT, .int (nI tb), .ref aO, .int (nI ob), .int (bI off), .int wl, .long wd]))]) (w1 := [(aT, .inl (cJ, 8, .inr (.inl (flF tape 0 8))))]) hP hD [1] [0] rfl rfl (by decide) (by decide) hk1 hFc hP1 hD1
  clear hP1 hD1 hK1 hPc hDc hKc hFc hk1 hz1 hvm ht
  generalize H1 = H at hP hS ⊢
  have hP : va_P (dC, dI) vwCl [(h0, .inr (0, [.ref aN, .ref aL, .ref aK, .ref aC, .int (nI ld), .ref aT, .int (nI tb), .ref aO, .int (nI ob), .int (bI off), .int wl, .long wd])), (aT, .inl (cJ, 8, .inr (.inl (flF tape 0 8))))] H := hP
  have hD : va_D A [(h0, .inr (0, [.ref aN, .ref aL, .ref aK, .ref aC, .int (nI ld), .ref aT, .int (nI tb), .ref aO, .int (nI ob), .int (bI off), .int wl, .long wd])), (aT, .inl (cJ, 8, .inr (.inl (flF tape 0 8))))] := hD
  refine W.widen (k := 0) (n := 0) (Nat.le_refl _) (Nat.le_refl _) ?_
  refine lv_aload_n hx hb dX0_clearTape_8 rfl (lv_at hl 0 rfl) ?_
  refine lv_iconst (v := nI 0) hx hb dX0_clearTape_9 (by decide) ?_
  refine va_put (D := (dC, dI)) (ci := 0) (v := .int (nI 0)) (ty := .int) (C := RX0) (T := TX0) (N := 12) hx hb hts hi0 tyX0 tyX0_ok nmX0 hown hK hP hD hS 0 rfl rfl 6 (by decide) (hts (.fieldLink RX0 36 "CellRack" "tapeBytes" "I") (by decide +kernel)) (fun _ h9 => h9) rfl (by decide +kernel) (rfl) (rfl) (Nat.le_of_ble_eq_true rfl) dX0_clearTape_10 (fun H locs hP hD hS => ?_)
  have hP : va_P (dC, dI) vwCl [(h0, .inr (0, [.ref aN, .ref aL, .ref aK, .ref aC, .int (nI ld), .ref aT, .int (nI 0), .ref aO, .int (nI ob), .int (bI off), .int wl, .long wd])), (aT, .inl (cJ, 8, .inr (.inl (flF tape 0 8))))] H := hP
  have hD : va_D A [(h0, .inr (0, [.ref aN, .ref aL, .ref aK, .ref aC, .int (nI ld), .ref aT, .int (nI 0), .ref aO, .int (nI ob), .int (bI off), .int wl, .long wd])), (aT, .inl (cJ, 8, .inr (.inl (flF tape 0 8))))] := hD
  have hP9 := hP.sub (ws' := [(h0, .inr (0, [.ref aN, .ref aL, .ref aK, .ref aC, .int (nI ld), .ref aT, .int (nI 0), .ref aO, .int (nI ob), .int (bI off), .int wl, .long wd])), (aT, .inl (cJ, 8, .inr (.inl (flF tape 0 8))))]) [0, 1] rfl
  have hD9 := hD.sub (ws' := [(h0, .inr (0, [.ref aN, .ref aL, .ref aK, .ref aC, .int (nI ld), .ref aT, .int (nI 0), .ref aO, .int (nI ob), .int (bI off), .int wl, .long wd])), (aT, .inl (cJ, 8, .inr (.inl (flF tape 0 8))))]) [0, 1] (by decide) rfl
  exact W.vret hx hb hr (fun t ht hW => ⟨⟨(), rfl, trivial, by rw [ht]; exact hP9, va_K.moved hW.alike hK, hD9⟩, hS.F ht⟩) hS.2.2 dX0_clearTape_13
set_option maxHeartbeats 4000000 in
set_option maxRecDepth 100000 in
theorem lp_X0_isAsWritten {p : Program} {l : Launch} {e : Env} {R : Room} {s : State} {m : MethodId} {args : Array Value} {below : List Frame} {meth : Method} {c : Code} {cells slots : Nat} {Q : State → Prop} {A : Nat → Prop} {H0 : Heap} {dC : Nat → ClassId} {dI : Nat → Nat → Nat} (h0 aN aL aK aC aT aO : Nat) (ld tb ob : Nat) (off : Bool) (wl : Int32) (wd : Int64) (cJ : ClassId) (now latest : Nat → Int64) (fr : Nat) (hf : fr + 9 ≤ 9504) (hx : p.tables.exec = Jvm.exec) (hb : c.code = cX0_isAsWritten) (hml : c.maxLocals = 3) (hown : s.vm.findClass RX0 = some m.cls) (hts : ∀ w ∈ wsX0_isAsWritten, w.before args s = true) (hA : ∀ q : Nat, H0.size ≤ q → A q) (hK : va_K (dC, dI) vwCl [(cJ, .long)] s) (kk : ∀ (he : ∀ j, j < 9 → now (fr + j) = latest (fr + j)) (H : Heap) (locs : List Loc) (ls : Array Slot), va_P (dC, dI) vwCl [(h0, .inr (0, [.ref aN, .ref aL, .ref aK, .ref aC, .int (nI ld), .ref aT, .int (nI tb), .ref aO, .int (nI ob), .int (bI off), .int wl, .long wd])), (aN, .inl (cJ, 9504, .inr (.inl now))), (aL, .inl (cJ, 9504, .inr (.inl latest)))] H → va_D A [(h0, .inr (0, [.ref aN, .ref aL, .ref aK, .ref aC, .int (nI ld), .ref aT, .int (nI tb), .ref aO, .int (nI ob), .int (bI off), .int wl, .long wd])), (aN, .inl (cJ, 9504, .inr (.inl now))), (aL, .inl (cJ, 9504, .inr (.inl latest)))] → va_S A H0 H locs → lv_has ls 3 [(0, .ref h0)] → W p l e R s m args below meth c H locs cells slots Q (F0 m 34 ls [])) (kx : ∀ (hn : swOK now latest fr = false) (H : Heap) (locs : List Loc) (ls : Array Slot), va_P (dC, dI) vwCl [(h0, .inr (0, [.ref aN, .ref aL, .ref aK, .ref aC, .int (nI ld), .ref aT, .int (nI tb), .ref aO, .int (nI ob), .int (bI off), .int wl, .long wd])), (aN, .inl (cJ, 9504, .inr (.inl now))), (aL, .inl (cJ, 9504, .inr (.inl latest)))] H → va_D A [(h0, .inr (0, [.ref aN, .ref aL, .ref aK, .ref aC, .int (nI ld), .ref aT, .int (nI tb), .ref aO, .int (nI ob), .int (bI off), .int wl, .long wd])), (aN, .inl (cJ, 9504, .inr (.inl now))), (aL, .inl (cJ, 9504, .inr (.inl latest)))] → va_S A H0 H locs → lv_has ls 3 [(0, .ref h0)] → W p l e R s m args below meth c H locs cells slots Q (F0 m 26 ls [])) : ∀ (n : Nat) (i : Nat), 9 + 1 ≤ i + n → i ≤ 9 → (∀ j, j < i → now (fr + j) = latest (fr + j)) → ∀ (H : Heap) (locs : List Loc) (ls : Array Slot), va_P (dC, dI) vwCl [(h0, .inr (0, [.ref aN, .ref aL, .ref aK, .ref aC, .int (nI ld), .ref aT, .int (nI tb), .ref aO, .int (nI ob), .int (bI off), .int wl, .long wd])), (aN, .inl (cJ, 9504, .inr (.inl now))), (aL, .inl (cJ, 9504, .inr (.inl latest)))] H → va_D A [(h0, .inr (0, [.ref aN, .ref aL, .ref aK, .ref aC, .int (nI ld), .ref aT, .int (nI tb), .ref aO, .int (nI ob), .int (bI off), .int wl, .long wd])), (aN, .inl (cJ, 9504, .inr (.inl now))), (aL, .inl (cJ, 9504, .inr (.inl latest)))] → va_S A H0 H locs → lv_has ls 3 [(0, .ref h0), (1, .int (nI fr)), (2, .int (nI (fr + i)))] → W p l e R s m args below meth c H locs cells slots Q (F0 m 2 ls []) := by
  have hi0 : ∀ w ∈ u_ws RX0 TX0 12, w ∈ wsX0_isAsWritten := by decide +kernel
  intro n
  induction n with
  | zero => intro i  hm hi he; exact absurd hm (by omega)
  | succ n ih =>
    intro i  hm hi he H locs ls hP hD hS hl
    refine lv_iload_n hx hb dX0_isAsWritten_2 rfl (lv_at hl 2 rfl) ?_
    refine lv_iload_n hx hb dX0_isAsWritten_3 rfl (lv_at hl 1 rfl) ?_
    refine lv_bipush (v := nI 9) hx hb dX0_isAsWritten_4 (by decide) ?_
    refine zr_iadd hx hb dX0_isAsWritten_6 ?_
    refine zr_icmp_ge (tgt := 34) hx hb (by omega) (by omega) dX0_isAsWritten_7 (by decide) (fun c7 => ?_) (fun c7 => ?_)
    · obtain rfl : 9 = i := by omega
      exact kk he H locs ls (hP.sub [0, 1, 2] rfl) (hD.sub [0, 1, 2] (by decide) rfl) hS (lv_sub hl [0] rfl)
    · refine lv_aload_n hx hb dX0_isAsWritten_10 rfl (lv_at hl 0 rfl) ?_
      refine va_get (D := (dC, dI)) (ci := 0) (v := .ref aN) (C := RX0) (T := TX0) (N := 12) hx hb hts hi0 hown hK hP 0 rfl rfl 0 (by decide) (hts (.fieldLink RX0 9 "CellRack" "now" "[J") (by decide +kernel)) (fun _ h9 => h9) rfl dX0_isAsWritten_11 ?_
      refine lv_iload_n hx hb dX0_isAsWritten_14 rfl (lv_at hl 2 rfl) ?_
      refine zr_lald hx hb hK hP 1 0 rfl rfl (by omega) (by omega) dX0_isAsWritten_15 ?_
      refine lv_aload_n hx hb dX0_isAsWritten_16 rfl (lv_at hl 0 rfl) ?_
      refine va_get (D := (dC, dI)) (ci := 0) (v := .ref aL) (C := RX0) (T := TX0) (N := 12) hx hb hts hi0 hown hK hP 0 rfl rfl 1 (by decide) (hts (.fieldLink RX0 13 "CellRack" "latest" "[J") (by decide +kernel)) (fun _ h9 => h9) rfl dX0_isAsWritten_17 ?_
      refine lv_iload_n hx hb dX0_isAsWritten_20 rfl (lv_at hl 2 rfl) ?_
      refine zr_lald hx hb hK hP 2 0 rfl rfl (by omega) (by omega) dX0_isAsWritten_21 ?_
      refine W.lcmp hx hb dX0_isAsWritten_22 ?_
      refine zr_cmp_eq (tgt := 28) hx hb dX0_isAsWritten_23 (by decide) (fun c23 => ?_) (fun c23 => ?_)
      · refine lv_iinc (v := nI (fr + i + 1)) (lv' := [(2, .int (nI (fr + i + 1))), (0, .ref h0), (1, .int (nI fr))]) hx hb dX0_isAsWritten_28 hl (k := 2) rfl (nI_add (fr + i) 1) (by decide) rfl (fun ls hl => ?_)
        refine lv_goto (tgt := 2) hx hb dX0_isAsWritten_31 (by decide) ?_
        exact ih (i + 1) (by omega) (by omega) (fun j hj => by
                rcases (show j < i ∨ j = i by omega) with q | q
                · exact he j q
                · subst q; exact c23) H locs ls (hP.sub [0, 1, 2] rfl) (hD.sub [0, 1, 2] (by decide) rfl) hS (lv_sub hl [1, 2, 0] rfl)
      · exact kx (swOK_f (i := i) (by omega) c23) H locs ls (hP.sub [0, 1, 2] rfl) (hD.sub [0, 1, 2] (by decide) rfl) hS (lv_sub hl [0] rfl)
set_option maxHeartbeats 4000000 in
set_option maxRecDepth 100000 in
theorem c_X0_isAsWritten (l : Launch) (dC : Nat → ClassId) (dI : Nat → Nat → Nat) (sz : Nat) (h0 aN aL aK aC aT aO : Nat) (ld tb ob : Nat) (off : Bool) (wl : Int32) (wd : Int64) (cJ : ClassId) (now latest : Nat → Int64) (fr : Nat) (hf : fr + 9 ≤ 9504) : Met l yX0_isAsWritten wsX0_isAsWritten ({ frames := 0, cells := 0, slots := 0, locals := 0 }) (va_Pc [.ref h0, .int (nI fr)] (fun U => U.heap.size = sz ∧ va_P (dC, dI) vwCl [(h0, .inr (0, [.ref aN, .ref aL, .ref aK, .ref aC, .int (nI ld), .ref aT, .int (nI tb), .ref aO, .int (nI ob), .int (bI off), .int wl, .long wd])), (aN, .inl (cJ, 9504, .inr (.inl now))), (aL, .inl (cJ, 9504, .inr (.inl latest)))] U.heap ∧ va_K (dC, dI) vwCl [(cJ, .long)] U ∧ va_D (fun _ => True) [(h0, .inr (0, [.ref aN, .ref aL, .ref aK, .ref aC, .int (nI ld), .ref aT, .int (nI tb), .ref aO, .int (nI ob), .int (bI off), .int wl, .long wd])), (aN, .inl (cJ, 9504, .inr (.inl now))), (aL, .inl (cJ, 9504, .inr (.inl latest)))])) (va_Qi (fun (r : Int32) (_ : Unit) => r = bI (swOK now latest fr)) (fun (_ : Unit) t => va_P (dC, dI) vwCl [(h0, .inr (0, [.ref aN, .ref aL, .ref aK, .ref aC, .int (nI ld), .ref aT, .int (nI tb), .ref aO, .int (nI ob), .int (bI off), .int wl, .long wd])), (aN, .inl (cJ, 9504, .inr (.inl now))), (aL, .inl (cJ, 9504, .inr (.inl latest)))] t.heap ∧ va_K (dC, dI) vwCl [(cJ, .long)] t ∧ va_D (va_A [(h0, .inr (0, [.ref aN, .ref aL, .ref aK, .ref aC, .int (nI ld), .ref aT, .int (nI tb), .ref aO, .int (nI ob), .int (bI off), .int wl, .long wd])), (aN, .inl (cJ, 9504, .inr (.inl now))), (aL, .inl (cJ, 9504, .inr (.inl latest)))] sz) [(h0, .inr (0, [.ref aN, .ref aL, .ref aK, .ref aC, .int (nI ld), .ref aT, .int (nI tb), .ref aO, .int (nI ob), .int (bI off), .int wl, .long wd])), (aN, .inl (cJ, 9504, .inr (.inl now))), (aL, .inl (cJ, 9504, .inr (.inl latest)))]) (va_A [(h0, .inr (0, [.ref aN, .ref aL, .ref aK, .ref aC, .int (nI ld), .ref aT, .int (nI tb), .ref aO, .int (nI ob), .int (bI off), .int wl, .long wd])), (aN, .inl (cJ, 9504, .inr (.inl now))), (aL, .inl (cJ, 9504, .inr (.inl latest)))] sz)) 0 0 (va_A [(h0, .inr (0, [.ref aN, .ref aL, .ref aK, .ref aC, .int (nI ld), .ref aT, .int (nI tb), .ref aO, .int (nI ob), .int (bI off), .int wl, .long wd])), (aN, .inl (cJ, 9504, .inr (.inl now))), (aL, .inl (cJ, 9504, .inr (.inl latest)))] sz) := by
  refine Met.ofW (cc := cX0_isAsWritten) (maxL := 3) (ret := some .boolean) (by decide) rfl ?_
  intro p e s m args below meth c s₁ B hml hv
  obtain ⟨rfl, hsz, hP, hK, hD0⟩ := hv
  have hx := B.exec
  have hb := B.bytes
  have hr := B.returns
  have hts := atoms_spec (ws := wsX0_isAsWritten) B.pre
  have hown : s.vm.findClass RX0 = some m.cls := findClass_of_methodNamed B.named
  have hlocks := B.notSynchronized
  subst hsz
  have hD := hD0.self (sz := s.heap.size)
  generalize hAe : va_A [(h0, .inr (0, [.ref aN, .ref aL, .ref aK, .ref aC, .int (nI ld), .ref aT, .int (nI tb), .ref aO, .int (nI ob), .int (bI off), .int wl, .long wd])), (aN, .inl (cJ, 9504, .inr (.inl now))), (aL, .inl (cJ, 9504, .inr (.inl latest)))] s.heap.size = A at hD ⊢
  have hA : ∀ q : Nat, s.heap.size ≤ q → A q := fun q h => by rw [← hAe]; exact Or.inr h
  generalize hH : s.heap = H at hP ⊢
  have hS : va_S A s.heap H [] := by rw [hH]; exact va_S.rf
  have hP : va_P (dC, dI) vwCl [(h0, .inr (0, [.ref aN, .ref aL, .ref aK, .ref aC, .int (nI ld), .ref aT, .int (nI tb), .ref aO, .int (nI ob), .int (bI off), .int wl, .long wd])), (aN, .inl (cJ, 9504, .inr (.inl now))), (aL, .inl (cJ, 9504, .inr (.inl latest)))] H := hP
  have hl := lv_entry ([.ref h0, .int (nI fr)]) (n := 3) (Nat.le_of_ble_eq_true rfl)
  rw [lg_entry_eq]
  generalize (lg_sl ([.ref h0, .int (nI fr)]) ++ List.replicate (3 - (lg_sl ([.ref h0, .int (nI fr)])).length) Slot.unset).toArray = ls at hl ⊢
  have hl : lv_has ls 3 [(0, .ref h0), (1, .int (nI fr))] := hl
  refine lv_iload_n hx hb dX0_isAsWritten_0 rfl (lv_at hl 1 rfl) ?_
  refine lv_istore_n (lv' := [(2, .int (nI fr)), (0, .ref h0), (1, .int (nI fr))]) hx hb dX0_isAsWritten_1 rfl hl (by decide) rfl (fun ls hl => ?_)
  refine lp_X0_isAsWritten h0 aN aL aK aC aT aO ld tb ob off wl wd cJ now latest fr hf hx hb hml hown hts hA hK (fun he  H locs ls hP hD hS hl => ?_) (fun hn  H locs ls hP hD hS hl => ?_) 10 0 (by omega) (by omega) (fun j hj => absurd hj (by omega)) _ _ _ (hP.sub [0, 1, 2] rfl) (hD.sub [0, 1, 2] (by decide) rfl) hS (lv_sub hl [1, 2, 0] rfl)
  · refine lv_iconst (v := nI 1) hx hb dX0_isAsWritten_34 (by decide) ?_
    have hP9 := hP.sub (ws' := [(h0, .inr (0, [.ref aN, .ref aL, .ref aK, .ref aC, .int (nI ld), .ref aT, .int (nI tb), .ref aO, .int (nI ob), .int (bI off), .int wl, .long wd])), (aN, .inl (cJ, 9504, .inr (.inl now))), (aL, .inl (cJ, 9504, .inr (.inl latest)))]) [0, 1, 2] rfl
    have hD9 := hD.sub (ws' := [(h0, .inr (0, [.ref aN, .ref aL, .ref aK, .ref aC, .int (nI ld), .ref aT, .int (nI tb), .ref aO, .int (nI ob), .int (bI off), .int wl, .long wd])), (aN, .inl (cJ, 9504, .inr (.inl now))), (aL, .inl (cJ, 9504, .inr (.inl latest)))]) [0, 1, 2] (by decide) rfl
    exact W.zret (v := nI 1) hx hb hr (by decide) (fun t ht hW => ⟨⟨nI 1, (), rfl, by rw [swOK_t he]; rfl, by rw [ht]; exact hP9, va_K.moved hW.alike hK, hD9⟩, hS.F ht⟩) hS.2.2 dX0_isAsWritten_35
  · refine lv_iconst (v := nI 0) hx hb dX0_isAsWritten_26 (by decide) ?_
    have hP9 := hP.sub (ws' := [(h0, .inr (0, [.ref aN, .ref aL, .ref aK, .ref aC, .int (nI ld), .ref aT, .int (nI tb), .ref aO, .int (nI ob), .int (bI off), .int wl, .long wd])), (aN, .inl (cJ, 9504, .inr (.inl now))), (aL, .inl (cJ, 9504, .inr (.inl latest)))]) [0, 1, 2] rfl
    have hD9 := hD.sub (ws' := [(h0, .inr (0, [.ref aN, .ref aL, .ref aK, .ref aC, .int (nI ld), .ref aT, .int (nI tb), .ref aO, .int (nI ob), .int (bI off), .int wl, .long wd])), (aN, .inl (cJ, 9504, .inr (.inl now))), (aL, .inl (cJ, 9504, .inr (.inl latest)))]) [0, 1, 2] (by decide) rfl
    exact W.zret (v := nI 0) hx hb hr (by decide) (fun t ht hW => ⟨⟨nI 0, (), rfl, by rw [hn]; rfl, by rw [ht]; exact hP9, va_K.moved hW.alike hK, hD9⟩, hS.F ht⟩) hS.2.2 dX0_isAsWritten_27
set_option maxHeartbeats 4000000 in
set_option maxRecDepth 100000 in
theorem lp_X0_checkOf_in {p : Program} {l : Launch} {e : Env} {R : Room} {s : State} {m : MethodId} {args : Array Value} {below : List Frame} {meth : Method} {c : Code} {cells slots : Nat} {Q : State → Prop} {A : Nat → Prop} {H0 : Heap} {dC : Nat → ClassId} {dI : Nat → Nat → Nat} (h0 aN aL aK aC aT aO : Nat) (ld tb ob : Nat) (off : Bool) (wl : Int32) (wd : Int64) (cJ : ClassId) (now : Nat → Int64) (fr : Nat) (hf : fr + 9 ≤ 9504) (w0 : Int64) (k : Nat) (hx : p.tables.exec = Jvm.exec) (hb : c.code = cX0_checkOf) (hml : c.maxLocals = 6) (hown : s.vm.findClass RX0 = some m.cls) (hts : ∀ w ∈ wsX0_checkOf, w.before args s = true) (hA : ∀ q : Nat, H0.size ≤ q → A q) (hK : va_K (dC, dI) vwCl [(cJ, .long)] s) (kk : ∀  (H : Heap) (locs : List Loc) (ls : Array Slot), va_P (dC, dI) vwCl [(h0, .inr (0, [.ref aN, .ref aL, .ref aK, .ref aC, .int (nI ld), .ref aT, .int (nI tb), .ref aO, .int (nI ob), .int (bI off), .int wl, .long wd])), (aN, .inl (cJ, 9504, .inr (.inl now)))] H → va_D A [(h0, .inr (0, [.ref aN, .ref aL, .ref aK, .ref aC, .int (nI ld), .ref aT, .int (nI tb), .ref aO, .int (nI ob), .int (bI off), .int wl, .long wd])), (aN, .inl (cJ, 9504, .inr (.inl now)))] → va_S A H0 H locs → lv_has ls 6 [(0, .ref h0), (1, .int (nI fr)), (2, .long (ckI w0 8)), (4, .int (nI k))] → W p l e R s m args below meth c H locs cells slots Q (F0 m 66 ls [])) : ∀ (n : Nat) (b : Nat), 8 + 1 ≤ b + n → b ≤ 8 → ∀ (H : Heap) (locs : List Loc) (ls : Array Slot), va_P (dC, dI) vwCl [(h0, .inr (0, [.ref aN, .ref aL, .ref aK, .ref aC, .int (nI ld), .ref aT, .int (nI tb), .ref aO, .int (nI ob), .int (bI off), .int wl, .long wd])), (aN, .inl (cJ, 9504, .inr (.inl now)))] H → va_D A [(h0, .inr (0, [.ref aN, .ref aL, .ref aK, .ref aC, .int (nI ld), .ref aT, .int (nI tb), .ref aO, .int (nI ob), .int (bI off), .int wl, .long wd])), (aN, .inl (cJ, 9504, .inr (.inl now)))] → va_S A H0 H locs → lv_has ls 6 [(0, .ref h0), (1, .int (nI fr)), (2, .long (ckI w0 b)), (4, .int (nI k)), (5, .int (nI b))] → W p l e R s m args below meth c H locs cells slots Q (F0 m 31 ls []) := by
  intro n
  induction n with
  | zero => intro b  hm hi; exact absurd hm (by omega)
  | succ n ih =>
    intro b  hm hi H locs ls hP hD hS hl
    refine lv_iload hx hb dX0_checkOf_31 (lv_at hl 4 rfl) ?_
    refine lv_bipush (v := nI 8) hx hb dX0_checkOf_33 (by decide) ?_
    refine zr_icmp_ge (tgt := 66) hx hb (by omega) (by omega) dX0_checkOf_35 (by decide) (fun c35 => ?_) (fun c35 => ?_)
    · obtain rfl : 8 = b := by omega
      exact kk  H locs ls (hP.sub [0, 1] rfl) (hD.sub [0, 1] (by decide) rfl) hS (lv_sub hl [0, 1, 2, 3] rfl)
    · refine lv_lload_n hx hb dX0_checkOf_38 rfl (lv_at hl 2 rfl) ?_
      refine lv_lconst (v := 1) hx hb dX0_checkOf_39 (by decide) ?_
      refine lv_land hx hb dX0_checkOf_40 ?_
      refine lv_lconst (v := 0) hx hb dX0_checkOf_41 (by decide) ?_
      refine W.lcmp hx hb dX0_checkOf_42 ?_
      refine zr_cmp_eq (tgt := 56) hx hb dX0_checkOf_43 (by decide) (fun c43 => ?_) (fun c43 => ?_)
      · refine lv_lload_n hx hb dX0_checkOf_56 rfl (lv_at hl 2 rfl) ?_
        refine lv_iconst (v := nI 1) hx hb dX0_checkOf_57 (by decide) ?_
        refine lv_lushr hx hb dX0_checkOf_58 rfl ?_
        refine zr_topl (ckI w0 (b + 1)) (by first | exact ckS_t c43 | exact ckS_f c43) ?_
        refine lv_lstore_n (lv' := [(2, .long (ckI w0 (b + 1))), (0, .ref h0), (1, .int (nI fr)), (4, .int (nI k)), (5, .int (nI b))]) hx hb dX0_checkOf_59 rfl hl (by decide) rfl (fun ls hl => ?_)
        refine lv_iinc (v := nI (b + 1)) (lv' := [(5, .int (nI (b + 1))), (2, .long (ckI w0 (b + 1))), (0, .ref h0), (1, .int (nI fr)), (4, .int (nI k))]) hx hb dX0_checkOf_60 hl (k := 4) rfl (nI_add (b) 1) (by decide) rfl (fun ls hl => ?_)
        refine lv_goto (tgt := 31) hx hb dX0_checkOf_63 (by decide) ?_
        exact ih (b + 1) (by omega) (by omega) H locs ls (hP.sub [0, 1] rfl) (hD.sub [0, 1] (by decide) rfl) hS (lv_sub hl [2, 3, 1, 4, 0] rfl)
      · refine lv_lload_n hx hb dX0_checkOf_46 rfl (lv_at hl 2 rfl) ?_
        refine lv_iconst (v := nI 1) hx hb dX0_checkOf_47 (by decide) ?_
        refine lv_lushr hx hb dX0_checkOf_48 rfl ?_
        refine lv_ldc2 hx hb hown (hts (.constantLong RX0 173 (2197175160)) (by decide +kernel)) dX0_checkOf_49 ?_
        refine lv_lxor hx hb dX0_checkOf_52 ?_
        refine lv_goto (tgt := 59) hx hb dX0_checkOf_53 (by decide) ?_
        refine zr_topl (ckI w0 (b + 1)) (by first | exact ckS_t c43 | exact ckS_f c43) ?_
        refine lv_lstore_n (lv' := [(2, .long (ckI w0 (b + 1))), (0, .ref h0), (1, .int (nI fr)), (4, .int (nI k)), (5, .int (nI b))]) hx hb dX0_checkOf_59 rfl hl (by decide) rfl (fun ls hl => ?_)
        refine lv_iinc (v := nI (b + 1)) (lv' := [(5, .int (nI (b + 1))), (2, .long (ckI w0 (b + 1))), (0, .ref h0), (1, .int (nI fr)), (4, .int (nI k))]) hx hb dX0_checkOf_60 hl (k := 4) rfl (nI_add (b) 1) (by decide) rfl (fun ls hl => ?_)
        refine lv_goto (tgt := 31) hx hb dX0_checkOf_63 (by decide) ?_
        exact ih (b + 1) (by omega) (by omega) H locs ls (hP.sub [0, 1] rfl) (hD.sub [0, 1] (by decide) rfl) hS (lv_sub hl [2, 3, 1, 4, 0] rfl)
set_option maxHeartbeats 4000000 in
set_option maxRecDepth 100000 in
theorem lp_X0_checkOf {p : Program} {l : Launch} {e : Env} {R : Room} {s : State} {m : MethodId} {args : Array Value} {below : List Frame} {meth : Method} {c : Code} {cells slots : Nat} {Q : State → Prop} {A : Nat → Prop} {H0 : Heap} {dC : Nat → ClassId} {dI : Nat → Nat → Nat} (h0 aN aL aK aC aT aO : Nat) (ld tb ob : Nat) (off : Bool) (wl : Int32) (wd : Int64) (cJ : ClassId) (now : Nat → Int64) (fr : Nat) (hf : fr + 9 ≤ 9504) (hx : p.tables.exec = Jvm.exec) (hb : c.code = cX0_checkOf) (hml : c.maxLocals = 6) (hown : s.vm.findClass RX0 = some m.cls) (hts : ∀ w ∈ wsX0_checkOf, w.before args s = true) (hA : ∀ q : Nat, H0.size ≤ q → A q) (hK : va_K (dC, dI) vwCl [(cJ, .long)] s) (hRf : 1 ≤ R.frames) (hRl : 22 ≤ R.locals) (hRc : cells ≤ R.cells) (hRs : slots ≤ R.slots) (kk : ∀  (H : Heap) (locs : List Loc) (ls : Array Slot), va_P (dC, dI) vwCl [(h0, .inr (0, [.ref aN, .ref aL, .ref aK, .ref aC, .int (nI ld), .ref aT, .int (nI tb), .ref aO, .int (nI ob), .int (bI off), .int wl, .long wd])), (aN, .inl (cJ, 9504, .inr (.inl now)))] H → va_D A [(h0, .inr (0, [.ref aN, .ref aL, .ref aK, .ref aC, .int (nI ld), .ref aT, .int (nI tb), .ref aO, .int (nI ob), .int (bI off), .int wl, .long wd])), (aN, .inl (cJ, 9504, .inr (.inl now)))] → va_S A H0 H locs → lv_has ls 6 [(0, .ref h0), (1, .int (nI fr)), (2, .long (ckW now fr 66)), (4, .int (nI 66))] → W p l e R s m args below meth c H locs cells slots Q (F0 m 72 ls [])) : ∀ (n : Nat) (k : Nat), 66 + 1 ≤ k + n → k ≤ 66 → ∀ (H : Heap) (locs : List Loc) (ls : Array Slot), va_P (dC, dI) vwCl [(h0, .inr (0, [.ref aN, .ref aL, .ref aK, .ref aC, .int (nI ld), .ref aT, .int (nI tb), .ref aO, .int (nI ob), .int (bI off), .int wl, .long wd])), (aN, .inl (cJ, 9504, .inr (.inl now)))] H → va_D A [(h0, .inr (0, [.ref aN, .ref aL, .ref aK, .ref aC, .int (nI ld), .ref aT, .int (nI tb), .ref aO, .int (nI ob), .int (bI off), .int wl, .long wd])), (aN, .inl (cJ, 9504, .inr (.inl now)))] → va_S A H0 H locs → lv_has ls 6 [(0, .ref h0), (1, .int (nI fr)), (2, .long (ckW now fr k)), (4, .int (nI k))] → W p l e R s m args below meth c H locs cells slots Q (F0 m 7 ls []) := by
  have hi0 : ∀ w ∈ u_ws RX0 TX0 12, w ∈ wsX0_checkOf := by decide +kernel
  intro n
  induction n with
  | zero => intro k  hm hi; exact absurd hm (by omega)
  | succ n ih =>
    intro k  hm hi H locs ls hP hD hS hl
    refine lv_iload hx hb dX0_checkOf_7 (lv_at hl 3 rfl) ?_
    refine lv_bipush (v := nI 66) hx hb dX0_checkOf_9 (by decide) ?_
    refine zr_icmp_ge (tgt := 72) hx hb (by omega) (by omega) dX0_checkOf_11 (by decide) (fun c11 => ?_) (fun c11 => ?_)
    · obtain rfl : 66 = k := by omega
      exact kk  H locs ls (hP.sub [0, 1] rfl) (hD.sub [0, 1] (by decide) rfl) hS (lv_sub hl [0, 1, 2, 3] rfl)
    · refine lv_lload_n hx hb dX0_checkOf_14 rfl (lv_at hl 2 rfl) ?_
      refine lv_aload_n hx hb dX0_checkOf_15 rfl (lv_at hl 0 rfl) ?_
      refine va_get (D := (dC, dI)) (ci := 0) (v := .ref aN) (C := RX0) (T := TX0) (N := 12) hx hb hts hi0 hown hK hP 0 rfl rfl 0 (by decide) (hts (.fieldLink RX0 9 "CellRack" "now" "[J") (by decide +kernel)) (fun _ h9 => h9) rfl dX0_checkOf_16 ?_
      refine lv_iload_n hx hb dX0_checkOf_19 rfl (lv_at hl 1 rfl) ?_
      refine lv_iload hx hb dX0_checkOf_20 (lv_at hl 3 rfl) ?_
      have hPc := hP.sub (ws' := [(aN, .inl (cJ, 9504, .inr (.inl now)))]) [1] rfl
      have hDc := hD.sub (ws' := [(aN, .inl (cJ, 9504, .inr (.inl now)))]) [1] (by decide) rfl
      have hKc := hK.sub (tys' := [(cJ, .long)]) [0] rfl
      have hFc := va_free (wc := [(aN, .inl (cJ, 9504, .inr (.inl now)))]) hD hS hA [1] rfl
      refine va_calli (va_runS (As := [.ref aN, .int (nI fr), .int (nI k)]) (rest := [.long (ckW now fr k)]) ⟨hx, hb, hml, hown, hts⟩ (c_X0_byteOf l dC dI H.size aN cJ 9504 now fr k (by decide) (by omega) (by omega)) (va_cwS 3 hts gX0_checkOf_X0_byteOf rfl rfl rfl (by decide +kernel) ⟨Nat.le_trans (by decide) hRf, Nat.le_trans (by decide) hRl⟩) ⟨fun a U g mk q => by obtain ⟨q0, q1, qP, qK, qD⟩ := q; exact ⟨q0, q1, qP, va_K.moved (u := U) (U := U.calling g mk a) (Vm.Alike.refl U.vm) qK, qD⟩, fun U hU hW => ⟨rfl, by rw [hU], by rw [hU]; exact hPc, va_K.moved hW.alike hKc, hDc.weaken (fun _ _ _ _ => trivial)⟩⟩ rfl rfl hl.1 rfl (lv_room (Nat.le_of_ble_eq_true rfl)) dX0_checkOf_22 ⟨hRc, hRs⟩) hS (fun q _ h => hFc q h) hFc (fun r_1 u t H1 locs ht hvm hw hB hz1 hk1 hS => ?_)
      obtain ⟨hP1, hK1, hD1⟩ := hB
      rw [ht] at hP1
      obtain ⟨hP, hD⟩ := va_join (wr := [(h0, .inr (0, [.ref aN, .ref aL, .ref aK, .ref aC, .int (nI ld), .ref aT, .int (nI tb), .ref aO, .int (nI ob), .int (bI off), .int wl, .long wd]))]) (w1 := [(aN, .inl (cJ, 9504, .inr (.inl now)))]) hP hD [1] [0] rfl rfl (by decide) (by decide) hk1 hFc hP1 hD1
      clear hP1 hD1 hK1 hPc hDc hKc hFc hk1 hz1 hvm ht
      generalize H1 = H at hP hS ⊢
      have hP : va_P (dC, dI) vwCl [(h0, .inr (0, [.ref aN, .ref aL, .ref aK, .ref aC, .int (nI ld), .ref aT, .int (nI tb), .ref aO, .int (nI ob), .int (bI off), .int wl, .long wd])), (aN, .inl (cJ, 9504, .inr (.inl now)))] H := hP
      have hD : va_D A [(h0, .inr (0, [.ref aN, .ref aL, .ref aK, .ref aC, .int (nI ld), .ref aT, .int (nI tb), .ref aO, .int (nI ob), .int (bI off), .int wl, .long wd])), (aN, .inl (cJ, 9504, .inr (.inl now)))] := hD
      refine W.widen (k := cells) (n := slots) (Nat.le_refl _) (Nat.le_refl _) ?_
      obtain rfl := hw
      refine lv_i2l hx hb dX0_checkOf_25 rfl ?_
      refine lv_lxor hx hb dX0_checkOf_26 ?_
      refine lv_lstore_n (lv' := [(2, .long ((ckW now fr k) ^^^ ((nI (byF now fr k)).toInt64))), (0, .ref h0), (1, .int (nI fr)), (4, .int (nI k))]) hx hb dX0_checkOf_27 rfl hl (by decide) rfl (fun ls hl => ?_)
      refine lv_iconst (v := nI 0) hx hb dX0_checkOf_28 (by decide) ?_
      refine lv_istore (lv' := [(5, .int (nI 0)), (2, .long ((ckW now fr k) ^^^ ((nI (byF now fr k)).toInt64))), (0, .ref h0), (1, .int (nI fr)), (4, .int (nI k))]) hx hb dX0_checkOf_29 hl (by decide) rfl (fun ls hl => ?_)
      refine lp_X0_checkOf_in h0 aN aL aK aC aT aO ld tb ob off wl wd cJ now fr hf (ckW now fr k ^^^ (nI (byF now fr k)).toInt64) k hx hb hml hown hts hA hK (fun  H locs ls hP hD hS hl => ?_) 9 0 (by omega) (by omega) _ _ _ (hP.sub [0, 1] rfl) (hD.sub [0, 1] (by decide) rfl) hS (lv_sub hl [2, 3, 1, 4, 0] rfl)
      refine lv_iinc (v := nI (k + 1)) (lv' := [(4, .int (nI (k + 1))), (0, .ref h0), (1, .int (nI fr)), (2, .long (ckI (ckW now fr k ^^^ (nI (byF now fr k)).toInt64) 8))]) hx hb dX0_checkOf_66 hl (k := 3) rfl (nI_add (k) 1) (by decide) rfl (fun ls hl => ?_)
      refine lv_goto (tgt := 7) hx hb dX0_checkOf_69 (by decide) ?_
      exact ih (k + 1) (by omega) (by omega) H locs ls (hP.sub [0, 1] rfl) (hD.sub [0, 1] (by decide) rfl) hS (lv_sub hl [1, 2, 3, 0] rfl)
set_option maxHeartbeats 4000000 in
set_option maxRecDepth 100000 in
theorem c_X0_checkOf (l : Launch) (dC : Nat → ClassId) (dI : Nat → Nat → Nat) (sz : Nat) (h0 aN aL aK aC aT aO : Nat) (ld tb ob : Nat) (off : Bool) (wl : Int32) (wd : Int64) (cJ : ClassId) (now : Nat → Int64) (fr : Nat) (hf : fr + 9 ≤ 9504) : Met l yX0_checkOf wsX0_checkOf ({ frames := 1, cells := 0, slots := 0, locals := 22 }) (va_Pc [.ref h0, .int (nI fr)] (fun U => U.heap.size = sz ∧ va_P (dC, dI) vwCl [(h0, .inr (0, [.ref aN, .ref aL, .ref aK, .ref aC, .int (nI ld), .ref aT, .int (nI tb), .ref aO, .int (nI ob), .int (bI off), .int wl, .long wd])), (aN, .inl (cJ, 9504, .inr (.inl now)))] U.heap ∧ va_K (dC, dI) vwCl [(cJ, .long)] U ∧ va_D (fun _ => True) [(h0, .inr (0, [.ref aN, .ref aL, .ref aK, .ref aC, .int (nI ld), .ref aT, .int (nI tb), .ref aO, .int (nI ob), .int (bI off), .int wl, .long wd])), (aN, .inl (cJ, 9504, .inr (.inl now)))])) (va_Ql (fun (r : Int64) (_ : Unit) => r = ckV now fr) (fun (_ : Unit) t => va_P (dC, dI) vwCl [(h0, .inr (0, [.ref aN, .ref aL, .ref aK, .ref aC, .int (nI ld), .ref aT, .int (nI tb), .ref aO, .int (nI ob), .int (bI off), .int wl, .long wd])), (aN, .inl (cJ, 9504, .inr (.inl now)))] t.heap ∧ va_K (dC, dI) vwCl [(cJ, .long)] t ∧ va_D (va_A [(h0, .inr (0, [.ref aN, .ref aL, .ref aK, .ref aC, .int (nI ld), .ref aT, .int (nI tb), .ref aO, .int (nI ob), .int (bI off), .int wl, .long wd])), (aN, .inl (cJ, 9504, .inr (.inl now)))] sz) [(h0, .inr (0, [.ref aN, .ref aL, .ref aK, .ref aC, .int (nI ld), .ref aT, .int (nI tb), .ref aO, .int (nI ob), .int (bI off), .int wl, .long wd])), (aN, .inl (cJ, 9504, .inr (.inl now)))]) (va_A [(h0, .inr (0, [.ref aN, .ref aL, .ref aK, .ref aC, .int (nI ld), .ref aT, .int (nI tb), .ref aO, .int (nI ob), .int (bI off), .int wl, .long wd])), (aN, .inl (cJ, 9504, .inr (.inl now)))] sz)) 0 0 (va_A [(h0, .inr (0, [.ref aN, .ref aL, .ref aK, .ref aC, .int (nI ld), .ref aT, .int (nI tb), .ref aO, .int (nI ob), .int (bI off), .int wl, .long wd])), (aN, .inl (cJ, 9504, .inr (.inl now)))] sz) := by
  refine Met.ofW (cc := cX0_checkOf) (maxL := 6) (ret := some .long) (by decide) rfl ?_
  intro p e s m args below meth c s₁ B hml hv
  obtain ⟨rfl, hsz, hP, hK, hD0⟩ := hv
  have hx := B.exec
  have hb := B.bytes
  have hr := B.returns
  have hts := atoms_spec (ws := wsX0_checkOf) B.pre
  have hown : s.vm.findClass RX0 = some m.cls := findClass_of_methodNamed B.named
  have hlocks := B.notSynchronized
  subst hsz
  have hD := hD0.self (sz := s.heap.size)
  generalize hAe : va_A [(h0, .inr (0, [.ref aN, .ref aL, .ref aK, .ref aC, .int (nI ld), .ref aT, .int (nI tb), .ref aO, .int (nI ob), .int (bI off), .int wl, .long wd])), (aN, .inl (cJ, 9504, .inr (.inl now)))] s.heap.size = A at hD ⊢
  have hA : ∀ q : Nat, s.heap.size ≤ q → A q := fun q h => by rw [← hAe]; exact Or.inr h
  generalize hH : s.heap = H at hP ⊢
  have hS : va_S A s.heap H [] := by rw [hH]; exact va_S.rf
  have hP : va_P (dC, dI) vwCl [(h0, .inr (0, [.ref aN, .ref aL, .ref aK, .ref aC, .int (nI ld), .ref aT, .int (nI tb), .ref aO, .int (nI ob), .int (bI off), .int wl, .long wd])), (aN, .inl (cJ, 9504, .inr (.inl now)))] H := hP
  have hl := lv_entry ([.ref h0, .int (nI fr)]) (n := 6) (Nat.le_of_ble_eq_true rfl)
  rw [lg_entry_eq]
  generalize (lg_sl ([.ref h0, .int (nI fr)]) ++ List.replicate (6 - (lg_sl ([.ref h0, .int (nI fr)])).length) Slot.unset).toArray = ls at hl ⊢
  have hl : lv_has ls 6 [(0, .ref h0), (1, .int (nI fr))] := hl
  refine lv_ldc2 hx hb hown (hts (.constantLong RX0 171 (4294967295)) (by decide +kernel)) dX0_checkOf_0 ?_
  refine lv_lstore_n (lv' := [(2, .long 4294967295), (0, .ref h0), (1, .int (nI fr))]) hx hb dX0_checkOf_3 rfl hl (by decide) rfl (fun ls hl => ?_)
  refine lv_iconst (v := nI 0) hx hb dX0_checkOf_4 (by decide) ?_
  refine lv_istore (lv' := [(4, .int (nI 0)), (2, .long 4294967295), (0, .ref h0), (1, .int (nI fr))]) hx hb dX0_checkOf_5 hl (by decide) rfl (fun ls hl => ?_)
  refine lp_X0_checkOf h0 aN aL aK aC aT aO ld tb ob off wl wd cJ now fr hf hx hb hml hown hts hA hK (Nat.le_of_ble_eq_true rfl) (Nat.le_of_ble_eq_true rfl) (Nat.zero_le _) (Nat.zero_le _) (fun  H locs ls hP hD hS hl => ?_) 67 0 (by omega) (by omega) _ _ _ (hP.sub [0, 1] rfl) (hD.sub [0, 1] (by decide) rfl) hS (lv_sub hl [2, 3, 1, 0] rfl)
  refine lv_lload_n hx hb dX0_checkOf_72 rfl (lv_at hl 2 rfl) ?_
  refine lv_ldc2 hx hb hown (hts (.constantLong RX0 171 (4294967295)) (by decide +kernel)) dX0_checkOf_73 ?_
  refine lv_lxor hx hb dX0_checkOf_76 ?_
  have hP9 := hP.sub (ws' := [(h0, .inr (0, [.ref aN, .ref aL, .ref aK, .ref aC, .int (nI ld), .ref aT, .int (nI tb), .ref aO, .int (nI ob), .int (bI off), .int wl, .long wd])), (aN, .inl (cJ, 9504, .inr (.inl now)))]) [0, 1] rfl
  have hD9 := hD.sub (ws' := [(h0, .inr (0, [.ref aN, .ref aL, .ref aK, .ref aC, .int (nI ld), .ref aT, .int (nI tb), .ref aO, .int (nI ob), .int (bI off), .int wl, .long wd])), (aN, .inl (cJ, 9504, .inr (.inl now)))]) [0, 1] (by decide) rfl
  exact W.lret (v := (ckW now fr 66) ^^^ 4294967295) hx hb hr (fun t ht hW => ⟨⟨(ckW now fr 66) ^^^ 4294967295, (), rfl, rfl, by rw [ht]; exact hP9, va_K.moved hW.alike hK, hD9⟩, hS.F ht⟩) hS.2.2 dX0_checkOf_77
set_option maxHeartbeats 4000000 in
set_option maxRecDepth 100000 in
theorem c_X0_hasItsCheck (l : Launch) (dC : Nat → ClassId) (dI : Nat → Nat → Nat) (sz : Nat) (h0 aN aL aK aC aT aO : Nat) (ld tb ob : Nat) (off : Bool) (wl : Int32) (wd : Int64) (cJ : ClassId) (now : Nat → Int64) (fr : Nat) (hf : fr + 9 ≤ 9504) : Met l yX0_hasItsCheck wsX0_hasItsCheck ({ frames := 2, cells := 0, slots := 0, locals := 47 }) (va_Pc [.ref h0, .int (nI fr)] (fun U => U.heap.size = sz ∧ va_P (dC, dI) vwCl [(h0, .inr (0, [.ref aN, .ref aL, .ref aK, .ref aC, .int (nI ld), .ref aT, .int (nI tb), .ref aO, .int (nI ob), .int (bI off), .int wl, .long wd])), (aN, .inl (cJ, 9504, .inr (.inl now)))] U.heap ∧ va_K (dC, dI) vwCl [(cJ, .long)] U ∧ va_D (fun _ => True) [(h0, .inr (0, [.ref aN, .ref aL, .ref aK, .ref aC, .int (nI ld), .ref aT, .int (nI tb), .ref aO, .int (nI ob), .int (bI off), .int wl, .long wd])), (aN, .inl (cJ, 9504, .inr (.inl now)))])) (va_Qi (fun (r : Int32) (_ : Unit) => r = bI (icOK now fr)) (fun (_ : Unit) t => va_P (dC, dI) vwCl [(h0, .inr (0, [.ref aN, .ref aL, .ref aK, .ref aC, .int (nI ld), .ref aT, .int (nI tb), .ref aO, .int (nI ob), .int (bI off), .int wl, .long wd])), (aN, .inl (cJ, 9504, .inr (.inl now)))] t.heap ∧ va_K (dC, dI) vwCl [(cJ, .long)] t ∧ va_D (va_A [(h0, .inr (0, [.ref aN, .ref aL, .ref aK, .ref aC, .int (nI ld), .ref aT, .int (nI tb), .ref aO, .int (nI ob), .int (bI off), .int wl, .long wd])), (aN, .inl (cJ, 9504, .inr (.inl now)))] sz) [(h0, .inr (0, [.ref aN, .ref aL, .ref aK, .ref aC, .int (nI ld), .ref aT, .int (nI tb), .ref aO, .int (nI ob), .int (bI off), .int wl, .long wd])), (aN, .inl (cJ, 9504, .inr (.inl now)))]) (va_A [(h0, .inr (0, [.ref aN, .ref aL, .ref aK, .ref aC, .int (nI ld), .ref aT, .int (nI tb), .ref aO, .int (nI ob), .int (bI off), .int wl, .long wd])), (aN, .inl (cJ, 9504, .inr (.inl now)))] sz)) 0 0 (va_A [(h0, .inr (0, [.ref aN, .ref aL, .ref aK, .ref aC, .int (nI ld), .ref aT, .int (nI tb), .ref aO, .int (nI ob), .int (bI off), .int wl, .long wd])), (aN, .inl (cJ, 9504, .inr (.inl now)))] sz) := by
  refine Met.ofW (cc := cX0_hasItsCheck) (maxL := 2) (ret := some .boolean) (by decide) rfl ?_
  intro p e s m args below meth c s₁ B hml hv
  obtain ⟨rfl, hsz, hP, hK, hD0⟩ := hv
  have hx := B.exec
  have hb := B.bytes
  have hr := B.returns
  have hts := atoms_spec (ws := wsX0_hasItsCheck) B.pre
  have hown : s.vm.findClass RX0 = some m.cls := findClass_of_methodNamed B.named
  have hlocks := B.notSynchronized
  subst hsz
  have hD := hD0.self (sz := s.heap.size)
  generalize hAe : va_A [(h0, .inr (0, [.ref aN, .ref aL, .ref aK, .ref aC, .int (nI ld), .ref aT, .int (nI tb), .ref aO, .int (nI ob), .int (bI off), .int wl, .long wd])), (aN, .inl (cJ, 9504, .inr (.inl now)))] s.heap.size = A at hD ⊢
  have hA : ∀ q : Nat, s.heap.size ≤ q → A q := fun q h => by rw [← hAe]; exact Or.inr h
  generalize hH : s.heap = H at hP ⊢
  have hS : va_S A s.heap H [] := by rw [hH]; exact va_S.rf
  have hP : va_P (dC, dI) vwCl [(h0, .inr (0, [.ref aN, .ref aL, .ref aK, .ref aC, .int (nI ld), .ref aT, .int (nI tb), .ref aO, .int (nI ob), .int (bI off), .int wl, .long wd])), (aN, .inl (cJ, 9504, .inr (.inl now)))] H := hP
  have hl := lv_entry ([.ref h0, .int (nI fr)]) (n := 2) (Nat.le_of_ble_eq_true rfl)
  rw [lg_entry_eq]
  generalize (lg_sl ([.ref h0, .int (nI fr)]) ++ List.replicate (2 - (lg_sl ([.ref h0, .int (nI fr)])).length) Slot.unset).toArray = ls at hl ⊢
  have hl : lv_has ls 2 [(0, .ref h0), (1, .int (nI fr))] := hl
  have hi0 : ∀ w ∈ u_ws RX0 TX0 12, w ∈ wsX0_hasItsCheck := by decide +kernel
  refine lv_aload_n hx hb dX0_hasItsCheck_0 rfl (lv_at hl 0 rfl) ?_
  refine va_get (D := (dC, dI)) (ci := 0) (v := .ref aN) (C := RX0) (T := TX0) (N := 12) hx hb hts hi0 hown hK hP 0 rfl rfl 0 (by decide) (hts (.fieldLink RX0 9 "CellRack" "now" "[J") (by decide +kernel)) (fun _ h9 => h9) rfl dX0_hasItsCheck_1 ?_
  refine lv_iload_n hx hb dX0_hasItsCheck_4 rfl (lv_at hl 1 rfl) ?_
  refine lv_bipush (v := nI 8) hx hb dX0_hasItsCheck_5 (by decide) ?_
  refine zr_iadd hx hb dX0_hasItsCheck_7 ?_
  refine zr_lald hx hb hK hP 1 0 rfl rfl (by omega) (by omega) dX0_hasItsCheck_8 ?_
  refine lv_bipush (v := nI 16) hx hb dX0_hasItsCheck_9 (by decide) ?_
  refine lv_lushr hx hb dX0_hasItsCheck_11 rfl ?_
  refine lv_aload_n hx hb dX0_hasItsCheck_12 rfl (lv_at hl 0 rfl) ?_
  refine lv_iload_n hx hb dX0_hasItsCheck_13 rfl (lv_at hl 1 rfl) ?_
  have hPc := hP.sub (ws' := [(h0, .inr (0, [.ref aN, .ref aL, .ref aK, .ref aC, .int (nI ld), .ref aT, .int (nI tb), .ref aO, .int (nI ob), .int (bI off), .int wl, .long wd])), (aN, .inl (cJ, 9504, .inr (.inl now)))]) [0, 1] rfl
  have hDc := hD.sub (ws' := [(h0, .inr (0, [.ref aN, .ref aL, .ref aK, .ref aC, .int (nI ld), .ref aT, .int (nI tb), .ref aO, .int (nI ob), .int (bI off), .int wl, .long wd])), (aN, .inl (cJ, 9504, .inr (.inl now)))]) [0, 1] (by decide) rfl
  have hKc := hK.sub (tys' := [(cJ, .long)]) [0] rfl
  have hFc := va_free (wc := [(h0, .inr (0, [.ref aN, .ref aL, .ref aK, .ref aC, .int (nI ld), .ref aT, .int (nI tb), .ref aO, .int (nI ob), .int (bI off), .int wl, .long wd])), (aN, .inl (cJ, 9504, .inr (.inl now)))]) hD hS hA [0, 1] rfl
  refine va_calll (va_runV (As := [.int (nI fr)]) (rest := [.long (((now (fr + 8)).toUInt64 >>> ((nI 16).toInt64.toUInt64 &&& Int64.toUInt64 63)).toInt64)]) ⟨hx, hb, hml, hown, hts⟩ (c_X0_checkOf l dC dI H.size h0 aN aL aK aC aT aO ld tb ob off wl wd cJ now fr (by omega)) (cwV 1 hts gX0_hasItsCheck_X0_checkOf rfl rfl rfl (by decide +kernel) ⟨Nat.le_of_ble_eq_true rfl, Nat.le_of_ble_eq_true rfl⟩) ⟨fun a U g mk q => by obtain ⟨q0, q1, qP, qK, qD⟩ := q; exact ⟨q0, q1, qP, va_K.moved (u := U) (U := U.calling g mk a) (Vm.Alike.refl U.vm) qK, qD⟩, va_recv hKc hPc (ci := 0) (q0 := 0) rfl rfl, fun U hU hW => ⟨rfl, by rw [hU], by rw [hU]; exact hPc, va_K.moved hW.alike hKc, hDc.weaken (fun _ _ _ _ => trivial)⟩⟩ rfl rfl hl.1 rfl (lv_room (Nat.le_of_ble_eq_true rfl)) dX0_hasItsCheck_14 ⟨Nat.zero_le _, Nat.zero_le _⟩) hS (fun q _ h => hFc q h) hFc (fun r_1 u t H1 locs ht hvm hw hB hz1 hk1 hS => ?_)
  obtain ⟨hP1, hK1, hD1⟩ := hB
  rw [ht] at hP1
  obtain ⟨hP, hD⟩ := va_join (wr := []) (w1 := [(h0, .inr (0, [.ref aN, .ref aL, .ref aK, .ref aC, .int (nI ld), .ref aT, .int (nI tb), .ref aO, .int (nI ob), .int (bI off), .int wl, .long wd])), (aN, .inl (cJ, 9504, .inr (.inl now)))]) hP hD [0, 1] [] rfl rfl (by decide) (by decide) hk1 hFc hP1 hD1
  clear hP1 hD1 hK1 hPc hDc hKc hFc hk1 hz1 hvm ht
  generalize H1 = H at hP hS ⊢
  have hP : va_P (dC, dI) vwCl [(h0, .inr (0, [.ref aN, .ref aL, .ref aK, .ref aC, .int (nI ld), .ref aT, .int (nI tb), .ref aO, .int (nI ob), .int (bI off), .int wl, .long wd])), (aN, .inl (cJ, 9504, .inr (.inl now)))] H := hP
  have hD : va_D A [(h0, .inr (0, [.ref aN, .ref aL, .ref aK, .ref aC, .int (nI ld), .ref aT, .int (nI tb), .ref aO, .int (nI ob), .int (bI off), .int wl, .long wd])), (aN, .inl (cJ, 9504, .inr (.inl now)))] := hD
  refine W.widen (k := 0) (n := 0) (Nat.le_refl _) (Nat.le_refl _) ?_
  obtain rfl := hw
  refine W.lcmp hx hb dX0_hasItsCheck_17 ?_
  refine zr_cmp_ne (tgt := 25) hx hb dX0_hasItsCheck_18 (by decide) (fun c18 => ?_) (fun c18 => ?_)
  · refine lv_iconst (v := nI 0) hx hb dX0_hasItsCheck_25 (by decide) ?_
    refine zr_topi (bI (icOK now fr)) (by rw [show icOK now fr = false from decide_eq_false c18]; rfl) ?_
    have hP9 := hP.sub (ws' := [(h0, .inr (0, [.ref aN, .ref aL, .ref aK, .ref aC, .int (nI ld), .ref aT, .int (nI tb), .ref aO, .int (nI ob), .int (bI off), .int wl, .long wd])), (aN, .inl (cJ, 9504, .inr (.inl now)))]) [0, 1] rfl
    have hD9 := hD.sub (ws' := [(h0, .inr (0, [.ref aN, .ref aL, .ref aK, .ref aC, .int (nI ld), .ref aT, .int (nI tb), .ref aO, .int (nI ob), .int (bI off), .int wl, .long wd])), (aN, .inl (cJ, 9504, .inr (.inl now)))]) [0, 1] (by decide) rfl
    exact W.zret (v := bI (icOK now fr)) hx hb hr (zr_nar_b _) (fun t ht hW => ⟨⟨bI (icOK now fr), (), rfl, rfl, by rw [ht]; exact hP9, va_K.moved hW.alike hK, hD9⟩, hS.F ht⟩) hS.2.2 dX0_hasItsCheck_26
  · refine lv_iconst (v := nI 1) hx hb dX0_hasItsCheck_21 (by decide) ?_
    refine lv_goto (tgt := 26) hx hb dX0_hasItsCheck_22 (by decide) ?_
    refine zr_topi (bI (icOK now fr)) (by rw [show icOK now fr = true from decide_eq_true c18]; rfl) ?_
    have hP9 := hP.sub (ws' := [(h0, .inr (0, [.ref aN, .ref aL, .ref aK, .ref aC, .int (nI ld), .ref aT, .int (nI tb), .ref aO, .int (nI ob), .int (bI off), .int wl, .long wd])), (aN, .inl (cJ, 9504, .inr (.inl now)))]) [0, 1] rfl
    have hD9 := hD.sub (ws' := [(h0, .inr (0, [.ref aN, .ref aL, .ref aK, .ref aC, .int (nI ld), .ref aT, .int (nI tb), .ref aO, .int (nI ob), .int (bI off), .int wl, .long wd])), (aN, .inl (cJ, 9504, .inr (.inl now)))]) [0, 1] (by decide) rfl
    exact W.zret (v := bI (icOK now fr)) hx hb hr (zr_nar_b _) (fun t ht hW => ⟨⟨bI (icOK now fr), (), rfl, rfl, by rw [ht]; exact hP9, va_K.moved hW.alike hK, hD9⟩, hS.F ht⟩) hS.2.2 dX0_hasItsCheck_26
set_option maxHeartbeats 4000000 in
set_option maxRecDepth 100000 in
theorem c_X0_putTape (l : Launch) (dC : Nat → ClassId) (dI : Nat → Nat → Nat) (sz : Nat) (h0 aN aL aK aC aT aO : Nat) (ld tb ob : Nat) (off : Bool) (wl : Int32) (wd : Int64) (cJ cI : ClassId) (now latest tape : Nat → Int64) (kd cn : Nat → Nat) (sp tg : Nat) (hs : sp < 1056) (hk : kdOK kd) (hc : cnOK kd cn) : Met l yX0_putTape wsX0_putTape ({ frames := 2, cells := 0, slots := 0, locals := 47 }) (va_Pc [.ref h0, .int (nI sp), .int (nI tg)] (fun U => U.heap.size = sz ∧ va_P (dC, dI) vwCl [(h0, .inr (0, [.ref aN, .ref aL, .ref aK, .ref aC, .int (nI ld), .ref aT, .int (nI tb), .ref aO, .int (nI ob), .int (bI off), .int wl, .long wd])), (aN, .inl (cJ, 9504, .inr (.inl now))), (aL, .inl (cJ, 9504, .inr (.inl latest))), (aK, .inl (cI, 1056, .inl (fun i9 => nI (kd i9)))), (aC, .inl (cI, 4, .inl (fun i9 => nI (cn i9)))), (aT, .inl (cJ, 8, .inr (.inl tape)))] U.heap ∧ va_K (dC, dI) vwCl [(cJ, .long), (cI, .int)] U ∧ va_D (fun _ => True) [(h0, .inr (0, [.ref aN, .ref aL, .ref aK, .ref aC, .int (nI ld), .ref aT, .int (nI tb), .ref aO, .int (nI ob), .int (bI off), .int wl, .long wd])), (aN, .inl (cJ, 9504, .inr (.inl now))), (aL, .inl (cJ, 9504, .inr (.inl latest))), (aK, .inl (cI, 1056, .inl (fun i9 => nI (kd i9)))), (aC, .inl (cI, 4, .inl (fun i9 => nI (cn i9)))), (aT, .inl (cJ, 8, .inr (.inl tape)))])) (va_Qv (fun (_ : Unit) => True) (fun (_ : Unit) t => va_P (dC, dI) vwCl [(h0, .inr (0, [.ref aN, .ref aL, .ref aK, .ref aC, .int (nI ld), .ref aT, .int (nI tb), .ref aO, .int (nI ob), .int (bI off), .int wl, .long wd])), (aN, .inl (cJ, 9504, .inr (.inl (ptN tape now sp tg)))), (aL, .inl (cJ, 9504, .inr (.inl (ptL tape now latest sp tg)))), (aK, .inl (cI, 1056, .inl (fun i9 => nI ((va_up kd sp 2) i9)))), (aC, .inl (cI, 4, .inl (fun i9 => nI ((skC cn kd sp 2) i9)))), (aT, .inl (cJ, 8, .inr (.inl tape)))] t.heap ∧ va_K (dC, dI) vwCl [(cJ, .long), (cI, .int)] t ∧ va_D (va_A [(h0, .inr (0, [.ref aN, .ref aL, .ref aK, .ref aC, .int (nI ld), .ref aT, .int (nI tb), .ref aO, .int (nI ob), .int (bI off), .int wl, .long wd])), (aN, .inl (cJ, 9504, .inr (.inl now))), (aL, .inl (cJ, 9504, .inr (.inl latest))), (aK, .inl (cI, 1056, .inl (fun i9 => nI (kd i9)))), (aC, .inl (cI, 4, .inl (fun i9 => nI (cn i9)))), (aT, .inl (cJ, 8, .inr (.inl tape)))] sz) [(h0, .inr (0, [.ref aN, .ref aL, .ref aK, .ref aC, .int (nI ld), .ref aT, .int (nI tb), .ref aO, .int (nI ob), .int (bI off), .int wl, .long wd])), (aN, .inl (cJ, 9504, .inr (.inl (ptN tape now sp tg)))), (aL, .inl (cJ, 9504, .inr (.inl (ptL tape now latest sp tg)))), (aK, .inl (cI, 1056, .inl (fun i9 => nI ((va_up kd sp 2) i9)))), (aC, .inl (cI, 4, .inl (fun i9 => nI ((skC cn kd sp 2) i9)))), (aT, .inl (cJ, 8, .inr (.inl tape)))]) (va_A [(h0, .inr (0, [.ref aN, .ref aL, .ref aK, .ref aC, .int (nI ld), .ref aT, .int (nI tb), .ref aO, .int (nI ob), .int (bI off), .int wl, .long wd])), (aN, .inl (cJ, 9504, .inr (.inl now))), (aL, .inl (cJ, 9504, .inr (.inl latest))), (aK, .inl (cI, 1056, .inl (fun i9 => nI (kd i9)))), (aC, .inl (cI, 4, .inl (fun i9 => nI (cn i9)))), (aT, .inl (cJ, 8, .inr (.inl tape)))] sz)) 0 0 (va_A [(h0, .inr (0, [.ref aN, .ref aL, .ref aK, .ref aC, .int (nI ld), .ref aT, .int (nI tb), .ref aO, .int (nI ob), .int (bI off), .int wl, .long wd])), (aN, .inl (cJ, 9504, .inr (.inl now))), (aL, .inl (cJ, 9504, .inr (.inl latest))), (aK, .inl (cI, 1056, .inl (fun i9 => nI (kd i9)))), (aC, .inl (cI, 4, .inl (fun i9 => nI (cn i9)))), (aT, .inl (cJ, 8, .inr (.inl tape)))] sz) := by
  refine Met.ofW (cc := cX0_putTape) (maxL := 4) (ret := none) (by decide) rfl ?_
  intro p e s m args below meth c s₁ B hml hv
  obtain ⟨rfl, hsz, hP, hK, hD0⟩ := hv
  have hx := B.exec
  have hb := B.bytes
  have hr := B.returns
  have hts := atoms_spec (ws := wsX0_putTape) B.pre
  have hown : s.vm.findClass RX0 = some m.cls := findClass_of_methodNamed B.named
  have hlocks := B.notSynchronized
  subst hsz
  have hD := hD0.self (sz := s.heap.size)
  generalize hAe : va_A [(h0, .inr (0, [.ref aN, .ref aL, .ref aK, .ref aC, .int (nI ld), .ref aT, .int (nI tb), .ref aO, .int (nI ob), .int (bI off), .int wl, .long wd])), (aN, .inl (cJ, 9504, .inr (.inl now))), (aL, .inl (cJ, 9504, .inr (.inl latest))), (aK, .inl (cI, 1056, .inl (fun i9 => nI (kd i9)))), (aC, .inl (cI, 4, .inl (fun i9 => nI (cn i9)))), (aT, .inl (cJ, 8, .inr (.inl tape)))] s.heap.size = A at hD ⊢
  have hA : ∀ q : Nat, s.heap.size ≤ q → A q := fun q h => by rw [← hAe]; exact Or.inr h
  generalize hH : s.heap = H at hP ⊢
  have hS : va_S A s.heap H [] := by rw [hH]; exact va_S.rf
  have hP : va_P (dC, dI) vwCl [(h0, .inr (0, [.ref aN, .ref aL, .ref aK, .ref aC, .int (nI ld), .ref aT, .int (nI tb), .ref aO, .int (nI ob), .int (bI off), .int wl, .long wd])), (aN, .inl (cJ, 9504, .inr (.inl now))), (aL, .inl (cJ, 9504, .inr (.inl latest))), (aK, .inl (cI, 1056, .inl (fun i9 => nI (kd i9)))), (aC, .inl (cI, 4, .inl (fun i9 => nI (cn i9)))), (aT, .inl (cJ, 8, .inr (.inl tape)))] H := hP
  have hl := lv_entry ([.ref h0, .int (nI sp), .int (nI tg)]) (n := 4) (Nat.le_of_ble_eq_true rfl)
  rw [lg_entry_eq]
  generalize (lg_sl ([.ref h0, .int (nI sp), .int (nI tg)]) ++ List.replicate (4 - (lg_sl ([.ref h0, .int (nI sp), .int (nI tg)])).length) Slot.unset).toArray = ls at hl ⊢
  have hl : lv_has ls 4 [(0, .ref h0), (1, .int (nI sp)), (2, .int (nI tg))] := hl
  have hi0 : ∀ w ∈ u_ws RX0 TX0 12, w ∈ wsX0_putTape := by decide +kernel
  refine lv_iload_n hx hb dX0_putTape_0 rfl (lv_at hl 1 rfl) ?_
  refine lv_bipush (v := nI 9) hx hb dX0_putTape_1 (by decide) ?_
  refine zr_imul hx hb dX0_putTape_3 ?_
  refine lv_istore_n (lv' := [(3, .int (nI (sp * 9))), (0, .ref h0), (1, .int (nI sp)), (2, .int (nI tg))]) hx hb dX0_putTape_4 rfl hl (by decide) rfl (fun ls hl => ?_)
  refine lv_aload_n hx hb dX0_putTape_5 rfl (lv_at hl 1 rfl) ?_
  refine va_get (D := (dC, dI)) (ci := 0) (v := .ref aT) (C := RX0) (T := TX0) (N := 12) hx hb hts hi0 hown hK hP 0 rfl rfl 5 (by decide) (hts (.fieldLink RX0 33 "CellRack" "tape" "[J") (by decide +kernel)) (fun _ h9 => h9) rfl dX0_putTape_6 ?_
  refine lv_iconst (v := nI 0) hx hb dX0_putTape_9 (by decide) ?_
  refine lv_aload_n hx hb dX0_putTape_10 rfl (lv_at hl 1 rfl) ?_
  refine va_get (D := (dC, dI)) (ci := 0) (v := .ref aN) (C := RX0) (T := TX0) (N := 12) hx hb hts hi0 hown hK hP 0 rfl rfl 0 (by decide) (hts (.fieldLink RX0 9 "CellRack" "now" "[J") (by decide +kernel)) (fun _ h9 => h9) rfl dX0_putTape_11 ?_
  refine lv_iload_n hx hb dX0_putTape_14 rfl (lv_at hl 0 rfl) ?_
  refine lv_bipush (v := nI 8) hx hb dX0_putTape_15 (by decide) ?_
  refine zr_copyl hx hb (hml.trans hl.1.symm) hown (hts (.methodLink RX0 106 arraycopyName) (by decide +kernel)) (hts (.native arraycopyName) (by decide +kernel)) (hts (.static arraycopyName) (by decide +kernel)) (hts (.initialized "java/lang/System") (by decide +kernel)) hK hP hD hS 5 1 0 rfl rfl rfl (by omega) (by omega) (by decide) (by decide) (Nat.le_of_ble_eq_true rfl) (Nat.le_of_ble_eq_true rfl) dX0_putTape_17 (fun H locs hP hD hS => ?_)
  have hP : va_P (dC, dI) vwCl [(h0, .inr (0, [.ref aN, .ref aL, .ref aK, .ref aC, .int (nI ld), .ref aT, .int (nI tb), .ref aO, .int (nI ob), .int (bI off), .int wl, .long wd])), (aN, .inl (cJ, 9504, .inr (.inl (va_cpy tape now 0 (sp * 9) 8)))), (aL, .inl (cJ, 9504, .inr (.inl latest))), (aK, .inl (cI, 1056, .inl (fun i9 => nI (kd i9)))), (aC, .inl (cI, 4, .inl (fun i9 => nI (cn i9)))), (aT, .inl (cJ, 8, .inr (.inl tape)))] H := hP
  have hD : va_D A [(h0, .inr (0, [.ref aN, .ref aL, .ref aK, .ref aC, .int (nI ld), .ref aT, .int (nI tb), .ref aO, .int (nI ob), .int (bI off), .int wl, .long wd])), (aN, .inl (cJ, 9504, .inr (.inl (va_cpy tape now 0 (sp * 9) 8)))), (aL, .inl (cJ, 9504, .inr (.inl latest))), (aK, .inl (cI, 1056, .inl (fun i9 => nI (kd i9)))), (aC, .inl (cI, 4, .inl (fun i9 => nI (cn i9)))), (aT, .inl (cJ, 8, .inr (.inl tape)))] := hD
  refine lv_aload_n hx hb dX0_putTape_20 rfl (lv_at hl 1 rfl) ?_
  refine va_get (D := (dC, dI)) (ci := 0) (v := .ref aN) (C := RX0) (T := TX0) (N := 12) hx hb hts hi0 hown hK hP 0 rfl rfl 0 (by decide) (hts (.fieldLink RX0 9 "CellRack" "now" "[J") (by decide +kernel)) (fun _ h9 => h9) rfl dX0_putTape_21 ?_
  refine lv_iload_n hx hb dX0_putTape_24 rfl (lv_at hl 0 rfl) ?_
  refine lv_bipush (v := nI 8) hx hb dX0_putTape_25 (by decide) ?_
  refine zr_iadd hx hb dX0_putTape_27 ?_
  refine lv_iload_n hx hb dX0_putTape_28 rfl (lv_at hl 3 rfl) ?_
  refine lv_i2l hx hb dX0_putTape_29 rfl ?_
  refine zr_last hx hb hK hP hD hS 1 0 rfl rfl (by omega) (by omega) dX0_putTape_30 (fun H locs hP hD hS => ?_)
  have hP : va_P (dC, dI) vwCl [(h0, .inr (0, [.ref aN, .ref aL, .ref aK, .ref aC, .int (nI ld), .ref aT, .int (nI tb), .ref aO, .int (nI ob), .int (bI off), .int wl, .long wd])), (aN, .inl (cJ, 9504, .inr (.inl (va_up (va_cpy tape now 0 (sp * 9) 8) ((sp * 9) + 8) ((nI tg).toInt64))))), (aL, .inl (cJ, 9504, .inr (.inl latest))), (aK, .inl (cI, 1056, .inl (fun i9 => nI (kd i9)))), (aC, .inl (cI, 4, .inl (fun i9 => nI (cn i9)))), (aT, .inl (cJ, 8, .inr (.inl tape)))] H := hP
  have hD : va_D A [(h0, .inr (0, [.ref aN, .ref aL, .ref aK, .ref aC, .int (nI ld), .ref aT, .int (nI tb), .ref aO, .int (nI ob), .int (bI off), .int wl, .long wd])), (aN, .inl (cJ, 9504, .inr (.inl (va_up (va_cpy tape now 0 (sp * 9) 8) ((sp * 9) + 8) ((nI tg).toInt64))))), (aL, .inl (cJ, 9504, .inr (.inl latest))), (aK, .inl (cI, 1056, .inl (fun i9 => nI (kd i9)))), (aC, .inl (cI, 4, .inl (fun i9 => nI (cn i9)))), (aT, .inl (cJ, 8, .inr (.inl tape)))] := hD
  refine lv_aload_n hx hb dX0_putTape_31 rfl (lv_at hl 1 rfl) ?_
  refine va_get (D := (dC, dI)) (ci := 0) (v := .ref aN) (C := RX0) (T := TX0) (N := 12) hx hb hts hi0 hown hK hP 0 rfl rfl 0 (by decide) (hts (.fieldLink RX0 9 "CellRack" "now" "[J") (by decide +kernel)) (fun _ h9 => h9) rfl dX0_putTape_32 ?_
  refine lv_iload_n hx hb dX0_putTape_35 rfl (lv_at hl 0 rfl) ?_
  refine lv_bipush (v := nI 8) hx hb dX0_putTape_36 (by decide) ?_
  refine zr_iadd hx hb dX0_putTape_38 ?_
  refine lv_dup2_11 hx hb dX0_putTape_39 rfl rfl ?_
  refine zr_lald hx hb hK hP 1 0 rfl rfl (by omega) (by omega) dX0_putTape_40 ?_
  refine lv_aload_n hx hb dX0_putTape_41 rfl (lv_at hl 1 rfl) ?_
  refine lv_iload_n hx hb dX0_putTape_42 rfl (lv_at hl 0 rfl) ?_
  have hPc := hP.sub (ws' := [(h0, .inr (0, [.ref aN, .ref aL, .ref aK, .ref aC, .int (nI ld), .ref aT, .int (nI tb), .ref aO, .int (nI ob), .int (bI off), .int wl, .long wd])), (aN, .inl (cJ, 9504, .inr (.inl (va_up (va_cpy tape now 0 (sp * 9) 8) ((sp * 9) + 8) ((nI tg).toInt64)))))]) [0, 1] rfl
  have hDc := hD.sub (ws' := [(h0, .inr (0, [.ref aN, .ref aL, .ref aK, .ref aC, .int (nI ld), .ref aT, .int (nI tb), .ref aO, .int (nI ob), .int (bI off), .int wl, .long wd])), (aN, .inl (cJ, 9504, .inr (.inl (va_up (va_cpy tape now 0 (sp * 9) 8) ((sp * 9) + 8) ((nI tg).toInt64)))))]) [0, 1] (by decide) rfl
  have hKc := hK.sub (tys' := [(cJ, .long)]) [0] rfl
  have hFc := va_free (wc := [(h0, .inr (0, [.ref aN, .ref aL, .ref aK, .ref aC, .int (nI ld), .ref aT, .int (nI tb), .ref aO, .int (nI ob), .int (bI off), .int wl, .long wd])), (aN, .inl (cJ, 9504, .inr (.inl (va_up (va_cpy tape now 0 (sp * 9) 8) ((sp * 9) + 8) ((nI tg).toInt64)))))]) hD hS hA [0, 1] rfl
  refine va_calll (va_runV (As := [.int (nI (sp * 9))]) (rest := [.long ((va_up (va_cpy tape now 0 (sp * 9) 8) ((sp * 9) + 8) ((nI tg).toInt64)) ((sp * 9) + 8)), .int (nI ((sp * 9) + 8)), .ref aN]) ⟨hx, hb, hml, hown, hts⟩ (c_X0_checkOf l dC dI H.size h0 aN aL aK aC aT aO ld tb ob off wl wd cJ (va_up (va_cpy tape now 0 (sp * 9) 8) ((sp * 9) + 8) ((nI tg).toInt64)) (sp * 9) (by omega)) (cwV 1 hts gX0_putTape_X0_checkOf rfl rfl rfl (by decide +kernel) ⟨Nat.le_of_ble_eq_true rfl, Nat.le_of_ble_eq_true rfl⟩) ⟨fun a U g mk q => by obtain ⟨q0, q1, qP, qK, qD⟩ := q; exact ⟨q0, q1, qP, va_K.moved (u := U) (U := U.calling g mk a) (Vm.Alike.refl U.vm) qK, qD⟩, va_recv hKc hPc (ci := 0) (q0 := 0) rfl rfl, fun U hU hW => ⟨rfl, by rw [hU], by rw [hU]; exact hPc, va_K.moved hW.alike hKc, hDc.weaken (fun _ _ _ _ => trivial)⟩⟩ rfl rfl hl.1 rfl (lv_room (Nat.le_of_ble_eq_true rfl)) dX0_putTape_43 ⟨Nat.zero_le _, Nat.zero_le _⟩) hS (fun q _ h => hFc q h) hFc (fun r_1 u t H1 locs ht hvm hw hB hz1 hk1 hS => ?_)
  obtain ⟨hP1, hK1, hD1⟩ := hB
  rw [ht] at hP1
  obtain ⟨hP, hD⟩ := va_join (wr := [(aL, .inl (cJ, 9504, .inr (.inl latest))), (aK, .inl (cI, 1056, .inl (fun i9 => nI (kd i9)))), (aC, .inl (cI, 4, .inl (fun i9 => nI (cn i9)))), (aT, .inl (cJ, 8, .inr (.inl tape)))]) (w1 := [(h0, .inr (0, [.ref aN, .ref aL, .ref aK, .ref aC, .int (nI ld), .ref aT, .int (nI tb), .ref aO, .int (nI ob), .int (bI off), .int wl, .long wd])), (aN, .inl (cJ, 9504, .inr (.inl (va_up (va_cpy tape now 0 (sp * 9) 8) ((sp * 9) + 8) ((nI tg).toInt64)))))]) hP hD [0, 1] [2, 3, 4, 5] rfl rfl (by decide) (by decide) hk1 hFc hP1 hD1
  clear hP1 hD1 hK1 hPc hDc hKc hFc hk1 hz1 hvm ht
  generalize H1 = H at hP hS ⊢
  have hP : va_P (dC, dI) vwCl [(aL, .inl (cJ, 9504, .inr (.inl latest))), (aK, .inl (cI, 1056, .inl (fun i9 => nI (kd i9)))), (aC, .inl (cI, 4, .inl (fun i9 => nI (cn i9)))), (aT, .inl (cJ, 8, .inr (.inl tape))), (h0, .inr (0, [.ref aN, .ref aL, .ref aK, .ref aC, .int (nI ld), .ref aT, .int (nI tb), .ref aO, .int (nI ob), .int (bI off), .int wl, .long wd])), (aN, .inl (cJ, 9504, .inr (.inl (va_up (va_cpy tape now 0 (sp * 9) 8) ((sp * 9) + 8) ((nI tg).toInt64)))))] H := hP
  have hD : va_D A [(aL, .inl (cJ, 9504, .inr (.inl latest))), (aK, .inl (cI, 1056, .inl (fun i9 => nI (kd i9)))), (aC, .inl (cI, 4, .inl (fun i9 => nI (cn i9)))), (aT, .inl (cJ, 8, .inr (.inl tape))), (h0, .inr (0, [.ref aN, .ref aL, .ref aK, .ref aC, .int (nI ld), .ref aT, .int (nI tb), .ref aO, .int (nI ob), .int (bI off), .int wl, .long wd])), (aN, .inl (cJ, 9504, .inr (.inl (va_up (va_cpy tape now 0 (sp * 9) 8) ((sp * 9) + 8) ((nI tg).toInt64)))))] := hD
  refine W.widen (k := 0) (n := 0) (Nat.le_refl _) (Nat.le_refl _) ?_
  obtain rfl := hw
  refine lv_bipush (v := nI 16) hx hb dX0_putTape_46 (by decide) ?_
  refine lv_lshl hx hb dX0_putTape_48 rfl ?_
  refine lv_lor hx hb dX0_putTape_49 ?_
  refine zr_last hx hb hK hP hD hS 5 0 rfl rfl (by omega) (by omega) dX0_putTape_50 (fun H locs hP hD hS => ?_)
  have hP : va_P (dC, dI) vwCl [(aL, .inl (cJ, 9504, .inr (.inl latest))), (aK, .inl (cI, 1056, .inl (fun i9 => nI (kd i9)))), (aC, .inl (cI, 4, .inl (fun i9 => nI (cn i9)))), (aT, .inl (cJ, 8, .inr (.inl tape))), (h0, .inr (0, [.ref aN, .ref aL, .ref aK, .ref aC, .int (nI ld), .ref aT, .int (nI tb), .ref aO, .int (nI ob), .int (bI off), .int wl, .long wd])), (aN, .inl (cJ, 9504, .inr (.inl (va_up (va_up (va_cpy tape now 0 (sp * 9) 8) ((sp * 9) + 8) ((nI tg).toInt64)) ((sp * 9) + 8) (((va_up (va_cpy tape now 0 (sp * 9) 8) ((sp * 9) + 8) ((nI tg).toInt64)) ((sp * 9) + 8)) ||| ((ckV (va_up (va_cpy tape now 0 (sp * 9) 8) ((sp * 9) + 8) ((nI tg).toInt64)) (sp * 9)) <<< ((nI 16).toInt64 &&& 63)))))))] H := hP
  have hD : va_D A [(aL, .inl (cJ, 9504, .inr (.inl latest))), (aK, .inl (cI, 1056, .inl (fun i9 => nI (kd i9)))), (aC, .inl (cI, 4, .inl (fun i9 => nI (cn i9)))), (aT, .inl (cJ, 8, .inr (.inl tape))), (h0, .inr (0, [.ref aN, .ref aL, .ref aK, .ref aC, .int (nI ld), .ref aT, .int (nI tb), .ref aO, .int (nI ob), .int (bI off), .int wl, .long wd])), (aN, .inl (cJ, 9504, .inr (.inl (va_up (va_up (va_cpy tape now 0 (sp * 9) 8) ((sp * 9) + 8) ((nI tg).toInt64)) ((sp * 9) + 8) (((va_up (va_cpy tape now 0 (sp * 9) 8) ((sp * 9) + 8) ((nI tg).toInt64)) ((sp * 9) + 8)) ||| ((ckV (va_up (va_cpy tape now 0 (sp * 9) 8) ((sp * 9) + 8) ((nI tg).toInt64)) (sp * 9)) <<< ((nI 16).toInt64 &&& 63)))))))] := hD
  refine lv_aload_n hx hb dX0_putTape_51 rfl (lv_at hl 1 rfl) ?_
  refine va_get (D := (dC, dI)) (ci := 0) (v := .ref aN) (C := RX0) (T := TX0) (N := 12) hx hb hts hi0 hown hK hP 4 rfl rfl 0 (by decide) (hts (.fieldLink RX0 9 "CellRack" "now" "[J") (by decide +kernel)) (fun _ h9 => h9) rfl dX0_putTape_52 ?_
  refine lv_iload_n hx hb dX0_putTape_55 rfl (lv_at hl 0 rfl) ?_
  refine lv_aload_n hx hb dX0_putTape_56 rfl (lv_at hl 1 rfl) ?_
  refine va_get (D := (dC, dI)) (ci := 0) (v := .ref aL) (C := RX0) (T := TX0) (N := 12) hx hb hts hi0 hown hK hP 4 rfl rfl 1 (by decide) (hts (.fieldLink RX0 13 "CellRack" "latest" "[J") (by decide +kernel)) (fun _ h9 => h9) rfl dX0_putTape_57 ?_
  refine lv_iload_n hx hb dX0_putTape_60 rfl (lv_at hl 0 rfl) ?_
  refine lv_bipush (v := nI 9) hx hb dX0_putTape_61 (by decide) ?_
  refine zr_copyl hx hb (hml.trans hl.1.symm) hown (hts (.methodLink RX0 106 arraycopyName) (by decide +kernel)) (hts (.native arraycopyName) (by decide +kernel)) (hts (.static arraycopyName) (by decide +kernel)) (hts (.initialized "java/lang/System") (by decide +kernel)) hK hP hD hS 5 0 0 rfl rfl rfl (by omega) (by omega) (by decide) (by decide) (Nat.le_of_ble_eq_true rfl) (Nat.le_of_ble_eq_true rfl) dX0_putTape_63 (fun H locs hP hD hS => ?_)
  have hP : va_P (dC, dI) vwCl [(aL, .inl (cJ, 9504, .inr (.inl (va_cpy (va_up (va_up (va_cpy tape now 0 (sp * 9) 8) ((sp * 9) + 8) ((nI tg).toInt64)) ((sp * 9) + 8) (((va_up (va_cpy tape now 0 (sp * 9) 8) ((sp * 9) + 8) ((nI tg).toInt64)) ((sp * 9) + 8)) ||| ((ckV (va_up (va_cpy tape now 0 (sp * 9) 8) ((sp * 9) + 8) ((nI tg).toInt64)) (sp * 9)) <<< ((nI 16).toInt64 &&& 63)))) latest (sp * 9) (sp * 9) 9)))), (aK, .inl (cI, 1056, .inl (fun i9 => nI (kd i9)))), (aC, .inl (cI, 4, .inl (fun i9 => nI (cn i9)))), (aT, .inl (cJ, 8, .inr (.inl tape))), (h0, .inr (0, [.ref aN, .ref aL, .ref aK, .ref aC, .int (nI ld), .ref aT, .int (nI tb), .ref aO, .int (nI ob), .int (bI off), .int wl, .long wd])), (aN, .inl (cJ, 9504, .inr (.inl (va_up (va_up (va_cpy tape now 0 (sp * 9) 8) ((sp * 9) + 8) ((nI tg).toInt64)) ((sp * 9) + 8) (((va_up (va_cpy tape now 0 (sp * 9) 8) ((sp * 9) + 8) ((nI tg).toInt64)) ((sp * 9) + 8)) ||| ((ckV (va_up (va_cpy tape now 0 (sp * 9) 8) ((sp * 9) + 8) ((nI tg).toInt64)) (sp * 9)) <<< ((nI 16).toInt64 &&& 63)))))))] H := hP
  have hD : va_D A [(aL, .inl (cJ, 9504, .inr (.inl (va_cpy (va_up (va_up (va_cpy tape now 0 (sp * 9) 8) ((sp * 9) + 8) ((nI tg).toInt64)) ((sp * 9) + 8) (((va_up (va_cpy tape now 0 (sp * 9) 8) ((sp * 9) + 8) ((nI tg).toInt64)) ((sp * 9) + 8)) ||| ((ckV (va_up (va_cpy tape now 0 (sp * 9) 8) ((sp * 9) + 8) ((nI tg).toInt64)) (sp * 9)) <<< ((nI 16).toInt64 &&& 63)))) latest (sp * 9) (sp * 9) 9)))), (aK, .inl (cI, 1056, .inl (fun i9 => nI (kd i9)))), (aC, .inl (cI, 4, .inl (fun i9 => nI (cn i9)))), (aT, .inl (cJ, 8, .inr (.inl tape))), (h0, .inr (0, [.ref aN, .ref aL, .ref aK, .ref aC, .int (nI ld), .ref aT, .int (nI tb), .ref aO, .int (nI ob), .int (bI off), .int wl, .long wd])), (aN, .inl (cJ, 9504, .inr (.inl (va_up (va_up (va_cpy tape now 0 (sp * 9) 8) ((sp * 9) + 8) ((nI tg).toInt64)) ((sp * 9) + 8) (((va_up (va_cpy tape now 0 (sp * 9) 8) ((sp * 9) + 8) ((nI tg).toInt64)) ((sp * 9) + 8)) ||| ((ckV (va_up (va_cpy tape now 0 (sp * 9) 8) ((sp * 9) + 8) ((nI tg).toInt64)) (sp * 9)) <<< ((nI 16).toInt64 &&& 63)))))))] := hD
  refine lv_aload_n hx hb dX0_putTape_66 rfl (lv_at hl 1 rfl) ?_
  refine lv_iload_n hx hb dX0_putTape_67 rfl (lv_at hl 2 rfl) ?_
  refine lv_iconst (v := nI 2) hx hb dX0_putTape_68 (by decide) ?_
  have hPc := hP.sub (ws' := [(h0, .inr (0, [.ref aN, .ref aL, .ref aK, .ref aC, .int (nI ld), .ref aT, .int (nI tb), .ref aO, .int (nI ob), .int (bI off), .int wl, .long wd])), (aK, .inl (cI, 1056, .inl (fun i9 => nI (kd i9)))), (aC, .inl (cI, 4, .inl (fun i9 => nI (cn i9))))]) [4, 1, 2] rfl
  have hDc := hD.sub (ws' := [(h0, .inr (0, [.ref aN, .ref aL, .ref aK, .ref aC, .int (nI ld), .ref aT, .int (nI tb), .ref aO, .int (nI ob), .int (bI off), .int wl, .long wd])), (aK, .inl (cI, 1056, .inl (fun i9 => nI (kd i9)))), (aC, .inl (cI, 4, .inl (fun i9 => nI (cn i9))))]) [4, 1, 2] (by decide) rfl
  have hKc := hK.sub (tys' := [(cI, .int)]) [1] rfl
  have hFc := va_free (wc := [(h0, .inr (0, [.ref aN, .ref aL, .ref aK, .ref aC, .int (nI ld), .ref aT, .int (nI tb), .ref aO, .int (nI ob), .int (bI off), .int wl, .long wd])), (aK, .inl (cI, 1056, .inl (fun i9 => nI (kd i9)))), (aC, .inl (cI, 4, .inl (fun i9 => nI (cn i9))))]) hD hS hA [4, 1, 2] rfl
  refine va_callv (va_runV (As := [.int (nI sp), .int (nI 2)]) (rest := []) ⟨hx, hb, hml, hown, hts⟩ (c_X0_setKind l dC dI H.size h0 aN aL aK aC aT aO ld tb ob off wl wd cI kd cn sp 2 hs (by decide) hk (cnOK_pos hc hs (hk _))) (cwV 2 hts gX0_putTape_X0_setKind rfl rfl rfl (by decide +kernel) ⟨Nat.le_of_ble_eq_true rfl, Nat.le_of_ble_eq_true rfl⟩) ⟨fun a U g mk q => by obtain ⟨q0, q1, qP, qK, qD⟩ := q; exact ⟨q0, q1, qP, va_K.moved (u := U) (U := U.calling g mk a) (Vm.Alike.refl U.vm) qK, qD⟩, va_recv hKc hPc (ci := 0) (q0 := 0) rfl rfl, fun U hU hW => ⟨rfl, by rw [hU], by rw [hU]; exact hPc, va_K.moved hW.alike hKc, hDc.weaken (fun _ _ _ _ => trivial)⟩⟩ rfl rfl hl.1 rfl (lv_room (Nat.le_of_ble_eq_true rfl)) dX0_putTape_69 ⟨Nat.zero_le _, Nat.zero_le _⟩) hS (fun q _ h => hFc q h) hFc (fun u t H1 locs ht hvm hw hB hz1 hk1 hS => ?_)
  obtain ⟨hP1, hK1, hD1⟩ := hB
  rw [ht] at hP1
  obtain ⟨hP, hD⟩ := va_join (wr := [(aL, .inl (cJ, 9504, .inr (.inl (va_cpy (va_up (va_up (va_cpy tape now 0 (sp * 9) 8) ((sp * 9) + 8) ((nI tg).toInt64)) ((sp * 9) + 8) (((va_up (va_cpy tape now 0 (sp * 9) 8) ((sp * 9) + 8) ((nI tg).toInt64)) ((sp * 9) + 8)) ||| ((ckV (va_up (va_cpy tape now 0 (sp * 9) 8) ((sp * 9) + 8) ((nI tg).toInt64)) (sp * 9)) <<< ((nI 16).toInt64 &&& 63)))) latest (sp * 9) (sp * 9) 9)))), (aT, .inl (cJ, 8, .inr (.inl tape))), (aN, .inl (cJ, 9504, .inr (.inl (va_up (va_up (va_cpy tape now 0 (sp * 9) 8) ((sp * 9) + 8) ((nI tg).toInt64)) ((sp * 9) + 8) (((va_up (va_cpy tape now 0 (sp * 9) 8) ((sp * 9) + 8) ((nI tg).toInt64)) ((sp * 9) + 8)) ||| ((ckV (va_up (va_cpy tape now 0 (sp * 9) 8) ((sp * 9) + 8) ((nI tg).toInt64)) (sp * 9)) <<< ((nI 16).toInt64 &&& 63)))))))]) (w1 := [(h0, .inr (0, [.ref aN, .ref aL, .ref aK, .ref aC, .int (nI ld), .ref aT, .int (nI tb), .ref aO, .int (nI ob), .int (bI off), .int wl, .long wd])), (aK, .inl (cI, 1056, .inl (fun i9 => nI ((va_up kd sp 2) i9)))), (aC, .inl (cI, 4, .inl (fun i9 => nI ((skC cn kd sp 2) i9))))]) hP hD [4, 1, 2] [0, 3, 5] rfl rfl (by decide) (by decide) hk1 hFc hP1 hD1
  clear hP1 hD1 hK1 hPc hDc hKc hFc hk1 hz1 hvm ht
  generalize H1 = H at hP hS ⊢
  have hP : va_P (dC, dI) vwCl [(aL, .inl (cJ, 9504, .inr (.inl (va_cpy (va_up (va_up (va_cpy tape now 0 (sp * 9) 8) ((sp * 9) + 8) ((nI tg).toInt64)) ((sp * 9) + 8) (((va_up (va_cpy tape now 0 (sp * 9) 8) ((sp * 9) + 8) ((nI tg).toInt64)) ((sp * 9) + 8)) ||| ((ckV (va_up (va_cpy tape now 0 (sp * 9) 8) ((sp * 9) + 8) ((nI tg).toInt64)) (sp * 9)) <<< ((nI 16).toInt64 &&& 63)))) latest (sp * 9) (sp * 9) 9)))), (aT, .inl (cJ, 8, .inr (.inl tape))), (aN, .inl (cJ, 9504, .inr (.inl (va_up (va_up (va_cpy tape now 0 (sp * 9) 8) ((sp * 9) + 8) ((nI tg).toInt64)) ((sp * 9) + 8) (((va_up (va_cpy tape now 0 (sp * 9) 8) ((sp * 9) + 8) ((nI tg).toInt64)) ((sp * 9) + 8)) ||| ((ckV (va_up (va_cpy tape now 0 (sp * 9) 8) ((sp * 9) + 8) ((nI tg).toInt64)) (sp * 9)) <<< ((nI 16).toInt64 &&& 63))))))), (h0, .inr (0, [.ref aN, .ref aL, .ref aK, .ref aC, .int (nI ld), .ref aT, .int (nI tb), .ref aO, .int (nI ob), .int (bI off), .int wl, .long wd])), (aK, .inl (cI, 1056, .inl (fun i9 => nI ((va_up kd sp 2) i9)))), (aC, .inl (cI, 4, .inl (fun i9 => nI ((skC cn kd sp 2) i9))))] H := hP
  have hD : va_D A [(aL, .inl (cJ, 9504, .inr (.inl (va_cpy (va_up (va_up (va_cpy tape now 0 (sp * 9) 8) ((sp * 9) + 8) ((nI tg).toInt64)) ((sp * 9) + 8) (((va_up (va_cpy tape now 0 (sp * 9) 8) ((sp * 9) + 8) ((nI tg).toInt64)) ((sp * 9) + 8)) ||| ((ckV (va_up (va_cpy tape now 0 (sp * 9) 8) ((sp * 9) + 8) ((nI tg).toInt64)) (sp * 9)) <<< ((nI 16).toInt64 &&& 63)))) latest (sp * 9) (sp * 9) 9)))), (aT, .inl (cJ, 8, .inr (.inl tape))), (aN, .inl (cJ, 9504, .inr (.inl (va_up (va_up (va_cpy tape now 0 (sp * 9) 8) ((sp * 9) + 8) ((nI tg).toInt64)) ((sp * 9) + 8) (((va_up (va_cpy tape now 0 (sp * 9) 8) ((sp * 9) + 8) ((nI tg).toInt64)) ((sp * 9) + 8)) ||| ((ckV (va_up (va_cpy tape now 0 (sp * 9) 8) ((sp * 9) + 8) ((nI tg).toInt64)) (sp * 9)) <<< ((nI 16).toInt64 &&& 63))))))), (h0, .inr (0, [.ref aN, .ref aL, .ref aK, .ref aC, .int (nI ld), .ref aT, .int (nI tb), .ref aO, .int (nI ob), .int (bI off), .int wl, .long wd])), (aK, .inl (cI, 1056, .inl (fun i9 => nI ((va_up kd sp 2) i9)))), (aC, .inl (cI, 4, .inl (fun i9 => nI ((skC cn kd sp 2) i9))))] := hD
  refine W.widen (k := 0) (n := 0) (Nat.le_refl _) (Nat.le_refl _) ?_
  have hP9 := hP.sub (ws' := [(h0, .inr (0, [.ref aN, .ref aL, .ref aK, .ref aC, .int (nI ld), .ref aT, .int (nI tb), .ref aO, .int (nI ob), .int (bI off), .int wl, .long wd])), (aN, .inl (cJ, 9504, .inr (.inl (ptN tape now sp tg)))), (aL, .inl (cJ, 9504, .inr (.inl (ptL tape now latest sp tg)))), (aK, .inl (cI, 1056, .inl (fun i9 => nI ((va_up kd sp 2) i9)))), (aC, .inl (cI, 4, .inl (fun i9 => nI ((skC cn kd sp 2) i9)))), (aT, .inl (cJ, 8, .inr (.inl tape)))]) [3, 2, 0, 4, 5, 1] rfl
  have hD9 := hD.sub (ws' := [(h0, .inr (0, [.ref aN, .ref aL, .ref aK, .ref aC, .int (nI ld), .ref aT, .int (nI tb), .ref aO, .int (nI ob), .int (bI off), .int wl, .long wd])), (aN, .inl (cJ, 9504, .inr (.inl (ptN tape now sp tg)))), (aL, .inl (cJ, 9504, .inr (.inl (ptL tape now latest sp tg)))), (aK, .inl (cI, 1056, .inl (fun i9 => nI ((va_up kd sp 2) i9)))), (aC, .inl (cI, 4, .inl (fun i9 => nI ((skC cn kd sp 2) i9)))), (aT, .inl (cJ, 8, .inr (.inl tape)))]) [3, 2, 0, 4, 5, 1] (by decide) rfl
  exact W.vret hx hb hr (fun t ht hW => ⟨⟨(), rfl, trivial, by rw [ht]; exact hP9, va_K.moved hW.alike hK, hD9⟩, hS.F ht⟩) hS.2.2 dX0_putTape_72
end
section
/-! what a throw needs of the machine: words that the tables give, the texts, two statics of Throwable -/
def xsL : List (Nat × String) := [(62, "n is not 1 .. 8"), (69, "the tape would have more than 64 bytes"), (81, "no such cell or tag"), (86, "the disk is not live"), (114, "the OUT has no such byte"), (131, "the cell has no such byte"), (140, "no such cell or bytes"), (151, "n is below 1"), (153, "the power is off"), (155, "there is nothing of this number to look at"), (160, "no such disk"), (162, "no such cell")]
def xw (U : State) : Prop := (va_Nw (.castable "java/lang/IllegalArgumentException" "java/lang/IllegalArgumentException") U ∧ va_Nw (.castable "java/lang/IllegalStateException" "java/lang/IllegalStateException") U ∧ va_Nw (.castable "java/util/NoSuchElementException" "java/util/NoSuchElementException") U ∧ va_Nw (.declares ⟨"java/lang/RuntimeException", "<init>", "(Ljava/lang/String;)V"⟩) U ∧ va_Nw (.declares ⟨"java/lang/Exception", "<init>", "(Ljava/lang/String;)V"⟩) U ∧ va_Nw (.declares ⟨"java/lang/Throwable", "<init>", "(Ljava/lang/String;)V"⟩) U) ∧ ∀ q ∈ xsL, ∃ a, vk_R RX0 q.1 q.2 a U
theorem xw.warm {s U : State} (hW : s.WarmedH U.vm) (h : xw s) : xw U := by
  obtain ⟨⟨h1, h2, h3, h4, h5, h6⟩, h7⟩ := h
  refine ⟨⟨h1.warmC hW, h2.warmC hW, h3.warmC hW, h4.warmD hW, h5.warmD hW, h6.warmD hW⟩, fun q hq => ?_⟩
  obtain ⟨a, ha⟩ := h7 q hq
  exact ⟨a, ha.warm hW⟩
theorem xw.same {u U : State} (hv : U.vm = u.vm) (h : xw u) : xw U := by
  obtain ⟨⟨h1, h2, h3, h4, h5, h6⟩, h7⟩ := h
  refine ⟨⟨h1.same rfl hv.symm, h2.same rfl hv.symm, h3.same rfl hv.symm, h4.same rfl hv.symm, h5.same rfl hv.symm, h6.same rfl hv.symm⟩, fun q hq => ?_⟩
  obtain ⟨a, ha⟩ := h7 q hq
  exact ⟨a, ha.same hv⟩
def xz (A : Nat → Prop) (U : State) (H : Heap) : Prop := vx_Zq Bundle.tN "UNASSIGNED_STACK" Bundle.steD A U H ∧ vx_Zq Bundle.tN "SUPPRESSED_SENTINEL" Bundle.listD A U H
theorem xz.moved {A : Nat → Prop} {u U : State} {H : Heap} (hvm : u.vm.Alike U.vm) (h : xz A u H) : xz A U H := ⟨h.1.moved hvm, h.2.moved hvm⟩
theorem xz.kept {A : Nat → Prop} {U : State} {H H1 : Heap} (h : xz A U H) (hq : ∀ a : Nat, a < H.size → ¬ A a → H1[a]? = H[a]?) : xz A U H1 := ⟨h.1.kept hq, h.2.kept hq⟩
theorem xz.narrow {A B : Nat → Prop} {U : State} {H : Heap} (h : xz A U H) (hAB : ∀ q, B q → A q) : xz B U H := ⟨h.1.narrow hAB, h.2.narrow hAB⟩
theorem xz.go {A B : Nat → Prop} {s U : State} {H : Heap} {locs : List Loc} (h : xz A s s.heap) (hS : va_S A s.heap H locs) (hvm : s.vm.Alike U.vm) (hU : U.heap = H) (hAB : ∀ q, B q → A q) : xz B U U.heap := by
  rw [hU]
  exact ((h.kept hS.2.1).moved hvm).narrow hAB
end
section
set_option maxHeartbeats 4000000 in
set_option maxRecDepth 100000 in
theorem c_X0_needDisk (l : Launch) (hl9 : l.stackTraces = false) (dC : Nat → ClassId) (dI : Nat → Nat → Nat) (sz : Nat) (x : Int32) : vx_Met l yX0_needDisk wsX0_needDisk ({ frames := 6, cells := 1, slots := 6, locals := 82 }) (va_Pc [.int x] (fun U => U.heap.size = sz ∧ va_P (dC, dI) vwCl [] U.heap ∧ va_K (dC, dI) vwCl [] U ∧ va_D (fun _ => True) [] ∧ xw U ∧ xz (va_A [] sz) U U.heap)) (va_Qv (fun (_ : Unit) => okI x 16 = true) (fun (_ : Unit) t => va_P (dC, dI) vwCl [] t.heap ∧ va_K (dC, dI) vwCl [] t ∧ va_D (va_A [] sz) []) (va_A [] sz)) (vx_X (fun (_ : Unit) => True) (fun E (_ : Unit) t => (E = "java/lang/IllegalArgumentException" ∧ okI x 16 = false) ∧ va_P (dC, dI) vwCl [] t.heap ∧ va_K (dC, dI) vwCl [] t ∧ va_D (va_A [] sz) []) (va_A [] sz)) 1 6 (va_A [] sz) := by
  refine vx_ofW (cc := cX0_needDisk) (maxL := 1) (ret := none) (by decide) rfl ?_
  intro p e s m args below meth c s₁ B hml hno hv
  obtain ⟨rfl, hsz, hP, hK, hD0, hxw, hxz⟩ := hv
  have hx := B.exec
  have hb := B.bytes
  have hr := B.returns
  have hts := atoms_spec (ws := wsX0_needDisk) B.pre
  have hown : s.vm.findClass RX0 = some m.cls := findClass_of_methodNamed B.named
  have hlocks := B.notSynchronized
  subst hsz
  have hD := hD0.self (sz := s.heap.size)
  generalize hAe : va_A [] s.heap.size = A at hD hxz ⊢
  have hA : ∀ q : Nat, s.heap.size ≤ q → A q := fun q h => by rw [← hAe]; exact Or.inr h
  generalize hH : s.heap = H at hP ⊢
  have hS : va_S A s.heap H [] := by rw [hH]; exact va_S.rf
  have hP : va_P (dC, dI) vwCl [] H := hP
  have hl := lv_entry ([.int x]) (n := 1) (Nat.le_of_ble_eq_true rfl)
  rw [lg_entry_eq]
  generalize (lg_sl ([.int x]) ++ List.replicate (1 - (lg_sl ([.int x])).length) Slot.unset).toArray = ls at hl ⊢
  have hl : lv_has ls 1 [(0, .int x)] := hl
  have hat0 : ∀ w ∈ vx_atS RX0 64 "java/lang/IllegalArgumentException" ["java/lang/RuntimeException", "java/lang/Exception"], w.before _ s = true := vx_hat (L := vx_atS RX0 64 "java/lang/IllegalArgumentException" ["java/lang/RuntimeException", "java/lang/Exception"]) (B := [.castable "java/lang/IllegalArgumentException" "java/lang/IllegalArgumentException", .declares ⟨"java/lang/RuntimeException", "<init>", "(Ljava/lang/String;)V"⟩, .declares ⟨"java/lang/Exception", "<init>", "(Ljava/lang/String;)V"⟩, .declares ⟨"java/lang/Throwable", "<init>", "(Ljava/lang/String;)V"⟩]) (fun w hw => hts w ((by decide +kernel : ∀ w ∈ (vx_atS RX0 64 "java/lang/IllegalArgumentException" ["java/lang/RuntimeException", "java/lang/Exception"]).filter goodWord, w ∈ wsX0_needDisk) w hw)) (by decide +kernel) (vx_c (va_Nw.use rfl hxw.1.1) (vx_c (va_Nw.use rfl hxw.1.2.2.2.1) (vx_c (va_Nw.use rfl hxw.1.2.2.2.2.1) (vx_c (va_Nw.use rfl hxw.1.2.2.2.2.2) (vx_n)))))
  refine lv_iload_n hx hb dX0_needDisk_0 rfl (lv_at hl 0 rfl) ?_
  have hPc := hP.sub (ws' := []) [] rfl
  have hDc := hD.sub (ws' := []) [] (by decide) rfl
  have hKc := hK.sub (tys' := []) [] rfl
  have hFc := va_free (wc := []) hD hS hA [] rfl
  refine va_calli (va_runS (As := [.int x]) (rest := []) ⟨hx, hb, hml, hown, hts⟩ (c_X0_isDisk l dC dI H.size x) (va_cwS 1 hts gX0_needDisk_X0_isDisk rfl rfl rfl (by decide +kernel) ⟨Nat.le_of_ble_eq_true rfl, Nat.le_of_ble_eq_true rfl⟩) ⟨fun a U g mk q => by obtain ⟨q0, q1, qP, qK, qD⟩ := q; exact ⟨q0, q1, qP, va_K.moved (u := U) (U := U.calling g mk a) (Vm.Alike.refl U.vm) qK, qD⟩, fun U hU hW => ⟨rfl, by rw [hU], by rw [hU]; exact hPc, va_K.moved hW.alike hKc, hDc.weaken (fun _ _ _ _ => trivial)⟩⟩ rfl rfl hl.1 rfl (lv_room (Nat.le_of_ble_eq_true rfl)) dX0_needDisk_1 ⟨Nat.le_of_ble_eq_true rfl, Nat.le_of_ble_eq_true rfl⟩) hS (fun q _ h => hFc q h) hFc (fun r_1 u t H1 locs ht hvm hw hB hz1 hk1 hS => ?_)
  obtain ⟨hP1, hK1, hD1⟩ := hB
  rw [ht] at hP1
  obtain ⟨hP, hD⟩ := va_join (wr := []) (w1 := []) hP hD [] [] rfl rfl (by decide) (by decide) hk1 hFc hP1 hD1
  clear hP1 hD1 hK1 hPc hDc hKc hFc hk1 hz1 hvm ht
  generalize H1 = H at hP hS ⊢
  have hP : va_P (dC, dI) vwCl [] H := hP
  have hD : va_D A [] := hD
  refine W.widen (k := 0) (n := 0) (Nat.le_refl _) (Nat.le_refl _) ?_
  obtain rfl := hw
  refine zr_ifb_ne (tgt := 17) hx hb dX0_needDisk_4 (by decide) (fun c4 => ?_) (fun c4 => ?_)
  · refine W.widen (k := 1) (n := 6) (Nat.le_of_ble_eq_true rfl) (Nat.le_of_ble_eq_true rfl) ?_
    refine vx_ret ?_
    have hP9 := hP.sub (ws' := []) [] rfl
    have hD9 := hD.sub (ws' := []) [] (by decide) rfl
    exact W.vret hx hb hr (fun t ht hW => ⟨⟨(), rfl, by assumption, by rw [ht]; exact hP9, va_K.moved hW.alike hK, hD9⟩, hS.F ht⟩) hS.2.2 dX0_needDisk_17
  · obtain ⟨sa, hstr⟩ := hxw.2 (160, "no such disk") (by decide)
    have hP9 := hP.sub (ws' := []) [] rfl
    have hD9 := hD.sub (ws' := []) [] (by decide) rfl
    exact vx_throwS (own := RX0) (cls := "java/lang/IllegalArgumentException") (names := ["java/lang/RuntimeException", "java/lang/Exception"]) hx hb hl9 hown (by decide +kernel) (by decide +kernel) (hts (.classLink RX0 60 "java/lang/IllegalArgumentException") (by decide +kernel)) (hts (.initialized "java/lang/IllegalArgumentException") (by decide +kernel)) hstr hat0 (by decide +kernel) hxz.1 hxz.2 hS (hl.1.trans hml.symm) dX0_needDisk_7 dX0_needDisk_10 dX0_needDisk_11 dX0_needDisk_13 dX0_needDisk_16 (fun x hx => (hno x hx).elim) (Nat.le_of_ble_eq_true rfl) (Nat.le_of_ble_eq_true rfl) (Nat.le_of_ble_eq_true rfl) (Nat.le_of_ble_eq_true rfl) hlocks (fun t ha hsz hk => ⟨(), trivial, ⟨⟨rfl, by assumption⟩, hP9.kept (fun k q hq => hk q.1 (hP9 k q hq).lt), va_K.moved ha hK, hD9⟩, Nat.le_trans hS.1 hsz, fun q h1 h2 => (hk q (Nat.lt_of_lt_of_le h1 hS.1)).trans (hS.2.1 q h1 h2)⟩) hS.2.2 (Nat.le_of_ble_eq_true rfl) (Nat.le_of_ble_eq_true rfl)
set_option maxHeartbeats 4000000 in
set_option maxRecDepth 100000 in
theorem c_X0_needCell (l : Launch) (hl9 : l.stackTraces = false) (dC : Nat → ClassId) (dI : Nat → Nat → Nat) (sz : Nat) (x y : Int32) : vx_Met l yX0_needCell wsX0_needCell ({ frames := 6, cells := 1, slots := 6, locals := 82 }) (va_Pc [.int x, .int y] (fun U => U.heap.size = sz ∧ va_P (dC, dI) vwCl [] U.heap ∧ va_K (dC, dI) vwCl [] U ∧ va_D (fun _ => True) [] ∧ xw U ∧ xz (va_A [] sz) U U.heap)) (va_Qv (fun (_ : Unit) => (okI x 16 && okI y 66) = true) (fun (_ : Unit) t => va_P (dC, dI) vwCl [] t.heap ∧ va_K (dC, dI) vwCl [] t ∧ va_D (va_A [] sz) []) (va_A [] sz)) (vx_X (fun (_ : Unit) => True) (fun E (_ : Unit) t => (E = "java/lang/IllegalArgumentException" ∧ (okI x 16 && okI y 66) = false) ∧ va_P (dC, dI) vwCl [] t.heap ∧ va_K (dC, dI) vwCl [] t ∧ va_D (va_A [] sz) []) (va_A [] sz)) 1 6 (va_A [] sz) := by
  refine vx_ofW (cc := cX0_needCell) (maxL := 2) (ret := none) (by decide) rfl ?_
  intro p e s m args below meth c s₁ B hml hno hv
  obtain ⟨rfl, hsz, hP, hK, hD0, hxw, hxz⟩ := hv
  have hx := B.exec
  have hb := B.bytes
  have hr := B.returns
  have hts := atoms_spec (ws := wsX0_needCell) B.pre
  have hown : s.vm.findClass RX0 = some m.cls := findClass_of_methodNamed B.named
  have hlocks := B.notSynchronized
  subst hsz
  have hD := hD0.self (sz := s.heap.size)
  generalize hAe : va_A [] s.heap.size = A at hD hxz ⊢
  have hA : ∀ q : Nat, s.heap.size ≤ q → A q := fun q h => by rw [← hAe]; exact Or.inr h
  generalize hH : s.heap = H at hP ⊢
  have hS : va_S A s.heap H [] := by rw [hH]; exact va_S.rf
  have hP : va_P (dC, dI) vwCl [] H := hP
  have hl := lv_entry ([.int x, .int y]) (n := 2) (Nat.le_of_ble_eq_true rfl)
  rw [lg_entry_eq]
  generalize (lg_sl ([.int x, .int y]) ++ List.replicate (2 - (lg_sl ([.int x, .int y])).length) Slot.unset).toArray = ls at hl ⊢
  have hl : lv_has ls 2 [(0, .int x), (1, .int y)] := hl
  have hat0 : ∀ w ∈ vx_atS RX0 64 "java/lang/IllegalArgumentException" ["java/lang/RuntimeException", "java/lang/Exception"], w.before _ s = true := vx_hat (L := vx_atS RX0 64 "java/lang/IllegalArgumentException" ["java/lang/RuntimeException", "java/lang/Exception"]) (B := [.castable "java/lang/IllegalArgumentException" "java/lang/IllegalArgumentException", .declares ⟨"java/lang/RuntimeException", "<init>", "(Ljava/lang/String;)V"⟩, .declares ⟨"java/lang/Exception", "<init>", "(Ljava/lang/String;)V"⟩, .declares ⟨"java/lang/Throwable", "<init>", "(Ljava/lang/String;)V"⟩]) (fun w hw => hts w ((by decide +kernel : ∀ w ∈ (vx_atS RX0 64 "java/lang/IllegalArgumentException" ["java/lang/RuntimeException", "java/lang/Exception"]).filter goodWord, w ∈ wsX0_needCell) w hw)) (by decide +kernel) (vx_c (va_Nw.use rfl hxw.1.1) (vx_c (va_Nw.use rfl hxw.1.2.2.2.1) (vx_c (va_Nw.use rfl hxw.1.2.2.2.2.1) (vx_c (va_Nw.use rfl hxw.1.2.2.2.2.2) (vx_n)))))
  refine lv_iload_n hx hb dX0_needCell_0 rfl (lv_at hl 0 rfl) ?_
  refine lv_iload_n hx hb dX0_needCell_1 rfl (lv_at hl 1 rfl) ?_
  have hPc := hP.sub (ws' := []) [] rfl
  have hDc := hD.sub (ws' := []) [] (by decide) rfl
  have hKc := hK.sub (tys' := []) [] rfl
  have hFc := va_free (wc := []) hD hS hA [] rfl
  refine va_calli (va_runS (As := [.int x, .int y]) (rest := []) ⟨hx, hb, hml, hown, hts⟩ (c_X0_isCell l dC dI H.size x y) (va_cwS 2 hts gX0_needCell_X0_isCell rfl rfl rfl (by decide +kernel) ⟨Nat.le_of_ble_eq_true rfl, Nat.le_of_ble_eq_true rfl⟩) ⟨fun a U g mk q => by obtain ⟨q0, q1, qP, qK, qD⟩ := q; exact ⟨q0, q1, qP, va_K.moved (u := U) (U := U.calling g mk a) (Vm.Alike.refl U.vm) qK, qD⟩, fun U hU hW => ⟨rfl, by rw [hU], by rw [hU]; exact hPc, va_K.moved hW.alike hKc, hDc.weaken (fun _ _ _ _ => trivial)⟩⟩ rfl rfl hl.1 rfl (lv_room (Nat.le_of_ble_eq_true rfl)) dX0_needCell_2 ⟨Nat.le_of_ble_eq_true rfl, Nat.le_of_ble_eq_true rfl⟩) hS (fun q _ h => hFc q h) hFc (fun r_1 u t H1 locs ht hvm hw hB hz1 hk1 hS => ?_)
  obtain ⟨hP1, hK1, hD1⟩ := hB
  rw [ht] at hP1
  obtain ⟨hP, hD⟩ := va_join (wr := []) (w1 := []) hP hD [] [] rfl rfl (by decide) (by decide) hk1 hFc hP1 hD1
  clear hP1 hD1 hK1 hPc hDc hKc hFc hk1 hz1 hvm ht
  generalize H1 = H at hP hS ⊢
  have hP : va_P (dC, dI) vwCl [] H := hP
  have hD : va_D A [] := hD
  refine W.widen (k := 0) (n := 0) (Nat.le_refl _) (Nat.le_refl _) ?_
  obtain rfl := hw
  refine zr_ifb_ne (tgt := 18) hx hb dX0_needCell_5 (by decide) (fun c5 => ?_) (fun c5 => ?_)
  · refine W.widen (k := 1) (n := 6) (Nat.le_of_ble_eq_true rfl) (Nat.le_of_ble_eq_true rfl) ?_
    refine vx_ret ?_
    have hP9 := hP.sub (ws' := []) [] rfl
    have hD9 := hD.sub (ws' := []) [] (by decide) rfl
    exact W.vret hx hb hr (fun t ht hW => ⟨⟨(), rfl, by assumption, by rw [ht]; exact hP9, va_K.moved hW.alike hK, hD9⟩, hS.F ht⟩) hS.2.2 dX0_needCell_18
  · obtain ⟨sa, hstr⟩ := hxw.2 (162, "no such cell") (by decide)
    have hP9 := hP.sub (ws' := []) [] rfl
    have hD9 := hD.sub (ws' := []) [] (by decide) rfl
    exact vx_throwS (own := RX0) (cls := "java/lang/IllegalArgumentException") (names := ["java/lang/RuntimeException", "java/lang/Exception"]) hx hb hl9 hown (by decide +kernel) (by decide +kernel) (hts (.classLink RX0 60 "java/lang/IllegalArgumentException") (by decide +kernel)) (hts (.initialized "java/lang/IllegalArgumentException") (by decide +kernel)) hstr hat0 (by decide +kernel) hxz.1 hxz.2 hS (hl.1.trans hml.symm) dX0_needCell_8 dX0_needCell_11 dX0_needCell_12 dX0_needCell_14 dX0_needCell_17 (fun x hx => (hno x hx).elim) (Nat.le_of_ble_eq_true rfl) (Nat.le_of_ble_eq_true rfl) (Nat.le_of_ble_eq_true rfl) (Nat.le_of_ble_eq_true rfl) hlocks (fun t ha hsz hk => ⟨(), trivial, ⟨⟨rfl, by assumption⟩, hP9.kept (fun k q hq => hk q.1 (hP9 k q hq).lt), va_K.moved ha hK, hD9⟩, Nat.le_trans hS.1 hsz, fun q h1 h2 => (hk q (Nat.lt_of_lt_of_le h1 hS.1)).trans (hS.2.1 q h1 h2)⟩) hS.2.2 (Nat.le_of_ble_eq_true rfl) (Nat.le_of_ble_eq_true rfl)
set_option maxHeartbeats 4000000 in
set_option maxRecDepth 100000 in
theorem c_X0_cell (l : Launch) (hl9 : l.stackTraces = false) (dC : Nat → ClassId) (dI : Nat → Nat → Nat) (sz : Nat) (h0 aN aL aK aC aT aO : Nat) (ld tb ob : Nat) (off : Bool) (wl : Int32) (wd : Int64) (cI : ClassId) (kd : Nat → Nat) (x y : Int32) (hk : kdOK kd) : vx_Met l yX0_cell wsX0_cell ({ frames := 7, cells := 1, slots := 6, locals := 103 }) (va_Pc [.ref h0, .int x, .int y] (fun U => U.heap.size = sz ∧ va_P (dC, dI) vwCl [(h0, .inr (0, [.ref aN, .ref aL, .ref aK, .ref aC, .int (nI ld), .ref aT, .int (nI tb), .ref aO, .int (nI ob), .int (bI off), .int wl, .long wd])), (aK, .inl (cI, 1056, .inl (fun i9 => nI (kd i9))))] U.heap ∧ va_K (dC, dI) vwCl [(cI, .int)] U ∧ va_D (fun _ => True) [(h0, .inr (0, [.ref aN, .ref aL, .ref aK, .ref aC, .int (nI ld), .ref aT, .int (nI tb), .ref aO, .int (nI ob), .int (bI off), .int wl, .long wd])), (aK, .inl (cI, 1056, .inl (fun i9 => nI (kd i9))))] ∧ xw U ∧ xz (va_A [(h0, .inr (0, [.ref aN, .ref aL, .ref aK, .ref aC, .int (nI ld), .ref aT, .int (nI tb), .ref aO, .int (nI ob), .int (bI off), .int wl, .long wd])), (aK, .inl (cI, 1056, .inl (fun i9 => nI (kd i9))))] sz) U U.heap)) (va_Qi (fun (r : Int32) (_ : Unit) => ∃ di ce : Nat, di < 16 ∧ ce < 66 ∧ x = nI di ∧ y = nI ce ∧ r = nI (kd (di * 66 + ce))) (fun (_ : Unit) t => va_P (dC, dI) vwCl [(h0, .inr (0, [.ref aN, .ref aL, .ref aK, .ref aC, .int (nI ld), .ref aT, .int (nI tb), .ref aO, .int (nI ob), .int (bI off), .int wl, .long wd])), (aK, .inl (cI, 1056, .inl (fun i9 => nI (kd i9))))] t.heap ∧ va_K (dC, dI) vwCl [(cI, .int)] t ∧ va_D (va_A [(h0, .inr (0, [.ref aN, .ref aL, .ref aK, .ref aC, .int (nI ld), .ref aT, .int (nI tb), .ref aO, .int (nI ob), .int (bI off), .int wl, .long wd])), (aK, .inl (cI, 1056, .inl (fun i9 => nI (kd i9))))] sz) [(h0, .inr (0, [.ref aN, .ref aL, .ref aK, .ref aC, .int (nI ld), .ref aT, .int (nI tb), .ref aO, .int (nI ob), .int (bI off), .int wl, .long wd])), (aK, .inl (cI, 1056, .inl (fun i9 => nI (kd i9))))]) (va_A [(h0, .inr (0, [.ref aN, .ref aL, .ref aK, .ref aC, .int (nI ld), .ref aT, .int (nI tb), .ref aO, .int (nI ob), .int (bI off), .int wl, .long wd])), (aK, .inl (cI, 1056, .inl (fun i9 => nI (kd i9))))] sz)) (vx_X (fun (_ : Unit) => True) (fun E (_ : Unit) t => (E = "java/lang/IllegalArgumentException" ∧ (okI x 16 && okI y 66) = false) ∧ va_P (dC, dI) vwCl [(h0, .inr (0, [.ref aN, .ref aL, .ref aK, .ref aC, .int (nI ld), .ref aT, .int (nI tb), .ref aO, .int (nI ob), .int (bI off), .int wl, .long wd])), (aK, .inl (cI, 1056, .inl (fun i9 => nI (kd i9))))] t.heap ∧ va_K (dC, dI) vwCl [(cI, .int)] t ∧ va_D (va_A [(h0, .inr (0, [.ref aN, .ref aL, .ref aK, .ref aC, .int (nI ld), .ref aT, .int (nI tb), .ref aO, .int (nI ob), .int (bI off), .int wl, .long wd])), (aK, .inl (cI, 1056, .inl (fun i9 => nI (kd i9))))] sz) [(h0, .inr (0, [.ref aN, .ref aL, .ref aK, .ref aC, .int (nI ld), .ref aT, .int (nI tb), .ref aO, .int (nI ob), .int (bI off), .int wl, .long wd])), (aK, .inl (cI, 1056, .inl (fun i9 => nI (kd i9))))]) (va_A [(h0, .inr (0, [.ref aN, .ref aL, .ref aK, .ref aC, .int (nI ld), .ref aT, .int (nI tb), .ref aO, .int (nI ob), .int (bI off), .int wl, .long wd])), (aK, .inl (cI, 1056, .inl (fun i9 => nI (kd i9))))] sz)) 1 6 (va_A [(h0, .inr (0, [.ref aN, .ref aL, .ref aK, .ref aC, .int (nI ld), .ref aT, .int (nI tb), .ref aO, .int (nI ob), .int (bI off), .int wl, .long wd])), (aK, .inl (cI, 1056, .inl (fun i9 => nI (kd i9))))] sz) := by
  refine vx_ofW (cc := cX0_cell) (maxL := 3) (ret := some .int) (by decide) rfl ?_
  intro p e s m args below meth c s₁ B hml hno hv
  obtain ⟨rfl, hsz, hP, hK, hD0, hxw, hxz⟩ := hv
  have hx := B.exec
  have hb := B.bytes
  have hr := B.returns
  have hts := atoms_spec (ws := wsX0_cell) B.pre
  have hown : s.vm.findClass RX0 = some m.cls := findClass_of_methodNamed B.named
  have hlocks := B.notSynchronized
  subst hsz
  have hD := hD0.self (sz := s.heap.size)
  generalize hAe : va_A [(h0, .inr (0, [.ref aN, .ref aL, .ref aK, .ref aC, .int (nI ld), .ref aT, .int (nI tb), .ref aO, .int (nI ob), .int (bI off), .int wl, .long wd])), (aK, .inl (cI, 1056, .inl (fun i9 => nI (kd i9))))] s.heap.size = A at hD hxz ⊢
  have hA : ∀ q : Nat, s.heap.size ≤ q → A q := fun q h => by rw [← hAe]; exact Or.inr h
  generalize hH : s.heap = H at hP ⊢
  have hS : va_S A s.heap H [] := by rw [hH]; exact va_S.rf
  have hP : va_P (dC, dI) vwCl [(h0, .inr (0, [.ref aN, .ref aL, .ref aK, .ref aC, .int (nI ld), .ref aT, .int (nI tb), .ref aO, .int (nI ob), .int (bI off), .int wl, .long wd])), (aK, .inl (cI, 1056, .inl (fun i9 => nI (kd i9))))] H := hP
  have hl := lv_entry ([.ref h0, .int x, .int y]) (n := 3) (Nat.le_of_ble_eq_true rfl)
  rw [lg_entry_eq]
  generalize (lg_sl ([.ref h0, .int x, .int y]) ++ List.replicate (3 - (lg_sl ([.ref h0, .int x, .int y])).length) Slot.unset).toArray = ls at hl ⊢
  have hl : lv_has ls 3 [(0, .ref h0), (1, .int x), (2, .int y)] := hl
  have hi0 : ∀ w ∈ u_ws RX0 TX0 12, w ∈ wsX0_cell := by decide +kernel
  refine lv_iload_n hx hb dX0_cell_0 rfl (lv_at hl 1 rfl) ?_
  refine lv_iload_n hx hb dX0_cell_1 rfl (lv_at hl 2 rfl) ?_
  have hPc := hP.sub (ws' := []) [] rfl
  have hDc := hD.sub (ws' := []) [] (by decide) rfl
  have hKc := hK.sub (tys' := []) [] rfl
  have hFc := va_free (wc := []) hD hS hA [] rfl
  refine vx_callv (vx_runS (As := [.int x, .int y]) (rest := []) ⟨hx, hb, hml, hown, hts⟩ (c_X0_needCell l hl9 dC dI H.size x y) (va_cwS 2 hts gX0_cell_X0_needCell rfl rfl rfl (by decide +kernel) ⟨Nat.le_of_ble_eq_true rfl, Nat.le_of_ble_eq_true rfl⟩) ⟨fun a U g mk q => by obtain ⟨q0, q1, qP, qK, qD, qw, qz⟩ := q; exact ⟨q0, q1, qP, va_K.moved (u := U) (U := U.calling g mk a) (Vm.Alike.refl U.vm) qK, qD, xw.same (u := U) rfl qw, xz.moved (u := U) (U := U.calling g mk a) (Vm.Alike.refl U.vm) qz⟩, fun U hU hW => ⟨rfl, by rw [hU], by rw [hU]; exact hPc, va_K.moved hW.alike hKc, hDc.weaken (fun _ _ _ _ => trivial), xw.warm hW hxw, xz.go hxz hS hW.alike hU hFc⟩⟩ rfl rfl hl.1 rfl (lv_room (Nat.le_of_ble_eq_true rfl)) dX0_cell_2 ⟨Nat.le_of_ble_eq_true rfl, Nat.le_of_ble_eq_true rfl⟩) hS (fun q _ h => hFc q h) hFc (fun q _ h => hFc q h) (fun E ce q9 u t H1 locs ht hvm _hu hB hz1 hk1 hS hce hcv hcl => ?_) (fun u t H1 locs ht hvm hw hB hz1 hk1 hS => ?_)
  · obtain ⟨hxp, hP1, hK1, hD1⟩ := hB
    rw [ht] at hP1
    obtain ⟨hP, hD⟩ := va_join (wr := [(h0, .inr (0, [.ref aN, .ref aL, .ref aK, .ref aC, .int (nI ld), .ref aT, .int (nI tb), .ref aO, .int (nI ob), .int (bI off), .int wl, .long wd])), (aK, .inl (cI, 1056, .inl (fun i9 => nI (kd i9))))]) (w1 := []) hP hD [] [0, 1] rfl rfl (by decide) (by decide) hk1 hFc hP1 hD1
    clear hP1 hD1 hK1 hPc hDc hKc hFc hk1 hz1 hvm ht
    generalize H1 = H at hP hS hce ⊢
    have hP : va_P (dC, dI) vwCl [(h0, .inr (0, [.ref aN, .ref aL, .ref aK, .ref aC, .int (nI ld), .ref aT, .int (nI tb), .ref aO, .int (nI ob), .int (bI off), .int wl, .long wd])), (aK, .inl (cI, 1056, .inl (fun i9 => nI (kd i9))))] H := hP
    have hD : va_D A [(h0, .inr (0, [.ref aN, .ref aL, .ref aK, .ref aC, .int (nI ld), .ref aT, .int (nI tb), .ref aO, .int (nI ob), .int (bI off), .int wl, .long wd])), (aK, .inl (cI, 1056, .inl (fun i9 => nI (kd i9))))] := hD
    refine vx_widen (k := 1) (n := 6) (Nat.le_refl _) (Nat.le_refl _) ?_
    have hP9 := hP.sub (ws' := [(h0, .inr (0, [.ref aN, .ref aL, .ref aK, .ref aC, .int (nI ld), .ref aT, .int (nI tb), .ref aO, .int (nI ob), .int (bI off), .int wl, .long wd])), (aK, .inl (cI, 1056, .inl (fun i9 => nI (kd i9))))]) [0, 1] rfl
    have hD9 := hD.sub (ws' := [(h0, .inr (0, [.ref aN, .ref aL, .ref aK, .ref aC, .int (nI ld), .ref aT, .int (nI tb), .ref aO, .int (nI ob), .int (bI off), .int wl, .long wd])), (aK, .inl (cI, 1056, .inl (fun i9 => nI (kd i9))))]) [0, 1] (by decide) rfl
    exact vx_out (fun x hx => (hno x hx).elim) hlocks hce hcv hcl (fun t ht ha => ⟨(), trivial, ⟨hxp, by rw [ht]; exact hP9, va_K.moved ha hK, hD9⟩, hS.F ht⟩) hS.2.2 (Nat.le_of_ble_eq_true rfl) (Nat.le_of_ble_eq_true rfl)
  · obtain ⟨hP1, hK1, hD1⟩ := hB
    rw [ht] at hP1
    obtain ⟨hP, hD⟩ := va_join (wr := [(h0, .inr (0, [.ref aN, .ref aL, .ref aK, .ref aC, .int (nI ld), .ref aT, .int (nI tb), .ref aO, .int (nI ob), .int (bI off), .int wl, .long wd])), (aK, .inl (cI, 1056, .inl (fun i9 => nI (kd i9))))]) (w1 := []) hP hD [] [0, 1] rfl rfl (by decide) (by decide) hk1 hFc hP1 hD1
    clear hP1 hD1 hK1 hPc hDc hKc hFc hk1 hz1 hvm ht
    generalize H1 = H at hP hS ⊢
    have hP : va_P (dC, dI) vwCl [(h0, .inr (0, [.ref aN, .ref aL, .ref aK, .ref aC, .int (nI ld), .ref aT, .int (nI tb), .ref aO, .int (nI ob), .int (bI off), .int wl, .long wd])), (aK, .inl (cI, 1056, .inl (fun i9 => nI (kd i9))))] H := hP
    have hD : va_D A [(h0, .inr (0, [.ref aN, .ref aL, .ref aK, .ref aC, .int (nI ld), .ref aT, .int (nI tb), .ref aO, .int (nI ob), .int (bI off), .int wl, .long wd])), (aK, .inl (cI, 1056, .inl (fun i9 => nI (kd i9))))] := hD
    refine W.widen (k := 1) (n := 6) (Nat.le_refl _) (Nat.le_refl _) ?_
    have hcell := hw
    obtain ⟨di, hdi, rfl⟩ := okI_get (by decide) (Bool.and_eq_true_iff.mp hcell).1
    obtain ⟨ce, hce9, rfl⟩ := okI_get (by decide) (Bool.and_eq_true_iff.mp hcell).2
    refine lv_aload_n hx hb dX0_cell_5 rfl (lv_at hl 0 rfl) ?_
    refine va_get (D := (dC, dI)) (ci := 0) (v := .ref aK) (C := RX0) (T := TX0) (N := 12) hx hb hts hi0 hown hK hP 0 rfl rfl 2 (by decide) (hts (.fieldLink RX0 16 "CellRack" "kinds" "[I") (by decide +kernel)) (fun _ h9 => h9) rfl dX0_cell_6 ?_
    refine lv_iload_n hx hb dX0_cell_9 rfl (lv_at hl 1 rfl) ?_
    refine lv_iload_n hx hb dX0_cell_10 rfl (lv_at hl 2 rfl) ?_
    have hPc := hP.sub (ws' := []) [] rfl
    have hDc := hD.sub (ws' := []) [] (by decide) rfl
    have hKc := hK.sub (tys' := []) [] rfl
    have hFc := va_free (wc := []) hD hS hA [] rfl
    refine va_calli (va_runS (As := [.int (nI di), .int (nI ce)]) (rest := [.ref aK]) ⟨hx, hb, hml, hown, hts⟩ (c_X0_spotOf l dC dI H.size di ce) (va_cwS 2 hts gX0_cell_X0_spotOf rfl rfl rfl (by decide +kernel) ⟨Nat.le_of_ble_eq_true rfl, Nat.le_of_ble_eq_true rfl⟩) ⟨fun a U g mk q => by obtain ⟨q0, q1, qP, qK, qD⟩ := q; exact ⟨q0, q1, qP, va_K.moved (u := U) (U := U.calling g mk a) (Vm.Alike.refl U.vm) qK, qD⟩, fun U hU hW => ⟨rfl, by rw [hU], by rw [hU]; exact hPc, va_K.moved hW.alike hKc, hDc.weaken (fun _ _ _ _ => trivial)⟩⟩ rfl rfl hl.1 rfl (lv_room (Nat.le_of_ble_eq_true rfl)) dX0_cell_11 ⟨Nat.le_of_ble_eq_true rfl, Nat.le_of_ble_eq_true rfl⟩) hS (fun q _ h => hFc q h) hFc (fun r_2 u t H1 locs ht hvm hw hB hz1 hk1 hS => ?_)
    obtain ⟨hP1, hK1, hD1⟩ := hB
    rw [ht] at hP1
    obtain ⟨hP, hD⟩ := va_join (wr := [(h0, .inr (0, [.ref aN, .ref aL, .ref aK, .ref aC, .int (nI ld), .ref aT, .int (nI tb), .ref aO, .int (nI ob), .int (bI off), .int wl, .long wd])), (aK, .inl (cI, 1056, .inl (fun i9 => nI (kd i9))))]) (w1 := []) hP hD [] [0, 1] rfl rfl (by decide) (by decide) hk1 hFc hP1 hD1
    clear hP1 hD1 hK1 hPc hDc hKc hFc hk1 hz1 hvm ht
    generalize H1 = H at hP hS ⊢
    have hP : va_P (dC, dI) vwCl [(h0, .inr (0, [.ref aN, .ref aL, .ref aK, .ref aC, .int (nI ld), .ref aT, .int (nI tb), .ref aO, .int (nI ob), .int (bI off), .int wl, .long wd])), (aK, .inl (cI, 1056, .inl (fun i9 => nI (kd i9))))] H := hP
    have hD : va_D A [(h0, .inr (0, [.ref aN, .ref aL, .ref aK, .ref aC, .int (nI ld), .ref aT, .int (nI tb), .ref aO, .int (nI ob), .int (bI off), .int wl, .long wd])), (aK, .inl (cI, 1056, .inl (fun i9 => nI (kd i9))))] := hD
    refine W.widen (k := 1) (n := 6) (Nat.le_refl _) (Nat.le_refl _) ?_
    obtain rfl := hw
    refine zr_nald hx hb hK hP 1 0 rfl rfl (by omega) (by omega) dX0_cell_14 ?_
    refine vx_ret ?_
    have hP9 := hP.sub (ws' := [(h0, .inr (0, [.ref aN, .ref aL, .ref aK, .ref aC, .int (nI ld), .ref aT, .int (nI tb), .ref aO, .int (nI ob), .int (bI off), .int wl, .long wd])), (aK, .inl (cI, 1056, .inl (fun i9 => nI (kd i9))))]) [0, 1] rfl
    have hD9 := hD.sub (ws' := [(h0, .inr (0, [.ref aN, .ref aL, .ref aK, .ref aC, .int (nI ld), .ref aT, .int (nI tb), .ref aO, .int (nI ob), .int (bI off), .int wl, .long wd])), (aK, .inl (cI, 1056, .inl (fun i9 => nI (kd i9))))]) [0, 1] (by decide) rfl
    exact W.iret (v := nI (kd (di * 66 + ce))) hx hb hr (fun t ht hW => ⟨⟨nI (kd (di * 66 + ce)), (), rfl, ⟨di, ce, hdi, hce9, rfl, rfl, rfl⟩, by rw [ht]; exact hP9, va_K.moved hW.alike hK, hD9⟩, hS.F ht⟩) hS.2.2 dX0_cell_15
end
section
/-! 'throw new NoSuchElementException("text")': as vx_throwS (and the library's law behind it), for a class that calls its superclass by entry 13. -/
section ZRN
variable {p : Program} {l : Launch} {e : Env} {R : Room} {s : State} {m : MethodId} {args : Array Value} {below : List Frame} {meth : Method} {c : Code} {locs : List Loc} {cells slots : Nat}
theorem zr_chainS {args : Array Value} {s : State} {pl : Platform} (hpl : pl.magicAccessors = ({} : Platform).magicAccessors) {top : MethodId} (htop : s.methodNamed? (Bundle.initS Bundle.tN) = some top) {X Y : String} {r : List String} (hX : Bundle.fit X = true) (hn : ∀ n ∈ Y :: r, Bundle.fit n = true) (h : ∀ c ∈ zr_chain X (Y :: r), c.before args s = true) :
    ∃ (P1 : PassC) (Ps : List PassC), Ps.length = (Y :: r).length ∧ P1.LinksS pl s ∧ (∀ P, P ∈ Ps → P.LinksS pl s) ∧ s.methodNamed? (Bundle.initS X) = some P1.m ∧ P1.sup = firstOf top (Ps.map (·.toPassT)) ∧ PassesOn top (Ps.map (·.toPassT)) := by
  obtain ⟨P, LP, hm, hs⟩ := PassC.ofS_atoms (args := args) (s := s) hpl (X := X) (Y := Y) (Bundle.fit_spec hX).1 (Bundle.fit_spec (hn Y List.mem_cons_self)).2 zr_six_0 zr_six_1 zr_six_2 zr_six_5 (fun c hc => h c (List.mem_append_left _ hc))
  obtain ⟨P', Ps, hlen, L', hL, hm', hsup, hpass⟩ := Bundle.chainS (args := args) hpl htop r Y (hn Y List.mem_cons_self) (fun n hn' => hn n (List.mem_cons_of_mem _ hn')) (fun c hc => h c (List.mem_append_right _ hc))
  refine ⟨P, P' :: Ps, by simp [hlen], LP, ?_, hm, Option.some.inj (hs.symm.trans hm'), hsup, hpass⟩
  intro Q hQ
  rcases List.mem_cons.mp hQ with rfl | hQ
  · exact L'
  · exact hL Q hQ
set_option maxHeartbeats 4000000 in
theorem zr_ctorThrow {W : State} (X : Stand p l e R s m args below meth c W locs cells slots) (hexec : p.tables.exec = Jvm.exec) (htr : e.platform.stackTraces = false) {own cls Y : String} {r : List String} {ic : Nat}
    (hown : s.vm.findClass own = some m.cls) (hcls : Bundle.fit cls = true) (hnames : ∀ n ∈ Y :: r, Bundle.fit n = true) (h : ∀ a ∈ zr_own own ic cls (Y :: r), a.before args s = true)
    (hlocs : ∀ x ∈ locs, ∀ cell, s.heap[x.base]? = some cell → cell.vm.isStatics = false)
    {a : Addr} {cX : ClassId} {kX : Class} (hfoundX : s.vm.findClass cls = some cX) (hkX : s.vm.classes[cX]? = some kX) (hcell : W.heap[a]? = some (freshCell cX kX)) (hnew : s.heap.size ≤ a) {msg : Value} (hmsg : msg.isRef = true)
    {g : JFrame} (hg : g.method = m) (hsize : g.locals.size = c.maxLocals) (hlocked : g.locked = none) (hentered : g.entered = []) {rest : List Value} (hstack : g.stack = msg :: .ref a :: .ref a :: rest)
    (hd6 : decode c.code g.pc = .ok (.invokespecial ic, 3)) (hd9 : decode c.code (g.pc + 3) = .ok (.athrow, 1)) (hout : ∀ x ∈ c.exceptionTable.toList, covers x (g.pc + 3) = false)
    (hRframes : (Y :: r).length + 3 < R.frames) (hRlocals : 2 * g.monitorRoom + ((Value.ref a :: rest).map fun v => v.category).sum + (13 * ((Y :: r).length + 1) + 42) ≤ R.locals) (hlocks : meth.locks = false) :
    ∃ U : State, Steps p.tables e below (W.setTop g) U ∧ U.status = .running ∧ Ended U below (.threw a) ∧ s.WarmedH U.vm ∧ s.sameButNew ({ U with vm := s.vm } : State) locs cells slots ∧
      ∃ ce, U.heap[a]? = some ce ∧ s.vm.findClass cls = some ce.cls ∧ ce.vm = .none := by
  have howns : e.platform.frameOwnsMonitors = true := by rw [X.admits.platform]
  have hfin : e.platform.finalization = false := by rw [X.admits.platform]
  have hpl : e.platform.magicAccessors = ({} : Platform).magicAccessors := by rw [X.admits.platform]
  have a' : ∀ x, x ∈ zr_own own ic cls (Y :: r) → x.holds args s none s [] = true := fun x hx => h x hx
  obtain ⟨T, Z0, LT, -, Yt⟩ := ThrowableC.of_atoms (args := args) howns hfin hpl (fun x hx => h x (by simp [zr_own, hx]))
  obtain ⟨Z, M, LZ, LM, hnZ⟩ := Init0T.ofS_atoms (args := args) hpl LT Yt (fun x hx => h x (by simp [zr_own, hx]))
  obtain ⟨P1, Ps, hlen, L1, hL, hP1m, hlink1, hlink⟩ := zr_chainS (args := args) hpl hnZ hcls hnames (fun x hx => h x (by simp [zr_own, hx]))
  have hfound : s.vm.findClass cls = some P1.m.cls := findClass_of_methodNamed hP1m
  cases Option.some.inj (hfoundX.symm.trans hfound)
  obtain ⟨c1, kX', hc1, hk, hord, -, -, hn6⟩ := Cond.instantiable_spec (a' (.instantiable cls 6) (by simp [zr_own]))
  cases Option.some.inj (hc1.symm.trans hfound)
  cases Option.some.inj (hkX.symm.trans hk)
  have hsel0 : selectMethod e.platform s.vm P1.m.cls T.fill0 = .method T.fill0 := by
    obtain ⟨c2, r2, m2, q1, q2, q3, q4, -⟩ := Cond.selects_spec (a' (.selects cls Bundle.tFill0 Bundle.tFill0) (by simp [zr_own]))
    cases Option.some.inj (q1.symm.trans hfound)
    cases Option.some.inj (q2.symm.trans (State.methodFound?_of_named Yt.fill0 (by decide)))
    cases Option.some.inj (q3.symm.trans Yt.fill0)
    rw [Launch.admits_selectMethod X.admits]; exact q4
  have hselF : selectMethod e.platform s.vm P1.m.cls T.fill = .method T.fill := by
    obtain ⟨c2, r2, m2, q1, q2, q3, q4, -⟩ := Cond.selects_spec (a' (.selects cls Bundle.tFill Bundle.tFill) (by simp [zr_own]))
    cases Option.some.inj (q1.symm.trans hfound)
    cases Option.some.inj (q2.symm.trans (State.methodFound?_of_named Yt.fill (by decide)))
    cases Option.some.inj (q3.symm.trans Yt.fill)
    rw [Launch.admits_selectMethod X.admits]; exact q4
  obtain ⟨cellS0, hcS0, hiss⟩ := Yt.statics
  obtain ⟨u0, hu0⟩ := Cond.staticRefV Yt.unassigned LT.unassignedStatic LT.statics hcS0 hiss (a' (.isRef (.static Bundle.tN "UNASSIGNED_STACK" Bundle.steD)) (by simp [zr_own]))
  obtain ⟨sen, hsen⟩ := Cond.staticRefV Yt.sentinel LT.sentinelStatic LT.statics hcS0 hiss (a' (.isRef (.static Bundle.tN "SUPPRESSED_SENTINEL" Bundle.listD)) (by simp [zr_own]))
  obtain ⟨ci198, i198, fB, hk198, hg198, ha198, hsB, -, hnB, htB, hffB⟩ := Cond.ownField (t := .object "java/lang/Object") Yt.found LT.cls (by decide +kernel) (a' (.fieldLink Bundle.tN 198 Bundle.tN "backtrace" "Ljava/lang/Object;") (by simp [zr_own])) (a' (.lays Bundle.tN Bundle.tN "backtrace" "Ljava/lang/Object;") (by simp [zr_own])) e.platform hpl
  obtain ⟨cellS, hcS', heS, -, hkeep⟩ := X.same.2.2.2.2.2 T.aS cellS0 hcS0
  have hcellS : W.heap[T.aS]? = some cellS := hcS'
  have hout' : ∀ i, (⟨T.aS, i⟩ : Loc) ∉ locs := fun i hmem => by
    have := hlocs _ hmem cellS0 hcS0
    rw [hiss] at this; cases this
  have hknownS : cellS.vm ≠ .unknown := by
    rw [heS]; intro hu
    rw [show cellS0.vm = .unknown from hu] at hiss
    cases hiss
  have hneS : T.aS ≠ a := Nat.ne_of_lt (Nat.lt_of_lt_of_le (Array.getElem?_eq_some_iff.mp hcS0).1 hnew)
  obtain ⟨iM, hffM⟩ := Yt.msg
  obtain ⟨tyC, dC, hdC, hdnC⟩ := Cond.laysAt hfound hk Yt.cause (a' (.lays cls Bundle.tN "cause" "Ljava/lang/Throwable;") (by simp [zr_own]))
  obtain ⟨tyS, dS, hdS, hdnS⟩ := Cond.laysAt hfound hk Yt.stack (a' (.lays cls Bundle.tN "stackTrace" Bundle.steD) (by simp [zr_own]))
  obtain ⟨tyP, dP, hdP, hdnP⟩ := Cond.laysAt hfound hk Yt.supp (a' (.lays cls Bundle.tN "suppressedExceptions" Bundle.listD) (by simp [zr_own]))
  obtain ⟨tyM, dM, hdM, hdnM⟩ := Cond.laysAt hfound hk hffM (a' (.lays cls Bundle.tN "detailMessage" "Ljava/lang/String;") (by simp [zr_own]))
  obtain ⟨tyB, dB, hdB, hdnB⟩ := Cond.laysAt hfound hk hffB (a' (.lays cls Bundle.tN "backtrace" "Ljava/lang/Object;") (by simp [zr_own]))
  have bC := Cond.laysApart hdB hdC hdnB hdnC (by rw [hnB, Yt.causeName]; decide)
  have bS := Cond.laysApart hdB hdS hdnB hdnS (by rw [hnB, Yt.stackName]; decide)
  have bP := Cond.laysApart hdB hdP hdnB hdnP (by rw [hnB, Yt.suppName]; decide)
  have hskip : SkipFacts T e.platform s (fun u => u) u0 ((preparedCellV T.toThrowableT (freshCell P1.m.cls kX) a u0 sen).withEntry W.cur) :=
    ⟨{ ci198 := ci198, i198 := i198, fBack := fB }, ⟨hk198, hg198, ha198, hsB⟩, by
      have := fresh_default (c := P1.m.cls) tyB
      rw [htB] at this
      simpa [preparedCellV, Cell.setSlot, Cell.withEntry, Array.getElem?_setIfInBounds, bC, bS, bP, bC.symm, bS.symm, bP.symm, defaultValue] using this, fun _ _ => rfl⟩
  obtain ⟨tm, methC, cdC, kC, vm₁, hnC, -, -, -, -, -, -, -, hW₁, st1⟩ := Steps.initColdS (tb := p.tables) (e := e) (below := below) (s := s) (U := W) X.here hexec X.warmed hpl hown (t := Bundle.initS cls) rfl rfl (Bundle.fit_spec hcls).2
    (a' (.methodLink own ic (Bundle.initS cls)) (by simp [zr_own])) (h (.instanceMethod (Bundle.initS cls)) (by simp [zr_own, zr_chain, Bundle.passSAtoms])) (bytes := zr_six) (maxL := 2) (h (.code (Bundle.initS cls) zr_six 2 none) (by simp [zr_own, zr_chain, Bundle.passSAtoms]))
    (f := g) hg (a := a) (msg := msg) (rest := .ref a :: rest) hstack hd6
  cases Option.some.inj (hnC.symm.trans hP1m)
  have X₁ := X.noted hW₁
  obtain ⟨vm₂, X₂, st2⟩ := X₁.ctorMessageOffV hexec (g := { g with stack := .ref a :: rest }) hg hsize T LT Z LZ M LM (P1 :: Ps)
    (fun P hP => by rcases List.mem_cons.mp hP with rfl | hP; exact L1; exact hL P hP) ⟨hlink1, hlink⟩ (u0 := u0) (sen := sen) (self := a) hmsg (cell := freshCell P1.m.cls kX) (cellS := cellS)
    hcell (fun _ => by simp) (by simp) rfl rfl hsel0 hselF hcellS hneS hknownS (by rw [hkeep _ (hout' _)]; exact hu0) (by rw [hkeep _ (hout' _)]; exact hsen)
    (Takes.of_laid hk hord tyC (by rw [Yt.causeType]; rfl)) (Takes.of_laid hk hord tyS (by rw [Yt.stackType]; exact fits_refV_array _ u0)) (Takes.of_laid hk hord tyP (by rw [Yt.suppType]; exact fits_refV_object _ sen))
    (Takes.of_laid hk hord tyM (by rw [Yt.msgType]; exact fits_refV_object _ ⟨msg, hmsg⟩)) Yt.objLocals hskip htr [] hd6
    (by simp only [List.length_cons] at hlen hRframes ⊢; omega) (by simp only [List.length_cons] at hlen hRlocals ⊢; rw [hlen]; exact hRlocals)
  obtain ⟨hwalk, hrun, hended, hWU, hsame⟩ := X₂.athrowLeaves hexec (g := { g with stack := .ref a :: rest, pc := g.pc + 3 }) hg hlocked hentered hout (a := a) (rest := rest) rfl hd9
  have hlt : a < ((W.setVm vm₁).setVm vm₂).heap.size := (Array.getElem?_eq_some_iff.mp hcell).1
  have hU := heapAt_setCell_self (s := (W.setVm vm₁).setVm vm₂) (plainBareV T.toThrowableT (freshCell P1.m.cls kX) a u0 sen msg) hlt
  refine ⟨_, st1 _ (fun acts => ?_), hrun, hended, hWU, hsame.weaken (fun y hy hlt' => ?_) (Nat.le_refl _) (Nat.le_refl _), _, hU, hfound, rfl⟩
  · rw [doInvoke_state]
    exact st2 _ hwalk
  · rcases List.mem_append.mp hy with h1 | h1
    · exact h1
    · exfalso
      have hb : y.base = a := by
        simp only [List.mem_cons, List.not_mem_nil, or_false] at h1
        rcases h1 with rfl | rfl | rfl | rfl | rfl <;> rfl
      rw [hb] at hlt'
      exact Nat.not_lt.mpr hnew hlt'
set_option maxHeartbeats 4000000 in
theorem zr_throwS {H : Heap} {ls : Array Slot} {rest : List Value} {free : Addr → Prop} {Qc : Array Value → State → Outcome → State → Prop} {XC : String → State → State → Prop} {cc : ByteArray} {pc : Nat} (hexec : p.tables.exec = Jvm.exec) (hb : c.code = cc) (hl : l.stackTraces = false) {own cls text Y : String} {r : List String} {ik is ic mc ms sa : Nat} {A : Nat → Prop}
    (hown : s.vm.findClass own = some m.cls) (hcls : Bundle.fit cls = true) (hnames : ∀ n ∈ Y :: r, Bundle.fit n = true)
    (hk : (Cond.classLink own ik cls).before args s = true) (hini : (Cond.initialized cls).before args s = true) (hstr : vk_R own is text sa s) (hat : ∀ w ∈ zr_atS own ic cls (Y :: r), w.before args s = true)
    (hgood : ∀ w ∈ Cond.classLink own ik cls :: Cond.initialized cls :: zr_atS own ic cls (Y :: r), vx_ot w = true)
    (hU : vx_Zq Bundle.tN "UNASSIGNED_STACK" Bundle.steD A s s.heap) (hN : vx_Zq Bundle.tN "SUPPRESSED_SENTINEL" Bundle.listD A s s.heap) (hS : va_S A s.heap H locs) (hsize : ls.size = c.maxLocals)
    (d0 : decode cc pc = .ok (.new ik, 3)) (d3 : decode cc (pc + 3) = .ok (.dup, 1)) (d4 : decode cc (pc + 4) = .ok (.ldc is, 2)) (d6 : decode cc (pc + 6) = .ok (.invokespecial ic, 3)) (d9 : decode cc (pc + 9) = .ok (.athrow, 1))
    (hout : ∀ x ∈ c.exceptionTable.toList, covers x (pc + 9) = false)
    (hRframes : (Y :: r).length + 3 < R.frames) (hRlocals : (rest.map fun v => v.category).sum + (13 * ((Y :: r).length + 1) + 43) ≤ R.locals) (hRcells : cells + 1 ≤ R.cells) (hRslots : slots + 6 ≤ R.slots) (hlocks : meth.locks = false)
    (hx : ∀ t : State, s.vm.Alike t.vm → H.size ≤ t.heap.size → (∀ q : Nat, q < H.size → t.heap[q]? = H[q]?) → XC cls s t)
    (hf : ∀ z ∈ locs, free z.base) (hc : cells + 1 ≤ mc) (hs : slots + 6 ≤ ms) :
    W p l e R s m args below meth c H locs cells slots (vx_MQ below Qc XC args s mc ms free) (F0 m pc ls rest) := by
  intro T hT X
  have htr : e.platform.stackTraces = false := (show e.platform.stackTraces = l.stackTraces by rw [X.admits.platform]).trans hl
  have Yb := vx_rebase X (R' := { frames := R.frames, locals := R.locals, cells := 1, slots := 6 }) (Nat.le_refl _) (Nat.le_refl _) hRcells hRslots
  obtain ⟨s', hA⟩ : ∃ z, z = (T.setVm s.vm).setFrames (.invoking m args :: below) := ⟨_, rfl⟩
  rw [← hA] at Yb
  have hvm : s'.vm = s.vm := by rw [hA]; rfl
  have hhp : s'.heap = H := by rw [hA]; exact hT
  have hW0 : s.WarmedH s'.vm := by rw [hvm]; exact State.WarmedH.refl s
  have hat' : ∀ w ∈ zr_atS own ic cls (Y :: r), w.before args s' = true := fun w hw => vx_ot_at hW0 hvm.symm (hgood w (List.mem_cons_of_mem _ (List.mem_cons_of_mem _ hw))) (hat w hw)
  have hk' : (Cond.classLink own ik cls).before args s' = true := vx_ot_at hW0 hvm.symm (hgood _ List.mem_cons_self) hk
  have hini' : (Cond.initialized cls).before args s' = true := vx_ot_at hW0 hvm.symm (hgood _ (List.mem_cons_of_mem _ List.mem_cons_self)) hini
  have hU' : vx_Zq Bundle.tN "UNASSIGNED_STACK" Bundle.steD A s' s'.heap := by rw [hhp]; exact vx_Zq.moved hW0.alike (hU.kept hS.2.1)
  have hN' : vx_Zq Bundle.tN "SUPPRESSED_SENTINEL" Bundle.listD A s' s'.heap := by rw [hhp]; exact vx_Zq.moved hW0.alike (hN.kept hS.2.1)
  have h : ∀ w ∈ zr_own own ic cls (Y :: r), w.before args s' = true := vx_own hat' (vx_isRefq hU'.1) (vx_isRefq hN'.1) hU'.2.word hN'.2.word
  have hown' : s'.vm.findClass own = some m.cls := by rw [hvm]; exact hown
  have hins : (Cond.instantiable cls 6).before args s' = true := h _ (by simp [zr_own])
  obtain ⟨vm₁, cX, kX, hfX, hkX, -, -, X₁, st1⟩ := Yb.newCold hexec (own := own) (C := cls) (index := ik) (n := 6) hown' hk' hins hini'
    (g := F0 m pc ls rest) rfl (by rw [hb]; exact d0) (Nat.le_refl _) (Nat.le_refl _)
  generalize hT1 : (T.setVm vm₁).pushCell { cls := cX, slots := kX.instanceTypes.map defaultValue, vm := .none } = T1 at X₁ st1
  have hcat : (Value.ref T.heap.size).category = 1 := rfl
  have hcellA : T1.heap[T.heap.size]? = some (freshCell cX kX) := by rw [← hT1]; exact State.heap_pushCell_size _ _
  have d3' : decode c.code (pc + 3) = .ok (.dup, 1) := by rw [hb]; exact d3
  have d4' : decode c.code (pc + 4) = .ok (.ldc is, 2) := by rw [hb]; exact d4
  have hstr' : vk_R own is text sa s' := vk_R.warm hW0 hstr
  obtain ⟨U, hsteps, hrun, hend, hW, hsame, ce, hce, hO1, hO2⟩ := zr_ctorThrow X₁ hexec htr (own := own) (cls := cls) (ic := ic) hown' hcls hnames h (fun x hx => nomatch hx) hfX hkX hcellA (by rw [hhp, hT]; exact Nat.le_refl _) (msg := .ref sa) rfl
    (g := { method := m, pc := pc + 6, locals := ls, stack := .ref sa :: .ref T.heap.size :: .ref T.heap.size :: rest, locked := none }) rfl hsize rfl rfl (rest := rest) rfl
    (by rw [hb]; exact d6) (by rw [hb]; exact d9) hout hRframes (by simp only [List.map_cons, List.sum_cons, hcat] at hRlocals ⊢; show 2 * 0 + _ + _ ≤ _; omega) hlocks
  obtain ⟨f1, f2⟩ := vx_frame hsame
  rw [hhp] at f1 f2
  have hWs : s.WarmedH U.vm := State.WarmedH.trans hW0 hW
  have hcl : s.vm.findClass cls = some ce.cls := by
    rw [hvm] at hO1
    exact hO1
  have hall : s.sameButNew ({ U with vm := s.vm } : State) locs mc ms := by
    subst hA
    obtain ⟨e1, e2⟩ := hsame
    rw [State.setFrames_setFrames] at e1
    have h2 : (T.setVm s.vm).sameButNew ({ U with vm := s.vm } : State) [] (0 + 1) (0 + 6) := ⟨e1, e2⟩
    have h3 := X.same.trans h2
    rw [List.append_nil] at h3
    exact h3.mono hc hs
  refine ⟨U, ?_, .threw T.heap.size, hrun, hend, Or.inr ⟨T.heap.size, rfl, cls, ce, locs, hx U hWs.alike f1 (fun q hq => f2 q hq (fun z hz => nomatch hz)), hce, hO2, hcl, hWs, hall, hf⟩⟩
  refine st1 _ ?_
  show Steps p.tables e below (T1.setTop { method := m, pc := pc + 3, locals := ls, stack := .ref T.heap.size :: rest, locked := none }) _
  jvm_step X₁.here [X₁.here.top, hexec, d3', Value.category]
  exact X₁.ldcString hexec (own := own) (text := text) (index := is) (a := sa) hown' hstr'.1 hstr'.2
    (g := { method := m, pc := pc + 4, locals := ls, stack := .ref T.heap.size :: .ref T.heap.size :: rest, locked := none }) rfl d4' _ hsteps
end ZRN
end
section
/-! pure rows for the public methods -/
theorem zr_sw_lt {x : Int32} (h : x < 0) {hi : Int} : x.toInt < 0 ∨ hi < x.toInt := Or.inl (Int32.lt_iff_toInt_lt.mp h)
theorem zr_sw_ge {x : Int32} {n : Nat} (hn : n + 1 < 2 ^ 31) (h : nI (n + 1) ≤ x) {lo : Int} : x.toInt < lo ∨ (n : Int) < x.toInt := by
  have h1 := Int32.le_iff_toInt_le.mp h
  rw [nI_toInt hn] at h1
  right; omega
theorem zr_min {a b : Nat} (ha : a < 2 ^ 31) (hb : b < 2 ^ 31) : (if nI b < nI a then nI b else nI a) = nI (min a b) := by
  by_cases h : b < a
  · rw [if_pos ((nI_ltI hb ha).mpr h), Nat.min_eq_right (by omega)]
  · rw [if_neg (fun q => h ((nI_ltI hb ha).mp q)), Nat.min_eq_left (by omega)]
theorem zr_iadd_le {a b n : Nat} (h : a + b < 2 ^ 31) (hn : n < 2 ^ 31) : nI (a + b) ≤ nI n ↔ a + b ≤ n := nI_leI h hn
def zM (j : Nat) : Int32 := nI j - nI 1
theorem zM_1 {j : Nat} (h : 1 ≤ j) : zM j = nI (j - 1) := pk_sub h
theorem zM_lt {j k : Nat} (hj : j < 2 ^ 30) (hk : k < 2 ^ 30) : zM j < nI k ↔ j ≤ k := by
  unfold zM
  rw [Int32.lt_iff_toInt_lt, pk_sub_toInt hj (by decide), nI_toInt (by omega)]
  omega
theorem zM_dec {j : Nat} (h : 1 ≤ j) : nI (j - 1) + Int32.ofInt (-1) = zM (j - 1) := by
  unfold zM
  rw [Int32.sub_eq_add_neg, show Int32.ofInt (-1) = -nI 1 by decide]
/-- the OUT as a number: d bytes below the place e -/
def oV (f : Nat → Int64) (e : Nat) : Nat → Int64
  | 0 => 0
  | d + 1 => (oV f e d <<< ((nI 8).toInt64 &&& 63)) ||| (nI (byF f 0 (e - 1 - d))).toInt64
theorem oV_bit (f : Nat → Int64) (e : Nat) : ∀ d, d ≤ e → ∀ y, y < 64 → lb (oV f e d) y = (decide (y < 8 * d) && cb f 0 (8 * (e - d) + y)) := by
  intro d
  induction d with
  | zero => intro _ y hy; show lb 0 y = _; rw [lb_0]; simp
  | succ d ih =>
    intro hd y hy
    show lb ((oV f e d <<< ((nI 8).toInt64 &&& 63)) ||| (nI (byF f 0 (e - 1 - d))).toInt64) y = _
    rw [lb_or, lb_shl _ (by decide), lb_nI (Nat.lt_of_lt_of_le (byF_lt f 0 _) (by decide)), byF_bit]
    by_cases h8 : y < 8
    · have h1 : y < 8 * (d + 1) := by omega
      rw [show 8 * (e - 1 - d) + y = 8 * (e - (d + 1)) + y by omega]
      simp [h8, h1]
    · rw [ih (by omega) (y - 8) (by omega)]
      rw [show 8 * (e - d) + (y - 8) = 8 * (e - (d + 1)) + y by omega]
      by_cases h1 : y < 8 * (d + 1)
      · have h2 : y - 8 < 8 * d := by omega
        simp [h8, h1, h2, hy]
      · have h2 : ¬ y - 8 < 8 * d := by omega
        simp [h8, h1, h2]
/-- what look answers -/
def lkV (wd : Int64) (off : Bool) (wl : Int32) (ld : Nat) (cn : Nat → Nat) (k : Nat) : Int64 :=
  if k = 0 then wd else if k = 1 then (if off then 1 else 0) else if k = 2 then wl.toInt64 else if k = 3 then (nI ld).toInt64 else if k = 4 then (nI (cn 2)).toInt64 else (nI (cn 3)).toInt64
end
section
set_option maxHeartbeats 4000000 in
set_option maxRecDepth 100000 in
theorem c_X0_feed (l : Launch) (hl9 : l.stackTraces = false) (dC : Nat → ClassId) (dI : Nat → Nat → Nat) (sz : Nat) (h0 aN aL aK aC aT aO : Nat) (ld tb ob : Nat) (off : Bool) (wl : Int32) (wd : Int64) (cJ : ClassId) (tape : Nat → Int64) (x : Int32) (v : Int64) (htb : tb ≤ 64) : vx_Met l yX0_feed wsX0_feed ({ frames := 6, cells := 1, slots := 6, locals := 82 }) (va_Pc [.ref h0, .int x, .long v] (fun U => U.heap.size = sz ∧ va_P (dC, dI) vwCl [(h0, .inr (0, [.ref aN, .ref aL, .ref aK, .ref aC, .int (nI ld), .ref aT, .int (nI tb), .ref aO, .int (nI ob), .int (bI off), .int wl, .long wd])), (aT, .inl (cJ, 8, .inr (.inl tape)))] U.heap ∧ va_K (dC, dI) vwCl [(cJ, .long)] U ∧ va_D (fun _ => True) [(h0, .inr (0, [.ref aN, .ref aL, .ref aK, .ref aC, .int (nI ld), .ref aT, .int (nI tb), .ref aO, .int (nI ob), .int (bI off), .int wl, .long wd])), (aT, .inl (cJ, 8, .inr (.inl tape)))] ∧ xw U ∧ xz (va_A [(h0, .inr (0, [.ref aN, .ref aL, .ref aK, .ref aC, .int (nI ld), .ref aT, .int (nI tb), .ref aO, .int (nI ob), .int (bI off), .int wl, .long wd])), (aT, .inl (cJ, 8, .inr (.inl tape)))] sz) U U.heap)) (va_Qi (fun (r : Int32) (k : Nat) => 1 ≤ k ∧ k ≤ 8 ∧ x = nI k ∧ tb + k ≤ 64 ∧ r = nI (tb + k)) (fun (k : Nat) t => va_P (dC, dI) vwCl [(h0, .inr (0, [.ref aN, .ref aL, .ref aK, .ref aC, .int (nI ld), .ref aT, .int (nI (tb + k)), .ref aO, .int (nI ob), .int (bI off), .int wl, .long wd])), (aT, .inl (cJ, 8, .inr (.inl (tF tape 0 tb v k))))] t.heap ∧ va_K (dC, dI) vwCl [(cJ, .long)] t ∧ va_D (va_A [(h0, .inr (0, [.ref aN, .ref aL, .ref aK, .ref aC, .int (nI ld), .ref aT, .int (nI tb), .ref aO, .int (nI ob), .int (bI off), .int wl, .long wd])), (aT, .inl (cJ, 8, .inr (.inl tape)))] sz) [(h0, .inr (0, [.ref aN, .ref aL, .ref aK, .ref aC, .int (nI ld), .ref aT, .int (nI (tb + k)), .ref aO, .int (nI ob), .int (bI off), .int wl, .long wd])), (aT, .inl (cJ, 8, .inr (.inl (tF tape 0 tb v k))))]) (va_A [(h0, .inr (0, [.ref aN, .ref aL, .ref aK, .ref aC, .int (nI ld), .ref aT, .int (nI tb), .ref aO, .int (nI ob), .int (bI off), .int wl, .long wd])), (aT, .inl (cJ, 8, .inr (.inl tape)))] sz)) (vx_X (fun (_ : Unit) => True) (fun E (_ : Unit) t => ((E = "java/lang/IllegalArgumentException" ∧ okC x = false) ∨ (E = "java/lang/IllegalStateException" ∧ ∃ k : Nat, 1 ≤ k ∧ k ≤ 8 ∧ x = nI k ∧ 64 < tb + k)) ∧ va_P (dC, dI) vwCl [(h0, .inr (0, [.ref aN, .ref aL, .ref aK, .ref aC, .int (nI ld), .ref aT, .int (nI tb), .ref aO, .int (nI ob), .int (bI off), .int wl, .long wd])), (aT, .inl (cJ, 8, .inr (.inl tape)))] t.heap ∧ va_K (dC, dI) vwCl [(cJ, .long)] t ∧ va_D (va_A [(h0, .inr (0, [.ref aN, .ref aL, .ref aK, .ref aC, .int (nI ld), .ref aT, .int (nI tb), .ref aO, .int (nI ob), .int (bI off), .int wl, .long wd])), (aT, .inl (cJ, 8, .inr (.inl tape)))] sz) [(h0, .inr (0, [.ref aN, .ref aL, .ref aK, .ref aC, .int (nI ld), .ref aT, .int (nI tb), .ref aO, .int (nI ob), .int (bI off), .int wl, .long wd])), (aT, .inl (cJ, 8, .inr (.inl tape)))]) (va_A [(h0, .inr (0, [.ref aN, .ref aL, .ref aK, .ref aC, .int (nI ld), .ref aT, .int (nI tb), .ref aO, .int (nI ob), .int (bI off), .int wl, .long wd])), (aT, .inl (cJ, 8, .inr (.inl tape)))] sz)) 1 6 (va_A [(h0, .inr (0, [.ref aN, .ref aL, .ref aK, .ref aC, .int (nI ld), .ref aT, .int (nI tb), .ref aO, .int (nI ob), .int (bI off), .int wl, .long wd])), (aT, .inl (cJ, 8, .inr (.inl tape)))] sz) := by
  refine vx_ofW (cc := cX0_feed) (maxL := 4) (ret := some .int) (by decide) rfl ?_
  intro p e s m args below meth c s₁ B hml hno hv
  obtain ⟨rfl, hsz, hP, hK, hD0, hxw, hxz⟩ := hv
  have hx := B.exec
  have hb := B.bytes
  have hr := B.returns
  have hts := atoms_spec (ws := wsX0_feed) B.pre
  have hown : s.vm.findClass RX0 = some m.cls := findClass_of_methodNamed B.named
  have hlocks := B.notSynchronized
  subst hsz
  have hD := hD0.self (sz := s.heap.size)
  generalize hAe : va_A [(h0, .inr (0, [.ref aN, .ref aL, .ref aK, .ref aC, .int (nI ld), .ref aT, .int (nI tb), .ref aO, .int (nI ob), .int (bI off), .int wl, .long wd])), (aT, .inl (cJ, 8, .inr (.inl tape)))] s.heap.size = A at hD hxz ⊢
  have hA : ∀ q : Nat, s.heap.size ≤ q → A q := fun q h => by rw [← hAe]; exact Or.inr h
  generalize hH : s.heap = H at hP ⊢
  have hS : va_S A s.heap H [] := by rw [hH]; exact va_S.rf
  have hP : va_P (dC, dI) vwCl [(h0, .inr (0, [.ref aN, .ref aL, .ref aK, .ref aC, .int (nI ld), .ref aT, .int (nI tb), .ref aO, .int (nI ob), .int (bI off), .int wl, .long wd])), (aT, .inl (cJ, 8, .inr (.inl tape)))] H := hP
  have hl := lv_entry ([.ref h0, .int x, .long v]) (n := 4) (Nat.le_of_ble_eq_true rfl)
  rw [lg_entry_eq]
  generalize (lg_sl ([.ref h0, .int x, .long v]) ++ List.replicate (4 - (lg_sl ([.ref h0, .int x, .long v])).length) Slot.unset).toArray = ls at hl ⊢
  have hl : lv_has ls 4 [(0, .ref h0), (1, .int x), (2, .long v)] := hl
  have hi0 : ∀ w ∈ u_ws RX0 TX0 12, w ∈ wsX0_feed := by decide +kernel
  have hat0 : ∀ w ∈ vx_atS RX0 64 "java/lang/IllegalArgumentException" ["java/lang/RuntimeException", "java/lang/Exception"], w.before _ s = true := vx_hat (L := vx_atS RX0 64 "java/lang/IllegalArgumentException" ["java/lang/RuntimeException", "java/lang/Exception"]) (B := [.castable "java/lang/IllegalArgumentException" "java/lang/IllegalArgumentException", .declares ⟨"java/lang/RuntimeException", "<init>", "(Ljava/lang/String;)V"⟩, .declares ⟨"java/lang/Exception", "<init>", "(Ljava/lang/String;)V"⟩, .declares ⟨"java/lang/Throwable", "<init>", "(Ljava/lang/String;)V"⟩]) (fun w hw => hts w ((by decide +kernel : ∀ w ∈ (vx_atS RX0 64 "java/lang/IllegalArgumentException" ["java/lang/RuntimeException", "java/lang/Exception"]).filter goodWord, w ∈ wsX0_feed) w hw)) (by decide +kernel) (vx_c (va_Nw.use rfl hxw.1.1) (vx_c (va_Nw.use rfl hxw.1.2.2.2.1) (vx_c (va_Nw.use rfl hxw.1.2.2.2.2.1) (vx_c (va_Nw.use rfl hxw.1.2.2.2.2.2) (vx_n)))))
  have hat1 : ∀ w ∈ vx_atS RX0 71 "java/lang/IllegalStateException" ["java/lang/RuntimeException", "java/lang/Exception"], w.before _ s = true := vx_hat (L := vx_atS RX0 71 "java/lang/IllegalStateException" ["java/lang/RuntimeException", "java/lang/Exception"]) (B := [.castable "java/lang/IllegalStateException" "java/lang/IllegalStateException", .declares ⟨"java/lang/RuntimeException", "<init>", "(Ljava/lang/String;)V"⟩, .declares ⟨"java/lang/Exception", "<init>", "(Ljava/lang/String;)V"⟩, .declares ⟨"java/lang/Throwable", "<init>", "(Ljava/lang/String;)V"⟩]) (fun w hw => hts w ((by decide +kernel : ∀ w ∈ (vx_atS RX0 71 "java/lang/IllegalStateException" ["java/lang/RuntimeException", "java/lang/Exception"]).filter goodWord, w ∈ wsX0_feed) w hw)) (by decide +kernel) (vx_c (va_Nw.use rfl hxw.1.2.1) (vx_c (va_Nw.use rfl hxw.1.2.2.2.1) (vx_c (va_Nw.use rfl hxw.1.2.2.2.2.1) (vx_c (va_Nw.use rfl hxw.1.2.2.2.2.2) (vx_n)))))
  refine lv_iload_n hx hb dX0_feed_0 rfl (lv_at hl 1 rfl) ?_
  have hPc := hP.sub (ws' := []) [] rfl
  have hDc := hD.sub (ws' := []) [] (by decide) rfl
  have hKc := hK.sub (tys' := []) [] rfl
  have hFc := va_free (wc := []) hD hS hA [] rfl
  refine va_calli (va_runS (As := [.int x]) (rest := []) ⟨hx, hb, hml, hown, hts⟩ (c_X0_isCount l dC dI H.size x) (va_cwS 1 hts gX0_feed_X0_isCount rfl rfl rfl (by decide +kernel) ⟨Nat.le_of_ble_eq_true rfl, Nat.le_of_ble_eq_true rfl⟩) ⟨fun a U g mk q => by obtain ⟨q0, q1, qP, qK, qD⟩ := q; exact ⟨q0, q1, qP, va_K.moved (u := U) (U := U.calling g mk a) (Vm.Alike.refl U.vm) qK, qD⟩, fun U hU hW => ⟨rfl, by rw [hU], by rw [hU]; exact hPc, va_K.moved hW.alike hKc, hDc.weaken (fun _ _ _ _ => trivial)⟩⟩ rfl rfl hl.1 rfl (lv_room (Nat.le_of_ble_eq_true rfl)) dX0_feed_1 ⟨Nat.le_of_ble_eq_true rfl, Nat.le_of_ble_eq_true rfl⟩) hS (fun q _ h => hFc q h) hFc (fun r_1 u t H1 locs ht hvm hw hB hz1 hk1 hS => ?_)
  obtain ⟨hP1, hK1, hD1⟩ := hB
  rw [ht] at hP1
  obtain ⟨hP, hD⟩ := va_join (wr := [(h0, .inr (0, [.ref aN, .ref aL, .ref aK, .ref aC, .int (nI ld), .ref aT, .int (nI tb), .ref aO, .int (nI ob), .int (bI off), .int wl, .long wd])), (aT, .inl (cJ, 8, .inr (.inl tape)))]) (w1 := []) hP hD [] [0, 1] rfl rfl (by decide) (by decide) hk1 hFc hP1 hD1
  clear hP1 hD1 hK1 hPc hDc hKc hFc hk1 hz1 hvm ht
  generalize H1 = H at hP hS ⊢
  have hP : va_P (dC, dI) vwCl [(h0, .inr (0, [.ref aN, .ref aL, .ref aK, .ref aC, .int (nI ld), .ref aT, .int (nI tb), .ref aO, .int (nI ob), .int (bI off), .int wl, .long wd])), (aT, .inl (cJ, 8, .inr (.inl tape)))] H := hP
  have hD : va_D A [(h0, .inr (0, [.ref aN, .ref aL, .ref aK, .ref aC, .int (nI ld), .ref aT, .int (nI tb), .ref aO, .int (nI ob), .int (bI off), .int wl, .long wd])), (aT, .inl (cJ, 8, .inr (.inl tape)))] := hD
  refine W.widen (k := 0) (n := 0) (Nat.le_refl _) (Nat.le_refl _) ?_
  obtain rfl := hw
  refine zr_ifb_ne (tgt := 17) hx hb dX0_feed_4 (by decide) (fun c4 => ?_) (fun c4 => ?_)
  · obtain ⟨k, hk1, hk8, rfl⟩ := okC_get c4
    refine lv_aload_n hx hb dX0_feed_17 rfl (lv_at hl 0 rfl) ?_
    refine va_get (D := (dC, dI)) (ci := 0) (v := .int (nI tb)) (C := RX0) (T := TX0) (N := 12) hx hb hts hi0 hown hK hP 0 rfl rfl 6 (by decide) (hts (.fieldLink RX0 36 "CellRack" "tapeBytes" "I") (by decide +kernel)) (fun _ h9 => h9) rfl dX0_feed_18 ?_
    refine lv_iload_n hx hb dX0_feed_21 rfl (lv_at hl 1 rfl) ?_
    refine zr_iadd hx hb dX0_feed_22 ?_
    refine lv_bipush (v := nI 64) hx hb dX0_feed_23 (by decide) ?_
    refine zr_icmp_le (tgt := 38) hx hb (by omega) (by omega) dX0_feed_25 (by decide) (fun c25 => ?_) (fun c25 => ?_)
    · refine lv_aload_n hx hb dX0_feed_38 rfl (lv_at hl 0 rfl) ?_
      refine va_get (D := (dC, dI)) (ci := 0) (v := .ref aT) (C := RX0) (T := TX0) (N := 12) hx hb hts hi0 hown hK hP 0 rfl rfl 5 (by decide) (hts (.fieldLink RX0 33 "CellRack" "tape" "[J") (by decide +kernel)) (fun _ h9 => h9) rfl dX0_feed_39 ?_
      refine lv_iconst (v := nI 0) hx hb dX0_feed_42 (by decide) ?_
      refine lv_aload_n hx hb dX0_feed_43 rfl (lv_at hl 0 rfl) ?_
      refine va_get (D := (dC, dI)) (ci := 0) (v := .int (nI tb)) (C := RX0) (T := TX0) (N := 12) hx hb hts hi0 hown hK hP 0 rfl rfl 6 (by decide) (hts (.fieldLink RX0 36 "CellRack" "tapeBytes" "I") (by decide +kernel)) (fun _ h9 => h9) rfl dX0_feed_44 ?_
      refine lv_lload_n hx hb dX0_feed_47 rfl (lv_at hl 2 rfl) ?_
      refine lv_iload_n hx hb dX0_feed_48 rfl (lv_at hl 1 rfl) ?_
      have hPc := hP.sub (ws' := [(aT, .inl (cJ, 8, .inr (.inl tape)))]) [1] rfl
      have hDc := hD.sub (ws' := [(aT, .inl (cJ, 8, .inr (.inl tape)))]) [1] (by decide) rfl
      have hKc := hK.sub (tys' := [(cJ, .long)]) [0] rfl
      have hFc := va_free (wc := [(aT, .inl (cJ, 8, .inr (.inl tape)))]) hD hS hA [1] rfl
      refine va_callv (va_runS (As := [.ref aT, .int (nI 0), .int (nI tb), .long v, .int (nI k)]) (rest := []) ⟨hx, hb, hml, hown, hts⟩ (c_X0_turnBytes l dC dI H.size aT cJ 8 tape 0 tb v k (by decide) (by omega) (by omega) (fun i hi => by omega)) (va_cwS 5 hts gX0_feed_X0_turnBytes rfl rfl rfl (by decide +kernel) ⟨Nat.le_of_ble_eq_true rfl, Nat.le_of_ble_eq_true rfl⟩) ⟨fun a U g mk q => by obtain ⟨q0, q1, qP, qK, qD⟩ := q; exact ⟨q0, q1, qP, va_K.moved (u := U) (U := U.calling g mk a) (Vm.Alike.refl U.vm) qK, qD⟩, fun U hU hW => ⟨rfl, by rw [hU], by rw [hU]; exact hPc, va_K.moved hW.alike hKc, hDc.weaken (fun _ _ _ _ => trivial)⟩⟩ rfl rfl hl.1 rfl (lv_room (Nat.le_of_ble_eq_true rfl)) dX0_feed_49 ⟨Nat.le_of_ble_eq_true rfl, Nat.le_of_ble_eq_true rfl⟩) hS (fun q _ h => hFc q h) hFc (fun u t H1 locs ht hvm hw hB hz1 hk1 hS => ?_)
      obtain ⟨hP1, hK1, hD1⟩ := hB
      rw [ht] at hP1
      obtain ⟨hP, hD⟩ := va_join (wr := [(h0, .inr (0, [.ref aN, .ref aL, .ref aK, .ref aC, .int (nI ld), .ref aT, .int (nI tb), .ref aO, .int (nI ob), .int (bI off), .int wl, .long wd]))]) (w1 := [(aT, .inl (cJ, 8, .inr (.inl (tF tape 0 tb v k))))]) hP hD [1] [0] rfl rfl (by decide) (by decide) hk1 hFc hP1 hD1
      clear hP1 hD1 hK1 hPc hDc hKc hFc hk1 hz1 hvm ht
      generalize H1 = H at hP hS ⊢
      have hP : va_P (dC, dI) vwCl [(h0, .inr (0, [.ref aN, .ref aL, .ref aK, .ref aC, .int (nI ld), .ref aT, .int (nI tb), .ref aO, .int (nI ob), .int (bI off), .int wl, .long wd])), (aT, .inl (cJ, 8, .inr (.inl (tF tape 0 tb v k))))] H := hP
      have hD : va_D A [(h0, .inr (0, [.ref aN, .ref aL, .ref aK, .ref aC, .int (nI ld), .ref aT, .int (nI tb), .ref aO, .int (nI ob), .int (bI off), .int wl, .long wd])), (aT, .inl (cJ, 8, .inr (.inl (tF tape 0 tb v k))))] := hD
      refine W.widen (k := 0) (n := 0) (Nat.le_refl _) (Nat.le_refl _) ?_
      refine lv_aload_n hx hb dX0_feed_52 rfl (lv_at hl 0 rfl) ?_
      refine lv_dup hx hb dX0_feed_53 rfl ?_
      refine va_get (D := (dC, dI)) (ci := 0) (v := .int (nI tb)) (C := RX0) (T := TX0) (N := 12) hx hb hts hi0 hown hK hP 0 rfl rfl 6 (by decide) (hts (.fieldLink RX0 36 "CellRack" "tapeBytes" "I") (by decide +kernel)) (fun _ h9 => h9) rfl dX0_feed_54 ?_
      refine lv_iload_n hx hb dX0_feed_57 rfl (lv_at hl 1 rfl) ?_
      refine zr_iadd hx hb dX0_feed_58 ?_
      refine va_put (D := (dC, dI)) (ci := 0) (v := .int (nI (tb + k))) (ty := .int) (C := RX0) (T := TX0) (N := 12) hx hb hts hi0 tyX0 tyX0_ok nmX0 hown hK hP hD hS 0 rfl rfl 6 (by decide) (hts (.fieldLink RX0 36 "CellRack" "tapeBytes" "I") (by decide +kernel)) (fun _ h9 => h9) rfl (by decide +kernel) (rfl) (rfl) (Nat.le_of_ble_eq_true rfl) dX0_feed_59 (fun H locs hP hD hS => ?_)
      have hP : va_P (dC, dI) vwCl [(h0, .inr (0, [.ref aN, .ref aL, .ref aK, .ref aC, .int (nI ld), .ref aT, .int (nI (tb + k)), .ref aO, .int (nI ob), .int (bI off), .int wl, .long wd])), (aT, .inl (cJ, 8, .inr (.inl (tF tape 0 tb v k))))] H := hP
      have hD : va_D A [(h0, .inr (0, [.ref aN, .ref aL, .ref aK, .ref aC, .int (nI ld), .ref aT, .int (nI (tb + k)), .ref aO, .int (nI ob), .int (bI off), .int wl, .long wd])), (aT, .inl (cJ, 8, .inr (.inl (tF tape 0 tb v k))))] := hD
      refine lv_aload_n hx hb dX0_feed_62 rfl (lv_at hl 0 rfl) ?_
      refine va_get (D := (dC, dI)) (ci := 0) (v := .int (nI (tb + k))) (C := RX0) (T := TX0) (N := 12) hx hb hts hi0 hown hK hP 0 rfl rfl 6 (by decide) (hts (.fieldLink RX0 36 "CellRack" "tapeBytes" "I") (by decide +kernel)) (fun _ h9 => h9) rfl dX0_feed_63 ?_
      refine W.widen (k := 1) (n := 6) (Nat.le_of_ble_eq_true rfl) (Nat.le_of_ble_eq_true rfl) ?_
      refine vx_ret ?_
      have hP9 := hP.sub (ws' := [(h0, .inr (0, [.ref aN, .ref aL, .ref aK, .ref aC, .int (nI ld), .ref aT, .int (nI (tb + k)), .ref aO, .int (nI ob), .int (bI off), .int wl, .long wd])), (aT, .inl (cJ, 8, .inr (.inl (tF tape 0 tb v k))))]) [0, 1] rfl
      have hD9 := hD.sub (ws' := [(h0, .inr (0, [.ref aN, .ref aL, .ref aK, .ref aC, .int (nI ld), .ref aT, .int (nI (tb + k)), .ref aO, .int (nI ob), .int (bI off), .int wl, .long wd])), (aT, .inl (cJ, 8, .inr (.inl (tF tape 0 tb v k))))]) [0, 1] (by decide) rfl
      exact W.iret (v := nI (tb + k)) hx hb hr (fun t ht hW => ⟨⟨nI (tb + k), k, rfl, ⟨hk1, hk8, rfl, by omega, rfl⟩, by rw [ht]; exact hP9, va_K.moved hW.alike hK, hD9⟩, hS.F ht⟩) hS.2.2 dX0_feed_66
    · obtain ⟨sa, hstr⟩ := hxw.2 (69, "the tape would have more than 64 bytes") (by decide)
      have hP9 := hP.sub (ws' := [(h0, .inr (0, [.ref aN, .ref aL, .ref aK, .ref aC, .int (nI ld), .ref aT, .int (nI tb), .ref aO, .int (nI ob), .int (bI off), .int wl, .long wd])), (aT, .inl (cJ, 8, .inr (.inl tape)))]) [0, 1] rfl
      have hD9 := hD.sub (ws' := [(h0, .inr (0, [.ref aN, .ref aL, .ref aK, .ref aC, .int (nI ld), .ref aT, .int (nI tb), .ref aO, .int (nI ob), .int (bI off), .int wl, .long wd])), (aT, .inl (cJ, 8, .inr (.inl tape)))]) [0, 1] (by decide) rfl
      exact vx_throwS (own := RX0) (cls := "java/lang/IllegalStateException") (names := ["java/lang/RuntimeException", "java/lang/Exception"]) hx hb hl9 hown (by decide +kernel) (by decide +kernel) (hts (.classLink RX0 67 "java/lang/IllegalStateException") (by decide +kernel)) (hts (.initialized "java/lang/IllegalStateException") (by decide +kernel)) hstr hat1 (by decide +kernel) hxz.1 hxz.2 hS (hl.1.trans hml.symm) dX0_feed_28 dX0_feed_31 dX0_feed_32 dX0_feed_34 dX0_feed_37 (fun x hx => (hno x hx).elim) (Nat.le_of_ble_eq_true rfl) (Nat.le_of_ble_eq_true rfl) (Nat.le_of_ble_eq_true rfl) (Nat.le_of_ble_eq_true rfl) hlocks (fun t ha hsz hk => ⟨(), trivial, ⟨Or.inr ⟨rfl, k, hk1, hk8, rfl, by omega⟩, hP9.kept (fun k q hq => hk q.1 (hP9 k q hq).lt), va_K.moved ha hK, hD9⟩, Nat.le_trans hS.1 hsz, fun q h1 h2 => (hk q (Nat.lt_of_lt_of_le h1 hS.1)).trans (hS.2.1 q h1 h2)⟩) hS.2.2 (Nat.le_of_ble_eq_true rfl) (Nat.le_of_ble_eq_true rfl)
  · obtain ⟨sa, hstr⟩ := hxw.2 (62, "n is not 1 .. 8") (by decide)
    have hP9 := hP.sub (ws' := [(h0, .inr (0, [.ref aN, .ref aL, .ref aK, .ref aC, .int (nI ld), .ref aT, .int (nI tb), .ref aO, .int (nI ob), .int (bI off), .int wl, .long wd])), (aT, .inl (cJ, 8, .inr (.inl tape)))]) [0, 1] rfl
    have hD9 := hD.sub (ws' := [(h0, .inr (0, [.ref aN, .ref aL, .ref aK, .ref aC, .int (nI ld), .ref aT, .int (nI tb), .ref aO, .int (nI ob), .int (bI off), .int wl, .long wd])), (aT, .inl (cJ, 8, .inr (.inl tape)))]) [0, 1] (by decide) rfl
    exact vx_throwS (own := RX0) (cls := "java/lang/IllegalArgumentException") (names := ["java/lang/RuntimeException", "java/lang/Exception"]) hx hb hl9 hown (by decide +kernel) (by decide +kernel) (hts (.classLink RX0 60 "java/lang/IllegalArgumentException") (by decide +kernel)) (hts (.initialized "java/lang/IllegalArgumentException") (by decide +kernel)) hstr hat0 (by decide +kernel) hxz.1 hxz.2 hS (hl.1.trans hml.symm) dX0_feed_7 dX0_feed_10 dX0_feed_11 dX0_feed_13 dX0_feed_16 (fun x hx => (hno x hx).elim) (Nat.le_of_ble_eq_true rfl) (Nat.le_of_ble_eq_true rfl) (Nat.le_of_ble_eq_true rfl) (Nat.le_of_ble_eq_true rfl) hlocks (fun t ha hsz hk => ⟨(), trivial, ⟨Or.inl ⟨rfl, c4⟩, hP9.kept (fun k q hq => hk q.1 (hP9 k q hq).lt), va_K.moved ha hK, hD9⟩, Nat.le_trans hS.1 hsz, fun q h1 h2 => (hk q (Nat.lt_of_lt_of_le h1 hS.1)).trans (hS.2.1 q h1 h2)⟩) hS.2.2 (Nat.le_of_ble_eq_true rfl) (Nat.le_of_ble_eq_true rfl)
set_option maxHeartbeats 4000000 in
set_option maxRecDepth 100000 in
theorem c_X0_lose (l : Launch) (hl9 : l.stackTraces = false) (dC : Nat → ClassId) (dI : Nat → Nat → Nat) (sz : Nat) (h0 aN aL aK aC aT aO : Nat) (ld tb ob : Nat) (off : Bool) (wl : Int32) (wd : Int64) (x : Int32) : vx_Met l yX0_lose wsX0_lose ({ frames := 6, cells := 1, slots := 6, locals := 82 }) (va_Pc [.ref h0, .int x] (fun U => U.heap.size = sz ∧ va_P (dC, dI) vwCl [(h0, .inr (0, [.ref aN, .ref aL, .ref aK, .ref aC, .int (nI ld), .ref aT, .int (nI tb), .ref aO, .int (nI ob), .int (bI off), .int wl, .long wd]))] U.heap ∧ va_K (dC, dI) vwCl [] U ∧ va_D (fun _ => True) [(h0, .inr (0, [.ref aN, .ref aL, .ref aK, .ref aC, .int (nI ld), .ref aT, .int (nI tb), .ref aO, .int (nI ob), .int (bI off), .int wl, .long wd]))] ∧ xw U ∧ xz (va_A [(h0, .inr (0, [.ref aN, .ref aL, .ref aK, .ref aC, .int (nI ld), .ref aT, .int (nI tb), .ref aO, .int (nI ob), .int (bI off), .int wl, .long wd]))] sz) U U.heap)) (va_Qv (fun (_ : Unit) => nI 1 ≤ x ∧ off = false) (fun (_ : Unit) t => va_P (dC, dI) vwCl [(h0, .inr (0, [.ref aN, .ref aL, .ref aK, .ref aC, .int (nI ld), .ref aT, .int (nI tb), .ref aO, .int (nI ob), .int (bI off), .int (x - (nI 1)), .long wd]))] t.heap ∧ va_K (dC, dI) vwCl [] t ∧ va_D (va_A [(h0, .inr (0, [.ref aN, .ref aL, .ref aK, .ref aC, .int (nI ld), .ref aT, .int (nI tb), .ref aO, .int (nI ob), .int (bI off), .int wl, .long wd]))] sz) [(h0, .inr (0, [.ref aN, .ref aL, .ref aK, .ref aC, .int (nI ld), .ref aT, .int (nI tb), .ref aO, .int (nI ob), .int (bI off), .int (x - (nI 1)), .long wd]))]) (va_A [(h0, .inr (0, [.ref aN, .ref aL, .ref aK, .ref aC, .int (nI ld), .ref aT, .int (nI tb), .ref aO, .int (nI ob), .int (bI off), .int wl, .long wd]))] sz)) (vx_X (fun (_ : Unit) => True) (fun E (_ : Unit) t => ((E = "java/lang/IllegalArgumentException" ∧ ¬ nI 1 ≤ x) ∨ (E = "java/lang/IllegalStateException" ∧ nI 1 ≤ x ∧ off = true)) ∧ va_P (dC, dI) vwCl [(h0, .inr (0, [.ref aN, .ref aL, .ref aK, .ref aC, .int (nI ld), .ref aT, .int (nI tb), .ref aO, .int (nI ob), .int (bI off), .int wl, .long wd]))] t.heap ∧ va_K (dC, dI) vwCl [] t ∧ va_D (va_A [(h0, .inr (0, [.ref aN, .ref aL, .ref aK, .ref aC, .int (nI ld), .ref aT, .int (nI tb), .ref aO, .int (nI ob), .int (bI off), .int wl, .long wd]))] sz) [(h0, .inr (0, [.ref aN, .ref aL, .ref aK, .ref aC, .int (nI ld), .ref aT, .int (nI tb), .ref aO, .int (nI ob), .int (bI off), .int wl, .long wd]))]) (va_A [(h0, .inr (0, [.ref aN, .ref aL, .ref aK, .ref aC, .int (nI ld), .ref aT, .int (nI tb), .ref aO, .int (nI ob), .int (bI off), .int wl, .long wd]))] sz)) 1 6 (va_A [(h0, .inr (0, [.ref aN, .ref aL, .ref aK, .ref aC, .int (nI ld), .ref aT, .int (nI tb), .ref aO, .int (nI ob), .int (bI off), .int wl, .long wd]))] sz) := by
  refine vx_ofW (cc := cX0_lose) (maxL := 2) (ret := none) (by decide) rfl ?_
  intro p e s m args below meth c s₁ B hml hno hv
  obtain ⟨rfl, hsz, hP, hK, hD0, hxw, hxz⟩ := hv
  have hx := B.exec
  have hb := B.bytes
  have hr := B.returns
  have hts := atoms_spec (ws := wsX0_lose) B.pre
  have hown : s.vm.findClass RX0 = some m.cls := findClass_of_methodNamed B.named
  have hlocks := B.notSynchronized
  subst hsz
  have hD := hD0.self (sz := s.heap.size)
  generalize hAe : va_A [(h0, .inr (0, [.ref aN, .ref aL, .ref aK, .ref aC, .int (nI ld), .ref aT, .int (nI tb), .ref aO, .int (nI ob), .int (bI off), .int wl, .long wd]))] s.heap.size = A at hD hxz ⊢
  have hA : ∀ q : Nat, s.heap.size ≤ q → A q := fun q h => by rw [← hAe]; exact Or.inr h
  generalize hH : s.heap = H at hP ⊢
  have hS : va_S A s.heap H [] := by rw [hH]; exact va_S.rf
  have hP : va_P (dC, dI) vwCl [(h0, .inr (0, [.ref aN, .ref aL, .ref aK, .ref aC, .int (nI ld), .ref aT, .int (nI tb), .ref aO, .int (nI ob), .int (bI off), .int wl, .long wd]))] H := hP
  have hl := lv_entry ([.ref h0, .int x]) (n := 2) (Nat.le_of_ble_eq_true rfl)
  rw [lg_entry_eq]
  generalize (lg_sl ([.ref h0, .int x]) ++ List.replicate (2 - (lg_sl ([.ref h0, .int x])).length) Slot.unset).toArray = ls at hl ⊢
  have hl : lv_has ls 2 [(0, .ref h0), (1, .int x)] := hl
  have hi0 : ∀ w ∈ u_ws RX0 TX0 12, w ∈ wsX0_lose := by decide +kernel
  have hat0 : ∀ w ∈ vx_atS RX0 64 "java/lang/IllegalArgumentException" ["java/lang/RuntimeException", "java/lang/Exception"], w.before _ s = true := vx_hat (L := vx_atS RX0 64 "java/lang/IllegalArgumentException" ["java/lang/RuntimeException", "java/lang/Exception"]) (B := [.castable "java/lang/IllegalArgumentException" "java/lang/IllegalArgumentException", .declares ⟨"java/lang/RuntimeException", "<init>", "(Ljava/lang/String;)V"⟩, .declares ⟨"java/lang/Exception", "<init>", "(Ljava/lang/String;)V"⟩, .declares ⟨"java/lang/Throwable", "<init>", "(Ljava/lang/String;)V"⟩]) (fun w hw => hts w ((by decide +kernel : ∀ w ∈ (vx_atS RX0 64 "java/lang/IllegalArgumentException" ["java/lang/RuntimeException", "java/lang/Exception"]).filter goodWord, w ∈ wsX0_lose) w hw)) (by decide +kernel) (vx_c (va_Nw.use rfl hxw.1.1) (vx_c (va_Nw.use rfl hxw.1.2.2.2.1) (vx_c (va_Nw.use rfl hxw.1.2.2.2.2.1) (vx_c (va_Nw.use rfl hxw.1.2.2.2.2.2) (vx_n)))))
  have hat1 : ∀ w ∈ vx_atS RX0 71 "java/lang/IllegalStateException" ["java/lang/RuntimeException", "java/lang/Exception"], w.before _ s = true := vx_hat (L := vx_atS RX0 71 "java/lang/IllegalStateException" ["java/lang/RuntimeException", "java/lang/Exception"]) (B := [.castable "java/lang/IllegalStateException" "java/lang/IllegalStateException", .declares ⟨"java/lang/RuntimeException", "<init>", "(Ljava/lang/String;)V"⟩, .declares ⟨"java/lang/Exception", "<init>", "(Ljava/lang/String;)V"⟩, .declares ⟨"java/lang/Throwable", "<init>", "(Ljava/lang/String;)V"⟩]) (fun w hw => hts w ((by decide +kernel : ∀ w ∈ (vx_atS RX0 71 "java/lang/IllegalStateException" ["java/lang/RuntimeException", "java/lang/Exception"]).filter goodWord, w ∈ wsX0_lose) w hw)) (by decide +kernel) (vx_c (va_Nw.use rfl hxw.1.2.1) (vx_c (va_Nw.use rfl hxw.1.2.2.2.1) (vx_c (va_Nw.use rfl hxw.1.2.2.2.2.1) (vx_c (va_Nw.use rfl hxw.1.2.2.2.2.2) (vx_n)))))
  refine lv_iload_n hx hb dX0_lose_0 rfl (lv_at hl 1 rfl) ?_
  refine lv_iconst (v := nI 1) hx hb dX0_lose_1 (by decide) ?_
  refine lv_icmp_ge (tgt := 15) hx hb dX0_lose_2 (by decide) (fun c2 => ?_) (fun c2 => ?_)
  · refine lv_aload_n hx hb dX0_lose_15 rfl (lv_at hl 0 rfl) ?_
    refine va_get (D := (dC, dI)) (ci := 0) (v := .int (bI off)) (C := RX0) (T := TX0) (N := 12) hx hb hts hi0 hown hK hP 0 rfl rfl 9 (by decide) (hts (.fieldLink RX0 45 "CellRack" "off" "Z") (by decide +kernel)) (fun _ h9 => h9) rfl dX0_lose_16 ?_
    refine zr_ifb_eq (tgt := 32) hx hb dX0_lose_19 (by decide) (fun c19 => ?_) (fun c19 => ?_)
    · refine lv_aload_n hx hb dX0_lose_32 rfl (lv_at hl 0 rfl) ?_
      refine lv_iload_n hx hb dX0_lose_33 rfl (lv_at hl 1 rfl) ?_
      refine lv_iconst (v := nI 1) hx hb dX0_lose_34 (by decide) ?_
      refine lv_isub hx hb dX0_lose_35 ?_
      refine va_put (D := (dC, dI)) (ci := 0) (v := .int (x - (nI 1))) (ty := .int) (C := RX0) (T := TX0) (N := 12) hx hb hts hi0 tyX0 tyX0_ok nmX0 hown hK hP hD hS 0 rfl rfl 10 (by decide) (hts (.fieldLink RX0 49 "CellRack" "writesLeft" "I") (by decide +kernel)) (fun _ h9 => h9) rfl (by decide +kernel) (rfl) (rfl) (Nat.le_of_ble_eq_true rfl) dX0_lose_36 (fun H locs hP hD hS => ?_)
      have hP : va_P (dC, dI) vwCl [(h0, .inr (0, [.ref aN, .ref aL, .ref aK, .ref aC, .int (nI ld), .ref aT, .int (nI tb), .ref aO, .int (nI ob), .int (bI off), .int (x - (nI 1)), .long wd]))] H := hP
      have hD : va_D A [(h0, .inr (0, [.ref aN, .ref aL, .ref aK, .ref aC, .int (nI ld), .ref aT, .int (nI tb), .ref aO, .int (nI ob), .int (bI off), .int (x - (nI 1)), .long wd]))] := hD
      refine W.widen (k := 1) (n := 6) (Nat.le_of_ble_eq_true rfl) (Nat.le_of_ble_eq_true rfl) ?_
      refine vx_ret ?_
      have hP9 := hP.sub (ws' := [(h0, .inr (0, [.ref aN, .ref aL, .ref aK, .ref aC, .int (nI ld), .ref aT, .int (nI tb), .ref aO, .int (nI ob), .int (bI off), .int (x - (nI 1)), .long wd]))]) [0] rfl
      have hD9 := hD.sub (ws' := [(h0, .inr (0, [.ref aN, .ref aL, .ref aK, .ref aC, .int (nI ld), .ref aT, .int (nI tb), .ref aO, .int (nI ob), .int (bI off), .int (x - (nI 1)), .long wd]))]) [0] (by decide) rfl
      exact W.vret hx hb hr (fun t ht hW => ⟨⟨(), rfl, ⟨c2, c19⟩, by rw [ht]; exact hP9, va_K.moved hW.alike hK, hD9⟩, hS.F ht⟩) hS.2.2 dX0_lose_39
    · obtain ⟨sa, hstr⟩ := hxw.2 (153, "the power is off") (by decide)
      have hP9 := hP.sub (ws' := [(h0, .inr (0, [.ref aN, .ref aL, .ref aK, .ref aC, .int (nI ld), .ref aT, .int (nI tb), .ref aO, .int (nI ob), .int (bI off), .int wl, .long wd]))]) [0] rfl
      have hD9 := hD.sub (ws' := [(h0, .inr (0, [.ref aN, .ref aL, .ref aK, .ref aC, .int (nI ld), .ref aT, .int (nI tb), .ref aO, .int (nI ob), .int (bI off), .int wl, .long wd]))]) [0] (by decide) rfl
      exact vx_throwS (own := RX0) (cls := "java/lang/IllegalStateException") (names := ["java/lang/RuntimeException", "java/lang/Exception"]) hx hb hl9 hown (by decide +kernel) (by decide +kernel) (hts (.classLink RX0 67 "java/lang/IllegalStateException") (by decide +kernel)) (hts (.initialized "java/lang/IllegalStateException") (by decide +kernel)) hstr hat1 (by decide +kernel) hxz.1 hxz.2 hS (hl.1.trans hml.symm) dX0_lose_22 dX0_lose_25 dX0_lose_26 dX0_lose_28 dX0_lose_31 (fun x hx => (hno x hx).elim) (Nat.le_of_ble_eq_true rfl) (Nat.le_of_ble_eq_true rfl) (Nat.le_of_ble_eq_true rfl) (Nat.le_of_ble_eq_true rfl) hlocks (fun t ha hsz hk => ⟨(), trivial, ⟨Or.inr ⟨rfl, c2, c19⟩, hP9.kept (fun k q hq => hk q.1 (hP9 k q hq).lt), va_K.moved ha hK, hD9⟩, Nat.le_trans hS.1 hsz, fun q h1 h2 => (hk q (Nat.lt_of_lt_of_le h1 hS.1)).trans (hS.2.1 q h1 h2)⟩) hS.2.2 (Nat.le_of_ble_eq_true rfl) (Nat.le_of_ble_eq_true rfl)
  · obtain ⟨sa, hstr⟩ := hxw.2 (151, "n is below 1") (by decide)
    have hP9 := hP.sub (ws' := [(h0, .inr (0, [.ref aN, .ref aL, .ref aK, .ref aC, .int (nI ld), .ref aT, .int (nI tb), .ref aO, .int (nI ob), .int (bI off), .int wl, .long wd]))]) [0] rfl
    have hD9 := hD.sub (ws' := [(h0, .inr (0, [.ref aN, .ref aL, .ref aK, .ref aC, .int (nI ld), .ref aT, .int (nI tb), .ref aO, .int (nI ob), .int (bI off), .int wl, .long wd]))]) [0] (by decide) rfl
    exact vx_throwS (own := RX0) (cls := "java/lang/IllegalArgumentException") (names := ["java/lang/RuntimeException", "java/lang/Exception"]) hx hb hl9 hown (by decide +kernel) (by decide +kernel) (hts (.classLink RX0 60 "java/lang/IllegalArgumentException") (by decide +kernel)) (hts (.initialized "java/lang/IllegalArgumentException") (by decide +kernel)) hstr hat0 (by decide +kernel) hxz.1 hxz.2 hS (hl.1.trans hml.symm) dX0_lose_5 dX0_lose_8 dX0_lose_9 dX0_lose_11 dX0_lose_14 (fun x hx => (hno x hx).elim) (Nat.le_of_ble_eq_true rfl) (Nat.le_of_ble_eq_true rfl) (Nat.le_of_ble_eq_true rfl) (Nat.le_of_ble_eq_true rfl) hlocks (fun t ha hsz hk => ⟨(), trivial, ⟨Or.inl ⟨rfl, c2⟩, hP9.kept (fun k q hq => hk q.1 (hP9 k q hq).lt), va_K.moved ha hK, hD9⟩, Nat.le_trans hS.1 hsz, fun q h1 h2 => (hk q (Nat.lt_of_lt_of_le h1 hS.1)).trans (hS.2.1 q h1 h2)⟩) hS.2.2 (Nat.le_of_ble_eq_true rfl) (Nat.le_of_ble_eq_true rfl)
set_option maxHeartbeats 4000000 in
set_option maxRecDepth 100000 in
theorem c_X0_power (l : Launch) (dC : Nat → ClassId) (dI : Nat → Nat → Nat) (sz : Nat) (h0 aN aL aK aC aT aO : Nat) (ld tb ob : Nat) (off : Bool) (wl : Int32) (wd : Int64) : Met l yX0_power wsX0_power ({ frames := 0, cells := 0, slots := 0, locals := 0 }) (va_Pc [.ref h0] (fun U => U.heap.size = sz ∧ va_P (dC, dI) vwCl [(h0, .inr (0, [.ref aN, .ref aL, .ref aK, .ref aC, .int (nI ld), .ref aT, .int (nI tb), .ref aO, .int (nI ob), .int (bI off), .int wl, .long wd]))] U.heap ∧ va_K (dC, dI) vwCl [] U ∧ va_D (fun _ => True) [(h0, .inr (0, [.ref aN, .ref aL, .ref aK, .ref aC, .int (nI ld), .ref aT, .int (nI tb), .ref aO, .int (nI ob), .int (bI off), .int wl, .long wd]))])) (va_Qi (fun (r : Int32) (_ : Unit) => r = bI off) (fun (_ : Unit) t => va_P (dC, dI) vwCl [(h0, .inr (0, [.ref aN, .ref aL, .ref aK, .ref aC, .int (nI ld), .ref aT, .int (nI tb), .ref aO, .int (nI ob), .int (bI false), .int ((-1)), .long wd]))] t.heap ∧ va_K (dC, dI) vwCl [] t ∧ va_D (va_A [(h0, .inr (0, [.ref aN, .ref aL, .ref aK, .ref aC, .int (nI ld), .ref aT, .int (nI tb), .ref aO, .int (nI ob), .int (bI off), .int wl, .long wd]))] sz) [(h0, .inr (0, [.ref aN, .ref aL, .ref aK, .ref aC, .int (nI ld), .ref aT, .int (nI tb), .ref aO, .int (nI ob), .int (bI false), .int ((-1)), .long wd]))]) (va_A [(h0, .inr (0, [.ref aN, .ref aL, .ref aK, .ref aC, .int (nI ld), .ref aT, .int (nI tb), .ref aO, .int (nI ob), .int (bI off), .int wl, .long wd]))] sz)) 0 0 (va_A [(h0, .inr (0, [.ref aN, .ref aL, .ref aK, .ref aC, .int (nI ld), .ref aT, .int (nI tb), .ref aO, .int (nI ob), .int (bI off), .int wl, .long wd]))] sz) := by
  refine Met.ofW (cc := cX0_power) (maxL := 2) (ret := some .boolean) (by decide) rfl ?_
  intro p e s m args below meth c s₁ B hml hv
  obtain ⟨rfl, hsz, hP, hK, hD0⟩ := hv
  have hx := B.exec
  have hb := B.bytes
  have hr := B.returns
  have hts := atoms_spec (ws := wsX0_power) B.pre
  have hown : s.vm.findClass RX0 = some m.cls := findClass_of_methodNamed B.named
  have hlocks := B.notSynchronized
  subst hsz
  have hD := hD0.self (sz := s.heap.size)
  generalize hAe : va_A [(h0, .inr (0, [.ref aN, .ref aL, .ref aK, .ref aC, .int (nI ld), .ref aT, .int (nI tb), .ref aO, .int (nI ob), .int (bI off), .int wl, .long wd]))] s.heap.size = A at hD ⊢
  have hA : ∀ q : Nat, s.heap.size ≤ q → A q := fun q h => by rw [← hAe]; exact Or.inr h
  generalize hH : s.heap = H at hP ⊢
  have hS : va_S A s.heap H [] := by rw [hH]; exact va_S.rf
  have hP : va_P (dC, dI) vwCl [(h0, .inr (0, [.ref aN, .ref aL, .ref aK, .ref aC, .int (nI ld), .ref aT, .int (nI tb), .ref aO, .int (nI ob), .int (bI off), .int wl, .long wd]))] H := hP
  have hl := lv_entry ([.ref h0]) (n := 2) (Nat.le_of_ble_eq_true rfl)
  rw [lg_entry_eq]
  generalize (lg_sl ([.ref h0]) ++ List.replicate (2 - (lg_sl ([.ref h0])).length) Slot.unset).toArray = ls at hl ⊢
  have hl : lv_has ls 2 [(0, .ref h0)] := hl
  have hi0 : ∀ w ∈ u_ws RX0 TX0 12, w ∈ wsX0_power := by decide +kernel
  refine lv_aload_n hx hb dX0_power_0 rfl (lv_at hl 0 rfl) ?_
  refine va_get (D := (dC, dI)) (ci := 0) (v := .int (bI off)) (C := RX0) (T := TX0) (N := 12) hx hb hts hi0 hown hK hP 0 rfl rfl 9 (by decide) (hts (.fieldLink RX0 45 "CellRack" "off" "Z") (by decide +kernel)) (fun _ h9 => h9) rfl dX0_power_1 ?_
  refine lv_istore_n (lv' := [(1, .int (bI off)), (0, .ref h0)]) hx hb dX0_power_4 rfl hl (by decide) rfl (fun ls hl => ?_)
  refine lv_aload_n hx hb dX0_power_5 rfl (lv_at hl 1 rfl) ?_
  refine lv_iconst (v := nI 0) hx hb dX0_power_6 (by decide) ?_
  refine zr_topi (bI false) (rfl) ?_
  refine va_put (D := (dC, dI)) (ci := 0) (v := .int (bI false)) (ty := .boolean) (C := RX0) (T := TX0) (N := 12) hx hb hts hi0 tyX0 tyX0_ok nmX0 hown hK hP hD hS 0 rfl rfl 9 (by decide) (hts (.fieldLink RX0 45 "CellRack" "off" "Z") (by decide +kernel)) (fun _ h9 => h9) rfl (by decide +kernel) (zr_nar_b _) (zr_fit_b _) (Nat.le_of_ble_eq_true rfl) dX0_power_7 (fun H locs hP hD hS => ?_)
  have hP : va_P (dC, dI) vwCl [(h0, .inr (0, [.ref aN, .ref aL, .ref aK, .ref aC, .int (nI ld), .ref aT, .int (nI tb), .ref aO, .int (nI ob), .int (bI false), .int wl, .long wd]))] H := hP
  have hD : va_D A [(h0, .inr (0, [.ref aN, .ref aL, .ref aK, .ref aC, .int (nI ld), .ref aT, .int (nI tb), .ref aO, .int (nI ob), .int (bI false), .int wl, .long wd]))] := hD
  refine lv_aload_n hx hb dX0_power_10 rfl (lv_at hl 1 rfl) ?_
  refine lv_iconst (v := (-1)) hx hb dX0_power_11 (by decide) ?_
  refine va_put (D := (dC, dI)) (ci := 0) (v := .int ((-1))) (ty := .int) (C := RX0) (T := TX0) (N := 12) hx hb hts hi0 tyX0 tyX0_ok nmX0 hown hK hP hD hS 0 rfl rfl 10 (by decide) (hts (.fieldLink RX0 49 "CellRack" "writesLeft" "I") (by decide +kernel)) (fun _ h9 => h9) rfl (by decide +kernel) (rfl) (rfl) (Nat.le_of_ble_eq_true rfl) dX0_power_12 (fun H locs hP hD hS => ?_)
  have hP : va_P (dC, dI) vwCl [(h0, .inr (0, [.ref aN, .ref aL, .ref aK, .ref aC, .int (nI ld), .ref aT, .int (nI tb), .ref aO, .int (nI ob), .int (bI false), .int ((-1)), .long wd]))] H := hP
  have hD : va_D A [(h0, .inr (0, [.ref aN, .ref aL, .ref aK, .ref aC, .int (nI ld), .ref aT, .int (nI tb), .ref aO, .int (nI ob), .int (bI false), .int ((-1)), .long wd]))] := hD
  refine lv_iload_n hx hb dX0_power_15 rfl (lv_at hl 0 rfl) ?_
  have hP9 := hP.sub (ws' := [(h0, .inr (0, [.ref aN, .ref aL, .ref aK, .ref aC, .int (nI ld), .ref aT, .int (nI tb), .ref aO, .int (nI ob), .int (bI false), .int ((-1)), .long wd]))]) [0] rfl
  have hD9 := hD.sub (ws' := [(h0, .inr (0, [.ref aN, .ref aL, .ref aK, .ref aC, .int (nI ld), .ref aT, .int (nI tb), .ref aO, .int (nI ob), .int (bI false), .int ((-1)), .long wd]))]) [0] (by decide) rfl
  exact W.zret (v := bI off) hx hb hr (zr_nar_b _) (fun t ht hW => ⟨⟨bI off, (), rfl, rfl, by rw [ht]; exact hP9, va_K.moved hW.alike hK, hD9⟩, hS.F ht⟩) hS.2.2 dX0_power_16
set_option maxHeartbeats 4000000 in
set_option maxRecDepth 100000 in
theorem c_X0_look (l : Launch) (hl9 : l.stackTraces = false) (dC : Nat → ClassId) (dI : Nat → Nat → Nat) (sz : Nat) (h0 aN aL aK aC aT aO : Nat) (ld tb ob : Nat) (off : Bool) (wl : Int32) (wd : Int64) (cI : ClassId) (cn : Nat → Nat) (x : Int32) : vx_Met l yX0_look wsX0_look ({ frames := 6, cells := 1, slots := 6, locals := 82 }) (va_Pc [.ref h0, .int x] (fun U => U.heap.size = sz ∧ va_P (dC, dI) vwCl [(h0, .inr (0, [.ref aN, .ref aL, .ref aK, .ref aC, .int (nI ld), .ref aT, .int (nI tb), .ref aO, .int (nI ob), .int (bI off), .int wl, .long wd])), (aC, .inl (cI, 4, .inl (fun i9 => nI (cn i9))))] U.heap ∧ va_K (dC, dI) vwCl [(cI, .int)] U ∧ va_D (fun _ => True) [(h0, .inr (0, [.ref aN, .ref aL, .ref aK, .ref aC, .int (nI ld), .ref aT, .int (nI tb), .ref aO, .int (nI ob), .int (bI off), .int wl, .long wd])), (aC, .inl (cI, 4, .inl (fun i9 => nI (cn i9))))] ∧ xw U ∧ xz (va_A [(h0, .inr (0, [.ref aN, .ref aL, .ref aK, .ref aC, .int (nI ld), .ref aT, .int (nI tb), .ref aO, .int (nI ob), .int (bI off), .int wl, .long wd])), (aC, .inl (cI, 4, .inl (fun i9 => nI (cn i9))))] sz) U U.heap)) (va_Ql (fun (r : Int64) (_ : Unit) => ∃ k : Nat, k < 6 ∧ x = nI k ∧ r = lkV wd off wl ld cn k) (fun (_ : Unit) t => va_P (dC, dI) vwCl [(h0, .inr (0, [.ref aN, .ref aL, .ref aK, .ref aC, .int (nI ld), .ref aT, .int (nI tb), .ref aO, .int (nI ob), .int (bI off), .int wl, .long wd])), (aC, .inl (cI, 4, .inl (fun i9 => nI (cn i9))))] t.heap ∧ va_K (dC, dI) vwCl [(cI, .int)] t ∧ va_D (va_A [(h0, .inr (0, [.ref aN, .ref aL, .ref aK, .ref aC, .int (nI ld), .ref aT, .int (nI tb), .ref aO, .int (nI ob), .int (bI off), .int wl, .long wd])), (aC, .inl (cI, 4, .inl (fun i9 => nI (cn i9))))] sz) [(h0, .inr (0, [.ref aN, .ref aL, .ref aK, .ref aC, .int (nI ld), .ref aT, .int (nI tb), .ref aO, .int (nI ob), .int (bI off), .int wl, .long wd])), (aC, .inl (cI, 4, .inl (fun i9 => nI (cn i9))))]) (va_A [(h0, .inr (0, [.ref aN, .ref aL, .ref aK, .ref aC, .int (nI ld), .ref aT, .int (nI tb), .ref aO, .int (nI ob), .int (bI off), .int wl, .long wd])), (aC, .inl (cI, 4, .inl (fun i9 => nI (cn i9))))] sz)) (vx_X (fun (_ : Unit) => True) (fun E (_ : Unit) t => (E = "java/util/NoSuchElementException" ∧ okI x 6 = false) ∧ va_P (dC, dI) vwCl [(h0, .inr (0, [.ref aN, .ref aL, .ref aK, .ref aC, .int (nI ld), .ref aT, .int (nI tb), .ref aO, .int (nI ob), .int (bI off), .int wl, .long wd])), (aC, .inl (cI, 4, .inl (fun i9 => nI (cn i9))))] t.heap ∧ va_K (dC, dI) vwCl [(cI, .int)] t ∧ va_D (va_A [(h0, .inr (0, [.ref aN, .ref aL, .ref aK, .ref aC, .int (nI ld), .ref aT, .int (nI tb), .ref aO, .int (nI ob), .int (bI off), .int wl, .long wd])), (aC, .inl (cI, 4, .inl (fun i9 => nI (cn i9))))] sz) [(h0, .inr (0, [.ref aN, .ref aL, .ref aK, .ref aC, .int (nI ld), .ref aT, .int (nI tb), .ref aO, .int (nI ob), .int (bI off), .int wl, .long wd])), (aC, .inl (cI, 4, .inl (fun i9 => nI (cn i9))))]) (va_A [(h0, .inr (0, [.ref aN, .ref aL, .ref aK, .ref aC, .int (nI ld), .ref aT, .int (nI tb), .ref aO, .int (nI ob), .int (bI off), .int wl, .long wd])), (aC, .inl (cI, 4, .inl (fun i9 => nI (cn i9))))] sz)) 1 6 (va_A [(h0, .inr (0, [.ref aN, .ref aL, .ref aK, .ref aC, .int (nI ld), .ref aT, .int (nI tb), .ref aO, .int (nI ob), .int (bI off), .int wl, .long wd])), (aC, .inl (cI, 4, .inl (fun i9 => nI (cn i9))))] sz) := by
  refine vx_ofW (cc := cX0_look) (maxL := 2) (ret := some .long) (by decide) rfl ?_
  intro p e s m args below meth c s₁ B hml hno hv
  obtain ⟨rfl, hsz, hP, hK, hD0, hxw, hxz⟩ := hv
  have hx := B.exec
  have hb := B.bytes
  have hr := B.returns
  have hts := atoms_spec (ws := wsX0_look) B.pre
  have hown : s.vm.findClass RX0 = some m.cls := findClass_of_methodNamed B.named
  have hlocks := B.notSynchronized
  subst hsz
  have hD := hD0.self (sz := s.heap.size)
  generalize hAe : va_A [(h0, .inr (0, [.ref aN, .ref aL, .ref aK, .ref aC, .int (nI ld), .ref aT, .int (nI tb), .ref aO, .int (nI ob), .int (bI off), .int wl, .long wd])), (aC, .inl (cI, 4, .inl (fun i9 => nI (cn i9))))] s.heap.size = A at hD hxz ⊢
  have hA : ∀ q : Nat, s.heap.size ≤ q → A q := fun q h => by rw [← hAe]; exact Or.inr h
  generalize hH : s.heap = H at hP ⊢
  have hS : va_S A s.heap H [] := by rw [hH]; exact va_S.rf
  have hP : va_P (dC, dI) vwCl [(h0, .inr (0, [.ref aN, .ref aL, .ref aK, .ref aC, .int (nI ld), .ref aT, .int (nI tb), .ref aO, .int (nI ob), .int (bI off), .int wl, .long wd])), (aC, .inl (cI, 4, .inl (fun i9 => nI (cn i9))))] H := hP
  have hl := lv_entry ([.ref h0, .int x]) (n := 2) (Nat.le_of_ble_eq_true rfl)
  rw [lg_entry_eq]
  generalize (lg_sl ([.ref h0, .int x]) ++ List.replicate (2 - (lg_sl ([.ref h0, .int x])).length) Slot.unset).toArray = ls at hl ⊢
  have hl : lv_has ls 2 [(0, .ref h0), (1, .int x)] := hl
  have hi0 : ∀ w ∈ u_ws RX0 TX0 12, w ∈ wsX0_look := by decide +kernel
  have hat0 : ∀ w ∈ zr_atS RX0 116 "java/util/NoSuchElementException" ["java/lang/RuntimeException", "java/lang/Exception"], w.before _ s = true := vx_hat (L := zr_atS RX0 116 "java/util/NoSuchElementException" ["java/lang/RuntimeException", "java/lang/Exception"]) (B := [.castable "java/util/NoSuchElementException" "java/util/NoSuchElementException", .declares ⟨"java/lang/RuntimeException", "<init>", "(Ljava/lang/String;)V"⟩, .declares ⟨"java/lang/Exception", "<init>", "(Ljava/lang/String;)V"⟩, .declares ⟨"java/lang/Throwable", "<init>", "(Ljava/lang/String;)V"⟩]) (fun w hw => hts w ((by decide +kernel : ∀ w ∈ (zr_atS RX0 116 "java/util/NoSuchElementException" ["java/lang/RuntimeException", "java/lang/Exception"]).filter goodWord, w ∈ wsX0_look) w hw)) (by decide +kernel) (vx_c (va_Nw.use rfl hxw.1.2.2.1) (vx_c (va_Nw.use rfl hxw.1.2.2.2.1) (vx_c (va_Nw.use rfl hxw.1.2.2.2.2.1) (vx_c (va_Nw.use rfl hxw.1.2.2.2.2.2) (vx_n)))))
  refine lv_iload_n hx hb dX0_look_0 rfl (lv_at hl 1 rfl) ?_
  rcases pk_ix x (n := 6) (by decide) with hsw | hsw | ⟨jsw, hjsw, rfl⟩
  · refine lv_tableOut (tgt := 86) hx hb dX0_look_1 (zr_sw_lt hsw) (by decide) ?_
    obtain ⟨sa, hstr⟩ := hxw.2 (155, "there is nothing of this number to look at") (by decide)
    have hP9 := hP.sub (ws' := [(h0, .inr (0, [.ref aN, .ref aL, .ref aK, .ref aC, .int (nI ld), .ref aT, .int (nI tb), .ref aO, .int (nI ob), .int (bI off), .int wl, .long wd])), (aC, .inl (cI, 4, .inl (fun i9 => nI (cn i9))))]) [0, 1] rfl
    have hD9 := hD.sub (ws' := [(h0, .inr (0, [.ref aN, .ref aL, .ref aK, .ref aC, .int (nI ld), .ref aT, .int (nI tb), .ref aO, .int (nI ob), .int (bI off), .int wl, .long wd])), (aC, .inl (cI, 4, .inl (fun i9 => nI (cn i9))))]) [0, 1] (by decide) rfl
    exact zr_throwS (own := RX0) (cls := "java/util/NoSuchElementException") (Y := "java/lang/RuntimeException") (r := ["java/lang/Exception"]) hx hb hl9 hown (by decide +kernel) (by decide +kernel) (hts (.classLink RX0 112 "java/util/NoSuchElementException") (by decide +kernel)) (hts (.initialized "java/util/NoSuchElementException") (by decide +kernel)) hstr hat0 (by decide +kernel) hxz.1 hxz.2 hS (hl.1.trans hml.symm) dX0_look_86 dX0_look_89 dX0_look_90 dX0_look_92 dX0_look_95 (fun x hx => (hno x hx).elim) (Nat.le_of_ble_eq_true rfl) (Nat.le_of_ble_eq_true rfl) (Nat.le_of_ble_eq_true rfl) (Nat.le_of_ble_eq_true rfl) hlocks (fun t ha hsz hk => ⟨(), trivial, ⟨⟨rfl, okI_f1 hsw⟩, hP9.kept (fun k q hq => hk q.1 (hP9 k q hq).lt), va_K.moved ha hK, hD9⟩, Nat.le_trans hS.1 hsz, fun q h1 h2 => (hk q (Nat.lt_of_lt_of_le h1 hS.1)).trans (hS.2.1 q h1 h2)⟩) hS.2.2 (Nat.le_of_ble_eq_true rfl) (Nat.le_of_ble_eq_true rfl)
  · refine lv_tableOut (tgt := 86) hx hb dX0_look_1 (zr_sw_ge (by decide) hsw) (by decide) ?_
    obtain ⟨sa, hstr⟩ := hxw.2 (155, "there is nothing of this number to look at") (by decide)
    have hP9 := hP.sub (ws' := [(h0, .inr (0, [.ref aN, .ref aL, .ref aK, .ref aC, .int (nI ld), .ref aT, .int (nI tb), .ref aO, .int (nI ob), .int (bI off), .int wl, .long wd])), (aC, .inl (cI, 4, .inl (fun i9 => nI (cn i9))))]) [0, 1] rfl
    have hD9 := hD.sub (ws' := [(h0, .inr (0, [.ref aN, .ref aL, .ref aK, .ref aC, .int (nI ld), .ref aT, .int (nI tb), .ref aO, .int (nI ob), .int (bI off), .int wl, .long wd])), (aC, .inl (cI, 4, .inl (fun i9 => nI (cn i9))))]) [0, 1] (by decide) rfl
    exact zr_throwS (own := RX0) (cls := "java/util/NoSuchElementException") (Y := "java/lang/RuntimeException") (r := ["java/lang/Exception"]) hx hb hl9 hown (by decide +kernel) (by decide +kernel) (hts (.classLink RX0 112 "java/util/NoSuchElementException") (by decide +kernel)) (hts (.initialized "java/util/NoSuchElementException") (by decide +kernel)) hstr hat0 (by decide +kernel) hxz.1 hxz.2 hS (hl.1.trans hml.symm) dX0_look_86 dX0_look_89 dX0_look_90 dX0_look_92 dX0_look_95 (fun x hx => (hno x hx).elim) (Nat.le_of_ble_eq_true rfl) (Nat.le_of_ble_eq_true rfl) (Nat.le_of_ble_eq_true rfl) (Nat.le_of_ble_eq_true rfl) hlocks (fun t ha hsz hk => ⟨(), trivial, ⟨⟨rfl, okI_f2 (by decide) hsw⟩, hP9.kept (fun k q hq => hk q.1 (hP9 k q hq).lt), va_K.moved ha hK, hD9⟩, Nat.le_trans hS.1 hsz, fun q h1 h2 => (hk q (Nat.lt_of_lt_of_le h1 hS.1)).trans (hS.2.1 q h1 h2)⟩) hS.2.2 (Nat.le_of_ble_eq_true rfl) (Nat.le_of_ble_eq_true rfl)
  · rcases (show jsw = 0 ∨ jsw = 1 ∨ jsw = 2 ∨ jsw = 3 ∨ jsw = 4 ∨ jsw = 5 by omega) with rfl | rfl | rfl | rfl | rfl | rfl
    · refine lv_tableIn (off := 39) (tgt := 40) hx hb dX0_look_1 (by decide) (by decide) (by decide) (by decide) ?_
      refine lv_aload_n hx hb dX0_look_40 rfl (lv_at hl 0 rfl) ?_
      refine va_get (D := (dC, dI)) (ci := 0) (v := .long wd) (C := RX0) (T := TX0) (N := 12) hx hb hts hi0 hown hK hP 0 rfl rfl 11 (by decide) (hts (.fieldLink RX0 52 "CellRack" "writesDone" "J") (by decide +kernel)) (fun _ h9 => h9) rfl dX0_look_41 ?_
      refine W.widen (k := 1) (n := 6) (Nat.le_of_ble_eq_true rfl) (Nat.le_of_ble_eq_true rfl) ?_
      refine vx_ret ?_
      have hP9 := hP.sub (ws' := [(h0, .inr (0, [.ref aN, .ref aL, .ref aK, .ref aC, .int (nI ld), .ref aT, .int (nI tb), .ref aO, .int (nI ob), .int (bI off), .int wl, .long wd])), (aC, .inl (cI, 4, .inl (fun i9 => nI (cn i9))))]) [0, 1] rfl
      have hD9 := hD.sub (ws' := [(h0, .inr (0, [.ref aN, .ref aL, .ref aK, .ref aC, .int (nI ld), .ref aT, .int (nI tb), .ref aO, .int (nI ob), .int (bI off), .int wl, .long wd])), (aC, .inl (cI, 4, .inl (fun i9 => nI (cn i9))))]) [0, 1] (by decide) rfl
      exact W.lret (v := wd) hx hb hr (fun t ht hW => ⟨⟨wd, (), rfl, ⟨0, by decide, rfl, rfl⟩, by rw [ht]; exact hP9, va_K.moved hW.alike hK, hD9⟩, hS.F ht⟩) hS.2.2 dX0_look_44
    · refine lv_tableIn (off := 44) (tgt := 45) hx hb dX0_look_1 (by decide) (by decide) (by decide) (by decide) ?_
      refine lv_aload_n hx hb dX0_look_45 rfl (lv_at hl 0 rfl) ?_
      refine va_get (D := (dC, dI)) (ci := 0) (v := .int (bI off)) (C := RX0) (T := TX0) (N := 12) hx hb hts hi0 hown hK hP 0 rfl rfl 9 (by decide) (hts (.fieldLink RX0 45 "CellRack" "off" "Z") (by decide +kernel)) (fun _ h9 => h9) rfl dX0_look_46 ?_
      refine zr_ifb_eq (tgt := 56) hx hb dX0_look_49 (by decide) (fun c49 => ?_) (fun c49 => ?_)
      · refine lv_lconst (v := 0) hx hb dX0_look_56 (by decide) ?_
        refine W.widen (k := 1) (n := 6) (Nat.le_of_ble_eq_true rfl) (Nat.le_of_ble_eq_true rfl) ?_
        refine vx_ret ?_
        have hP9 := hP.sub (ws' := [(h0, .inr (0, [.ref aN, .ref aL, .ref aK, .ref aC, .int (nI ld), .ref aT, .int (nI tb), .ref aO, .int (nI ob), .int (bI off), .int wl, .long wd])), (aC, .inl (cI, 4, .inl (fun i9 => nI (cn i9))))]) [0, 1] rfl
        have hD9 := hD.sub (ws' := [(h0, .inr (0, [.ref aN, .ref aL, .ref aK, .ref aC, .int (nI ld), .ref aT, .int (nI tb), .ref aO, .int (nI ob), .int (bI off), .int wl, .long wd])), (aC, .inl (cI, 4, .inl (fun i9 => nI (cn i9))))]) [0, 1] (by decide) rfl
        exact W.lret (v := 0) hx hb hr (fun t ht hW => ⟨⟨0, (), rfl, ⟨1, by decide, rfl, by rw [c49]; rfl⟩, by rw [ht]; exact hP9, va_K.moved hW.alike hK, hD9⟩, hS.F ht⟩) hS.2.2 dX0_look_57
      · refine lv_lconst (v := 1) hx hb dX0_look_52 (by decide) ?_
        refine lv_goto (tgt := 57) hx hb dX0_look_53 (by decide) ?_
        refine W.widen (k := 1) (n := 6) (Nat.le_of_ble_eq_true rfl) (Nat.le_of_ble_eq_true rfl) ?_
        refine vx_ret ?_
        have hP9 := hP.sub (ws' := [(h0, .inr (0, [.ref aN, .ref aL, .ref aK, .ref aC, .int (nI ld), .ref aT, .int (nI tb), .ref aO, .int (nI ob), .int (bI off), .int wl, .long wd])), (aC, .inl (cI, 4, .inl (fun i9 => nI (cn i9))))]) [0, 1] rfl
        have hD9 := hD.sub (ws' := [(h0, .inr (0, [.ref aN, .ref aL, .ref aK, .ref aC, .int (nI ld), .ref aT, .int (nI tb), .ref aO, .int (nI ob), .int (bI off), .int wl, .long wd])), (aC, .inl (cI, 4, .inl (fun i9 => nI (cn i9))))]) [0, 1] (by decide) rfl
        exact W.lret (v := 1) hx hb hr (fun t ht hW => ⟨⟨1, (), rfl, ⟨1, by decide, rfl, by rw [c49]; rfl⟩, by rw [ht]; exact hP9, va_K.moved hW.alike hK, hD9⟩, hS.F ht⟩) hS.2.2 dX0_look_57
    · refine lv_tableIn (off := 57) (tgt := 58) hx hb dX0_look_1 (by decide) (by decide) (by decide) (by decide) ?_
      refine lv_aload_n hx hb dX0_look_58 rfl (lv_at hl 0 rfl) ?_
      refine va_get (D := (dC, dI)) (ci := 0) (v := .int wl) (C := RX0) (T := TX0) (N := 12) hx hb hts hi0 hown hK hP 0 rfl rfl 10 (by decide) (hts (.fieldLink RX0 49 "CellRack" "writesLeft" "I") (by decide +kernel)) (fun _ h9 => h9) rfl dX0_look_59 ?_
      refine lv_i2l hx hb dX0_look_62 rfl ?_
      refine W.widen (k := 1) (n := 6) (Nat.le_of_ble_eq_true rfl) (Nat.le_of_ble_eq_true rfl) ?_
      refine vx_ret ?_
      have hP9 := hP.sub (ws' := [(h0, .inr (0, [.ref aN, .ref aL, .ref aK, .ref aC, .int (nI ld), .ref aT, .int (nI tb), .ref aO, .int (nI ob), .int (bI off), .int wl, .long wd])), (aC, .inl (cI, 4, .inl (fun i9 => nI (cn i9))))]) [0, 1] rfl
      have hD9 := hD.sub (ws' := [(h0, .inr (0, [.ref aN, .ref aL, .ref aK, .ref aC, .int (nI ld), .ref aT, .int (nI tb), .ref aO, .int (nI ob), .int (bI off), .int wl, .long wd])), (aC, .inl (cI, 4, .inl (fun i9 => nI (cn i9))))]) [0, 1] (by decide) rfl
      exact W.lret (v := wl.toInt64) hx hb hr (fun t ht hW => ⟨⟨wl.toInt64, (), rfl, ⟨2, by decide, rfl, rfl⟩, by rw [ht]; exact hP9, va_K.moved hW.alike hK, hD9⟩, hS.F ht⟩) hS.2.2 dX0_look_63
    · refine lv_tableIn (off := 63) (tgt := 64) hx hb dX0_look_1 (by decide) (by decide) (by decide) (by decide) ?_
      refine lv_aload_n hx hb dX0_look_64 rfl (lv_at hl 0 rfl) ?_
      refine va_get (D := (dC, dI)) (ci := 0) (v := .int (nI ld)) (C := RX0) (T := TX0) (N := 12) hx hb hts hi0 hown hK hP 0 rfl rfl 4 (by decide) (hts (.fieldLink RX0 29 "CellRack" "liveDisks" "I") (by decide +kernel)) (fun _ h9 => h9) rfl dX0_look_65 ?_
      refine lv_i2l hx hb dX0_look_68 rfl ?_
      refine W.widen (k := 1) (n := 6) (Nat.le_of_ble_eq_true rfl) (Nat.le_of_ble_eq_true rfl) ?_
      refine vx_ret ?_
      have hP9 := hP.sub (ws' := [(h0, .inr (0, [.ref aN, .ref aL, .ref aK, .ref aC, .int (nI ld), .ref aT, .int (nI tb), .ref aO, .int (nI ob), .int (bI off), .int wl, .long wd])), (aC, .inl (cI, 4, .inl (fun i9 => nI (cn i9))))]) [0, 1] rfl
      have hD9 := hD.sub (ws' := [(h0, .inr (0, [.ref aN, .ref aL, .ref aK, .ref aC, .int (nI ld), .ref aT, .int (nI tb), .ref aO, .int (nI ob), .int (bI off), .int wl, .long wd])), (aC, .inl (cI, 4, .inl (fun i9 => nI (cn i9))))]) [0, 1] (by decide) rfl
      exact W.lret (v := (nI ld).toInt64) hx hb hr (fun t ht hW => ⟨⟨(nI ld).toInt64, (), rfl, ⟨3, by decide, rfl, rfl⟩, by rw [ht]; exact hP9, va_K.moved hW.alike hK, hD9⟩, hS.F ht⟩) hS.2.2 dX0_look_69
    · refine lv_tableIn (off := 69) (tgt := 70) hx hb dX0_look_1 (by decide) (by decide) (by decide) (by decide) ?_
      refine lv_aload_n hx hb dX0_look_70 rfl (lv_at hl 0 rfl) ?_
      refine va_get (D := (dC, dI)) (ci := 0) (v := .ref aC) (C := RX0) (T := TX0) (N := 12) hx hb hts hi0 hown hK hP 0 rfl rfl 3 (by decide) (hts (.fieldLink RX0 26 "CellRack" "cellsOfKind" "[I") (by decide +kernel)) (fun _ h9 => h9) rfl dX0_look_71 ?_
      refine lv_iconst (v := nI 2) hx hb dX0_look_74 (by decide) ?_
      refine zr_nald hx hb hK hP 1 0 rfl rfl (by omega) (by omega) dX0_look_75 ?_
      refine lv_i2l hx hb dX0_look_76 rfl ?_
      refine W.widen (k := 1) (n := 6) (Nat.le_of_ble_eq_true rfl) (Nat.le_of_ble_eq_true rfl) ?_
      refine vx_ret ?_
      have hP9 := hP.sub (ws' := [(h0, .inr (0, [.ref aN, .ref aL, .ref aK, .ref aC, .int (nI ld), .ref aT, .int (nI tb), .ref aO, .int (nI ob), .int (bI off), .int wl, .long wd])), (aC, .inl (cI, 4, .inl (fun i9 => nI (cn i9))))]) [0, 1] rfl
      have hD9 := hD.sub (ws' := [(h0, .inr (0, [.ref aN, .ref aL, .ref aK, .ref aC, .int (nI ld), .ref aT, .int (nI tb), .ref aO, .int (nI ob), .int (bI off), .int wl, .long wd])), (aC, .inl (cI, 4, .inl (fun i9 => nI (cn i9))))]) [0, 1] (by decide) rfl
      exact W.lret (v := (nI (cn 2)).toInt64) hx hb hr (fun t ht hW => ⟨⟨(nI (cn 2)).toInt64, (), rfl, ⟨4, by decide, rfl, rfl⟩, by rw [ht]; exact hP9, va_K.moved hW.alike hK, hD9⟩, hS.F ht⟩) hS.2.2 dX0_look_77
    · refine lv_tableIn (off := 77) (tgt := 78) hx hb dX0_look_1 (by decide) (by decide) (by decide) (by decide) ?_
      refine lv_aload_n hx hb dX0_look_78 rfl (lv_at hl 0 rfl) ?_
      refine va_get (D := (dC, dI)) (ci := 0) (v := .ref aC) (C := RX0) (T := TX0) (N := 12) hx hb hts hi0 hown hK hP 0 rfl rfl 3 (by decide) (hts (.fieldLink RX0 26 "CellRack" "cellsOfKind" "[I") (by decide +kernel)) (fun _ h9 => h9) rfl dX0_look_79 ?_
      refine lv_iconst (v := nI 3) hx hb dX0_look_82 (by decide) ?_
      refine zr_nald hx hb hK hP 1 0 rfl rfl (by omega) (by omega) dX0_look_83 ?_
      refine lv_i2l hx hb dX0_look_84 rfl ?_
      refine W.widen (k := 1) (n := 6) (Nat.le_of_ble_eq_true rfl) (Nat.le_of_ble_eq_true rfl) ?_
      refine vx_ret ?_
      have hP9 := hP.sub (ws' := [(h0, .inr (0, [.ref aN, .ref aL, .ref aK, .ref aC, .int (nI ld), .ref aT, .int (nI tb), .ref aO, .int (nI ob), .int (bI off), .int wl, .long wd])), (aC, .inl (cI, 4, .inl (fun i9 => nI (cn i9))))]) [0, 1] rfl
      have hD9 := hD.sub (ws' := [(h0, .inr (0, [.ref aN, .ref aL, .ref aK, .ref aC, .int (nI ld), .ref aT, .int (nI tb), .ref aO, .int (nI ob), .int (bI off), .int wl, .long wd])), (aC, .inl (cI, 4, .inl (fun i9 => nI (cn i9))))]) [0, 1] (by decide) rfl
      exact W.lret (v := (nI (cn 3)).toInt64) hx hb hr (fun t ht hW => ⟨⟨(nI (cn 3)).toInt64, (), rfl, ⟨5, by decide, rfl, rfl⟩, by rw [ht]; exact hP9, va_K.moved hW.alike hK, hD9⟩, hS.F ht⟩) hS.2.2 dX0_look_85
set_option maxHeartbeats 4000000 in
set_option maxRecDepth 100000 in
theorem c_X0_tag (l : Launch) (hl9 : l.stackTraces = false) (dC : Nat → ClassId) (dI : Nat → Nat → Nat) (sz : Nat) (h0 aN aL aK aC aT aO : Nat) (ld tb ob : Nat) (off : Bool) (wl : Int32) (wd : Int64) (cJ cI : ClassId) (now : Nat → Int64) (kd : Nat → Nat) (x y : Int32) (hk : kdOK kd) : vx_Met l yX0_tag wsX0_tag ({ frames := 7, cells := 1, slots := 6, locals := 103 }) (va_Pc [.ref h0, .int x, .int y] (fun U => U.heap.size = sz ∧ va_P (dC, dI) vwCl [(h0, .inr (0, [.ref aN, .ref aL, .ref aK, .ref aC, .int (nI ld), .ref aT, .int (nI tb), .ref aO, .int (nI ob), .int (bI off), .int wl, .long wd])), (aN, .inl (cJ, 9504, .inr (.inl now))), (aK, .inl (cI, 1056, .inl (fun i9 => nI (kd i9))))] U.heap ∧ va_K (dC, dI) vwCl [(cJ, .long), (cI, .int)] U ∧ va_D (fun _ => True) [(h0, .inr (0, [.ref aN, .ref aL, .ref aK, .ref aC, .int (nI ld), .ref aT, .int (nI tb), .ref aO, .int (nI ob), .int (bI off), .int wl, .long wd])), (aN, .inl (cJ, 9504, .inr (.inl now))), (aK, .inl (cI, 1056, .inl (fun i9 => nI (kd i9))))] ∧ xw U ∧ xz (va_A [(h0, .inr (0, [.ref aN, .ref aL, .ref aK, .ref aC, .int (nI ld), .ref aT, .int (nI tb), .ref aO, .int (nI ob), .int (bI off), .int wl, .long wd])), (aN, .inl (cJ, 9504, .inr (.inl now))), (aK, .inl (cI, 1056, .inl (fun i9 => nI (kd i9))))] sz) U U.heap)) (va_Qi (fun (r : Int32) (_ : Unit) => ∃ di ce : Nat, di < 16 ∧ ce < 66 ∧ x = nI di ∧ y = nI ce ∧ r = if kd (di * 66 + ce) = 2 then (now ((di * 66 + ce) * 9 + 8) &&& 65535).toInt32 else -1) (fun (_ : Unit) t => va_P (dC, dI) vwCl [(h0, .inr (0, [.ref aN, .ref aL, .ref aK, .ref aC, .int (nI ld), .ref aT, .int (nI tb), .ref aO, .int (nI ob), .int (bI off), .int wl, .long wd])), (aN, .inl (cJ, 9504, .inr (.inl now))), (aK, .inl (cI, 1056, .inl (fun i9 => nI (kd i9))))] t.heap ∧ va_K (dC, dI) vwCl [(cJ, .long), (cI, .int)] t ∧ va_D (va_A [(h0, .inr (0, [.ref aN, .ref aL, .ref aK, .ref aC, .int (nI ld), .ref aT, .int (nI tb), .ref aO, .int (nI ob), .int (bI off), .int wl, .long wd])), (aN, .inl (cJ, 9504, .inr (.inl now))), (aK, .inl (cI, 1056, .inl (fun i9 => nI (kd i9))))] sz) [(h0, .inr (0, [.ref aN, .ref aL, .ref aK, .ref aC, .int (nI ld), .ref aT, .int (nI tb), .ref aO, .int (nI ob), .int (bI off), .int wl, .long wd])), (aN, .inl (cJ, 9504, .inr (.inl now))), (aK, .inl (cI, 1056, .inl (fun i9 => nI (kd i9))))]) (va_A [(h0, .inr (0, [.ref aN, .ref aL, .ref aK, .ref aC, .int (nI ld), .ref aT, .int (nI tb), .ref aO, .int (nI ob), .int (bI off), .int wl, .long wd])), (aN, .inl (cJ, 9504, .inr (.inl now))), (aK, .inl (cI, 1056, .inl (fun i9 => nI (kd i9))))] sz)) (vx_X (fun (_ : Unit) => True) (fun E (_ : Unit) t => (E = "java/lang/IllegalArgumentException" ∧ (okI x 16 && okI y 66) = false) ∧ va_P (dC, dI) vwCl [(h0, .inr (0, [.ref aN, .ref aL, .ref aK, .ref aC, .int (nI ld), .ref aT, .int (nI tb), .ref aO, .int (nI ob), .int (bI off), .int wl, .long wd])), (aN, .inl (cJ, 9504, .inr (.inl now))), (aK, .inl (cI, 1056, .inl (fun i9 => nI (kd i9))))] t.heap ∧ va_K (dC, dI) vwCl [(cJ, .long), (cI, .int)] t ∧ va_D (va_A [(h0, .inr (0, [.ref aN, .ref aL, .ref aK, .ref aC, .int (nI ld), .ref aT, .int (nI tb), .ref aO, .int (nI ob), .int (bI off), .int wl, .long wd])), (aN, .inl (cJ, 9504, .inr (.inl now))), (aK, .inl (cI, 1056, .inl (fun i9 => nI (kd i9))))] sz) [(h0, .inr (0, [.ref aN, .ref aL, .ref aK, .ref aC, .int (nI ld), .ref aT, .int (nI tb), .ref aO, .int (nI ob), .int (bI off), .int wl, .long wd])), (aN, .inl (cJ, 9504, .inr (.inl now))), (aK, .inl (cI, 1056, .inl (fun i9 => nI (kd i9))))]) (va_A [(h0, .inr (0, [.ref aN, .ref aL, .ref aK, .ref aC, .int (nI ld), .ref aT, .int (nI tb), .ref aO, .int (nI ob), .int (bI off), .int wl, .long wd])), (aN, .inl (cJ, 9504, .inr (.inl now))), (aK, .inl (cI, 1056, .inl (fun i9 => nI (kd i9))))] sz)) 1 6 (va_A [(h0, .inr (0, [.ref aN, .ref aL, .ref aK, .ref aC, .int (nI ld), .ref aT, .int (nI tb), .ref aO, .int (nI ob), .int (bI off), .int wl, .long wd])), (aN, .inl (cJ, 9504, .inr (.inl now))), (aK, .inl (cI, 1056, .inl (fun i9 => nI (kd i9))))] sz) := by
  refine vx_ofW (cc := cX0_tag) (maxL := 4) (ret := some .int) (by decide) rfl ?_
  intro p e s m args below meth c s₁ B hml hno hv
  obtain ⟨rfl, hsz, hP, hK, hD0, hxw, hxz⟩ := hv
  have hx := B.exec
  have hb := B.bytes
  have hr := B.returns
  have hts := atoms_spec (ws := wsX0_tag) B.pre
  have hown : s.vm.findClass RX0 = some m.cls := findClass_of_methodNamed B.named
  have hlocks := B.notSynchronized
  subst hsz
  have hD := hD0.self (sz := s.heap.size)
  generalize hAe : va_A [(h0, .inr (0, [.ref aN, .ref aL, .ref aK, .ref aC, .int (nI ld), .ref aT, .int (nI tb), .ref aO, .int (nI ob), .int (bI off), .int wl, .long wd])), (aN, .inl (cJ, 9504, .inr (.inl now))), (aK, .inl (cI, 1056, .inl (fun i9 => nI (kd i9))))] s.heap.size = A at hD hxz ⊢
  have hA : ∀ q : Nat, s.heap.size ≤ q → A q := fun q h => by rw [← hAe]; exact Or.inr h
  generalize hH : s.heap = H at hP ⊢
  have hS : va_S A s.heap H [] := by rw [hH]; exact va_S.rf
  have hP : va_P (dC, dI) vwCl [(h0, .inr (0, [.ref aN, .ref aL, .ref aK, .ref aC, .int (nI ld), .ref aT, .int (nI tb), .ref aO, .int (nI ob), .int (bI off), .int wl, .long wd])), (aN, .inl (cJ, 9504, .inr (.inl now))), (aK, .inl (cI, 1056, .inl (fun i9 => nI (kd i9))))] H := hP
  have hl := lv_entry ([.ref h0, .int x, .int y]) (n := 4) (Nat.le_of_ble_eq_true rfl)
  rw [lg_entry_eq]
  generalize (lg_sl ([.ref h0, .int x, .int y]) ++ List.replicate (4 - (lg_sl ([.ref h0, .int x, .int y])).length) Slot.unset).toArray = ls at hl ⊢
  have hl : lv_has ls 4 [(0, .ref h0), (1, .int x), (2, .int y)] := hl
  have hi0 : ∀ w ∈ u_ws RX0 TX0 12, w ∈ wsX0_tag := by decide +kernel
  refine lv_iload_n hx hb dX0_tag_0 rfl (lv_at hl 1 rfl) ?_
  refine lv_iload_n hx hb dX0_tag_1 rfl (lv_at hl 2 rfl) ?_
  have hPc := hP.sub (ws' := []) [] rfl
  have hDc := hD.sub (ws' := []) [] (by decide) rfl
  have hKc := hK.sub (tys' := []) [] rfl
  have hFc := va_free (wc := []) hD hS hA [] rfl
  refine vx_callv (vx_runS (As := [.int x, .int y]) (rest := []) ⟨hx, hb, hml, hown, hts⟩ (c_X0_needCell l hl9 dC dI H.size x y) (va_cwS 2 hts gX0_tag_X0_needCell rfl rfl rfl (by decide +kernel) ⟨Nat.le_of_ble_eq_true rfl, Nat.le_of_ble_eq_true rfl⟩) ⟨fun a U g mk q => by obtain ⟨q0, q1, qP, qK, qD, qw, qz⟩ := q; exact ⟨q0, q1, qP, va_K.moved (u := U) (U := U.calling g mk a) (Vm.Alike.refl U.vm) qK, qD, xw.same (u := U) rfl qw, xz.moved (u := U) (U := U.calling g mk a) (Vm.Alike.refl U.vm) qz⟩, fun U hU hW => ⟨rfl, by rw [hU], by rw [hU]; exact hPc, va_K.moved hW.alike hKc, hDc.weaken (fun _ _ _ _ => trivial), xw.warm hW hxw, xz.go hxz hS hW.alike hU hFc⟩⟩ rfl rfl hl.1 rfl (lv_room (Nat.le_of_ble_eq_true rfl)) dX0_tag_2 ⟨Nat.le_of_ble_eq_true rfl, Nat.le_of_ble_eq_true rfl⟩) hS (fun q _ h => hFc q h) hFc (fun q _ h => hFc q h) (fun E ce q9 u t H1 locs ht hvm _hu hB hz1 hk1 hS hce hcv hcl => ?_) (fun u t H1 locs ht hvm hw hB hz1 hk1 hS => ?_)
  · obtain ⟨hxp, hP1, hK1, hD1⟩ := hB
    rw [ht] at hP1
    obtain ⟨hP, hD⟩ := va_join (wr := [(h0, .inr (0, [.ref aN, .ref aL, .ref aK, .ref aC, .int (nI ld), .ref aT, .int (nI tb), .ref aO, .int (nI ob), .int (bI off), .int wl, .long wd])), (aN, .inl (cJ, 9504, .inr (.inl now))), (aK, .inl (cI, 1056, .inl (fun i9 => nI (kd i9))))]) (w1 := []) hP hD [] [0, 1, 2] rfl rfl (by decide) (by decide) hk1 hFc hP1 hD1
    clear hP1 hD1 hK1 hPc hDc hKc hFc hk1 hz1 hvm ht
    generalize H1 = H at hP hS hce ⊢
    have hP : va_P (dC, dI) vwCl [(h0, .inr (0, [.ref aN, .ref aL, .ref aK, .ref aC, .int (nI ld), .ref aT, .int (nI tb), .ref aO, .int (nI ob), .int (bI off), .int wl, .long wd])), (aN, .inl (cJ, 9504, .inr (.inl now))), (aK, .inl (cI, 1056, .inl (fun i9 => nI (kd i9))))] H := hP
    have hD : va_D A [(h0, .inr (0, [.ref aN, .ref aL, .ref aK, .ref aC, .int (nI ld), .ref aT, .int (nI tb), .ref aO, .int (nI ob), .int (bI off), .int wl, .long wd])), (aN, .inl (cJ, 9504, .inr (.inl now))), (aK, .inl (cI, 1056, .inl (fun i9 => nI (kd i9))))] := hD
    refine vx_widen (k := 1) (n := 6) (Nat.le_refl _) (Nat.le_refl _) ?_
    have hP9 := hP.sub (ws' := [(h0, .inr (0, [.ref aN, .ref aL, .ref aK, .ref aC, .int (nI ld), .ref aT, .int (nI tb), .ref aO, .int (nI ob), .int (bI off), .int wl, .long wd])), (aN, .inl (cJ, 9504, .inr (.inl now))), (aK, .inl (cI, 1056, .inl (fun i9 => nI (kd i9))))]) [0, 1, 2] rfl
    have hD9 := hD.sub (ws' := [(h0, .inr (0, [.ref aN, .ref aL, .ref aK, .ref aC, .int (nI ld), .ref aT, .int (nI tb), .ref aO, .int (nI ob), .int (bI off), .int wl, .long wd])), (aN, .inl (cJ, 9504, .inr (.inl now))), (aK, .inl (cI, 1056, .inl (fun i9 => nI (kd i9))))]) [0, 1, 2] (by decide) rfl
    exact vx_out (fun x hx => (hno x hx).elim) hlocks hce hcv hcl (fun t ht ha => ⟨(), trivial, ⟨hxp, by rw [ht]; exact hP9, va_K.moved ha hK, hD9⟩, hS.F ht⟩) hS.2.2 (Nat.le_of_ble_eq_true rfl) (Nat.le_of_ble_eq_true rfl)
  · obtain ⟨hP1, hK1, hD1⟩ := hB
    rw [ht] at hP1
    obtain ⟨hP, hD⟩ := va_join (wr := [(h0, .inr (0, [.ref aN, .ref aL, .ref aK, .ref aC, .int (nI ld), .ref aT, .int (nI tb), .ref aO, .int (nI ob), .int (bI off), .int wl, .long wd])), (aN, .inl (cJ, 9504, .inr (.inl now))), (aK, .inl (cI, 1056, .inl (fun i9 => nI (kd i9))))]) (w1 := []) hP hD [] [0, 1, 2] rfl rfl (by decide) (by decide) hk1 hFc hP1 hD1
    clear hP1 hD1 hK1 hPc hDc hKc hFc hk1 hz1 hvm ht
    generalize H1 = H at hP hS ⊢
    have hP : va_P (dC, dI) vwCl [(h0, .inr (0, [.ref aN, .ref aL, .ref aK, .ref aC, .int (nI ld), .ref aT, .int (nI tb), .ref aO, .int (nI ob), .int (bI off), .int wl, .long wd])), (aN, .inl (cJ, 9504, .inr (.inl now))), (aK, .inl (cI, 1056, .inl (fun i9 => nI (kd i9))))] H := hP
    have hD : va_D A [(h0, .inr (0, [.ref aN, .ref aL, .ref aK, .ref aC, .int (nI ld), .ref aT, .int (nI tb), .ref aO, .int (nI ob), .int (bI off), .int wl, .long wd])), (aN, .inl (cJ, 9504, .inr (.inl now))), (aK, .inl (cI, 1056, .inl (fun i9 => nI (kd i9))))] := hD
    refine W.widen (k := 1) (n := 6) (Nat.le_refl _) (Nat.le_refl _) ?_
    have hcell := hw
    obtain ⟨di, hdi, rfl⟩ := okI_get (by decide) (Bool.and_eq_true_iff.mp hcell).1
    obtain ⟨ce, hce9, rfl⟩ := okI_get (by decide) (Bool.and_eq_true_iff.mp hcell).2
    refine lv_iload_n hx hb dX0_tag_5 rfl (lv_at hl 1 rfl) ?_
    refine lv_iload_n hx hb dX0_tag_6 rfl (lv_at hl 2 rfl) ?_
    have hPc := hP.sub (ws' := []) [] rfl
    have hDc := hD.sub (ws' := []) [] (by decide) rfl
    have hKc := hK.sub (tys' := []) [] rfl
    have hFc := va_free (wc := []) hD hS hA [] rfl
    refine va_calli (va_runS (As := [.int (nI di), .int (nI ce)]) (rest := []) ⟨hx, hb, hml, hown, hts⟩ (c_X0_spotOf l dC dI H.size di ce) (va_cwS 2 hts gX0_tag_X0_spotOf rfl rfl rfl (by decide +kernel) ⟨Nat.le_of_ble_eq_true rfl, Nat.le_of_ble_eq_true rfl⟩) ⟨fun a U g mk q => by obtain ⟨q0, q1, qP, qK, qD⟩ := q; exact ⟨q0, q1, qP, va_K.moved (u := U) (U := U.calling g mk a) (Vm.Alike.refl U.vm) qK, qD⟩, fun U hU hW => ⟨rfl, by rw [hU], by rw [hU]; exact hPc, va_K.moved hW.alike hKc, hDc.weaken (fun _ _ _ _ => trivial)⟩⟩ rfl rfl hl.1 rfl (lv_room (Nat.le_of_ble_eq_true rfl)) dX0_tag_7 ⟨Nat.le_of_ble_eq_true rfl, Nat.le_of_ble_eq_true rfl⟩) hS (fun q _ h => hFc q h) hFc (fun r_2 u t H1 locs ht hvm hw hB hz1 hk1 hS => ?_)
    obtain ⟨hP1, hK1, hD1⟩ := hB
    rw [ht] at hP1
    obtain ⟨hP, hD⟩ := va_join (wr := [(h0, .inr (0, [.ref aN, .ref aL, .ref aK, .ref aC, .int (nI ld), .ref aT, .int (nI tb), .ref aO, .int (nI ob), .int (bI off), .int wl, .long wd])), (aN, .inl (cJ, 9504, .inr (.inl now))), (aK, .inl (cI, 1056, .inl (fun i9 => nI (kd i9))))]) (w1 := []) hP hD [] [0, 1, 2] rfl rfl (by decide) (by decide) hk1 hFc hP1 hD1
    clear hP1 hD1 hK1 hPc hDc hKc hFc hk1 hz1 hvm ht
    generalize H1 = H at hP hS ⊢
    have hP : va_P (dC, dI) vwCl [(h0, .inr (0, [.ref aN, .ref aL, .ref aK, .ref aC, .int (nI ld), .ref aT, .int (nI tb), .ref aO, .int (nI ob), .int (bI off), .int wl, .long wd])), (aN, .inl (cJ, 9504, .inr (.inl now))), (aK, .inl (cI, 1056, .inl (fun i9 => nI (kd i9))))] H := hP
    have hD : va_D A [(h0, .inr (0, [.ref aN, .ref aL, .ref aK, .ref aC, .int (nI ld), .ref aT, .int (nI tb), .ref aO, .int (nI ob), .int (bI off), .int wl, .long wd])), (aN, .inl (cJ, 9504, .inr (.inl now))), (aK, .inl (cI, 1056, .inl (fun i9 => nI (kd i9))))] := hD
    refine W.widen (k := 1) (n := 6) (Nat.le_refl _) (Nat.le_refl _) ?_
    obtain rfl := hw
    refine lv_istore_n (lv' := [(3, .int (nI (di * 66 + ce))), (0, .ref h0), (1, .int (nI di)), (2, .int (nI ce))]) hx hb dX0_tag_10 rfl hl (by decide) rfl (fun ls hl => ?_)
    refine lv_aload_n hx hb dX0_tag_11 rfl (lv_at hl 1 rfl) ?_
    refine va_get (D := (dC, dI)) (ci := 0) (v := .ref aK) (C := RX0) (T := TX0) (N := 12) hx hb hts hi0 hown hK hP 0 rfl rfl 2 (by decide) (hts (.fieldLink RX0 16 "CellRack" "kinds" "[I") (by decide +kernel)) (fun _ h9 => h9) rfl dX0_tag_12 ?_
    refine lv_iload_n hx hb dX0_tag_15 rfl (lv_at hl 0 rfl) ?_
    refine zr_nald hx hb hK hP 2 1 rfl rfl (by omega) (by omega) dX0_tag_16 ?_
    refine lv_iconst (v := nI 2) hx hb dX0_tag_17 (by decide) ?_
    refine zr_icmp_ne (tgt := 41) hx hb (Nat.lt_trans (hk _) (by decide)) (by omega) dX0_tag_18 (by decide) (fun c18 => ?_) (fun c18 => ?_)
    · refine lv_iconst (v := (-1)) hx hb dX0_tag_41 (by decide) ?_
      refine vx_ret ?_
      have hP9 := hP.sub (ws' := [(h0, .inr (0, [.ref aN, .ref aL, .ref aK, .ref aC, .int (nI ld), .ref aT, .int (nI tb), .ref aO, .int (nI ob), .int (bI off), .int wl, .long wd])), (aN, .inl (cJ, 9504, .inr (.inl now))), (aK, .inl (cI, 1056, .inl (fun i9 => nI (kd i9))))]) [0, 1, 2] rfl
      have hD9 := hD.sub (ws' := [(h0, .inr (0, [.ref aN, .ref aL, .ref aK, .ref aC, .int (nI ld), .ref aT, .int (nI tb), .ref aO, .int (nI ob), .int (bI off), .int wl, .long wd])), (aN, .inl (cJ, 9504, .inr (.inl now))), (aK, .inl (cI, 1056, .inl (fun i9 => nI (kd i9))))]) [0, 1, 2] (by decide) rfl
      exact W.iret (v := (-1)) hx hb hr (fun t ht hW => ⟨⟨(-1), (), rfl, ⟨di, ce, hdi, hce9, rfl, rfl, by first | rw [if_pos c18] | rw [if_neg c18]⟩, by rw [ht]; exact hP9, va_K.moved hW.alike hK, hD9⟩, hS.F ht⟩) hS.2.2 dX0_tag_42
    · refine lv_aload_n hx hb dX0_tag_21 rfl (lv_at hl 1 rfl) ?_
      refine va_get (D := (dC, dI)) (ci := 0) (v := .ref aN) (C := RX0) (T := TX0) (N := 12) hx hb hts hi0 hown hK hP 0 rfl rfl 0 (by decide) (hts (.fieldLink RX0 9 "CellRack" "now" "[J") (by decide +kernel)) (fun _ h9 => h9) rfl dX0_tag_22 ?_
      refine lv_iload_n hx hb dX0_tag_25 rfl (lv_at hl 0 rfl) ?_
      refine lv_bipush (v := nI 9) hx hb dX0_tag_26 (by decide) ?_
      refine zr_imul hx hb dX0_tag_28 ?_
      refine lv_bipush (v := nI 8) hx hb dX0_tag_29 (by decide) ?_
      refine zr_iadd hx hb dX0_tag_31 ?_
      refine zr_lald hx hb hK hP 1 0 rfl rfl (by omega) (by omega) dX0_tag_32 ?_
      refine lv_ldc2 hx hb hown (hts (.constantLong RX0 126 (65535)) (by decide +kernel)) dX0_tag_33 ?_
      refine lv_land hx hb dX0_tag_36 ?_
      refine lv_l2i hx hb dX0_tag_37 rfl ?_
      refine lv_goto (tgt := 42) hx hb dX0_tag_38 (by decide) ?_
      refine vx_ret ?_
      have hP9 := hP.sub (ws' := [(h0, .inr (0, [.ref aN, .ref aL, .ref aK, .ref aC, .int (nI ld), .ref aT, .int (nI tb), .ref aO, .int (nI ob), .int (bI off), .int wl, .long wd])), (aN, .inl (cJ, 9504, .inr (.inl now))), (aK, .inl (cI, 1056, .inl (fun i9 => nI (kd i9))))]) [0, 1, 2] rfl
      have hD9 := hD.sub (ws' := [(h0, .inr (0, [.ref aN, .ref aL, .ref aK, .ref aC, .int (nI ld), .ref aT, .int (nI tb), .ref aO, .int (nI ob), .int (bI off), .int wl, .long wd])), (aN, .inl (cJ, 9504, .inr (.inl now))), (aK, .inl (cI, 1056, .inl (fun i9 => nI (kd i9))))]) [0, 1, 2] (by decide) rfl
      exact W.iret (v := ((now (((di * 66 + ce) * 9) + 8)) &&& 65535).toInt32) hx hb hr (fun t ht hW => ⟨⟨((now (((di * 66 + ce) * 9) + 8)) &&& 65535).toInt32, (), rfl, ⟨di, ce, hdi, hce9, rfl, rfl, by first | rw [if_pos c18] | rw [if_neg c18]⟩, by rw [ht]; exact hP9, va_K.moved hW.alike hK, hD9⟩, hS.F ht⟩) hS.2.2 dX0_tag_42
set_option maxHeartbeats 4000000 in
set_option maxRecDepth 100000 in
theorem c_X0_at (l : Launch) (hl9 : l.stackTraces = false) (dC : Nat → ClassId) (dI : Nat → Nat → Nat) (sz : Nat) (h0 aN aL aK aC aT aO : Nat) (ld tb ob : Nat) (off : Bool) (wl : Int32) (wd : Int64) (cJ cI : ClassId) (now : Nat → Int64) (kd : Nat → Nat) (x y z : Int32) (hk : kdOK kd) : vx_Met l yX0_at wsX0_at ({ frames := 7, cells := 2, slots := 12, locals := 103 }) (va_Pc [.ref h0, .int x, .int y, .int z] (fun U => U.heap.size = sz ∧ va_P (dC, dI) vwCl [(h0, .inr (0, [.ref aN, .ref aL, .ref aK, .ref aC, .int (nI ld), .ref aT, .int (nI tb), .ref aO, .int (nI ob), .int (bI off), .int wl, .long wd])), (aN, .inl (cJ, 9504, .inr (.inl now))), (aK, .inl (cI, 1056, .inl (fun i9 => nI (kd i9))))] U.heap ∧ va_K (dC, dI) vwCl [(cJ, .long), (cI, .int)] U ∧ va_D (fun _ => True) [(h0, .inr (0, [.ref aN, .ref aL, .ref aK, .ref aC, .int (nI ld), .ref aT, .int (nI tb), .ref aO, .int (nI ob), .int (bI off), .int wl, .long wd])), (aN, .inl (cJ, 9504, .inr (.inl now))), (aK, .inl (cI, 1056, .inl (fun i9 => nI (kd i9))))] ∧ xw U ∧ xz (va_A [(h0, .inr (0, [.ref aN, .ref aL, .ref aK, .ref aC, .int (nI ld), .ref aT, .int (nI tb), .ref aO, .int (nI ob), .int (bI off), .int wl, .long wd])), (aN, .inl (cJ, 9504, .inr (.inl now))), (aK, .inl (cI, 1056, .inl (fun i9 => nI (kd i9))))] sz) U U.heap)) (va_Qi (fun (r : Int32) (_ : Unit) => ∃ di ce k : Nat, di < 16 ∧ ce < 66 ∧ k < 70 ∧ x = nI di ∧ y = nI ce ∧ z = nI k ∧ (kd (di * 66 + ce) = 2 ∨ kd (di * 66 + ce) = 3) ∧ r = nI (byF now ((di * 66 + ce) * 9) k)) (fun (_ : Unit) t => va_P (dC, dI) vwCl [(h0, .inr (0, [.ref aN, .ref aL, .ref aK, .ref aC, .int (nI ld), .ref aT, .int (nI tb), .ref aO, .int (nI ob), .int (bI off), .int wl, .long wd])), (aN, .inl (cJ, 9504, .inr (.inl now))), (aK, .inl (cI, 1056, .inl (fun i9 => nI (kd i9))))] t.heap ∧ va_K (dC, dI) vwCl [(cJ, .long), (cI, .int)] t ∧ va_D (va_A [(h0, .inr (0, [.ref aN, .ref aL, .ref aK, .ref aC, .int (nI ld), .ref aT, .int (nI tb), .ref aO, .int (nI ob), .int (bI off), .int wl, .long wd])), (aN, .inl (cJ, 9504, .inr (.inl now))), (aK, .inl (cI, 1056, .inl (fun i9 => nI (kd i9))))] sz) [(h0, .inr (0, [.ref aN, .ref aL, .ref aK, .ref aC, .int (nI ld), .ref aT, .int (nI tb), .ref aO, .int (nI ob), .int (bI off), .int wl, .long wd])), (aN, .inl (cJ, 9504, .inr (.inl now))), (aK, .inl (cI, 1056, .inl (fun i9 => nI (kd i9))))]) (va_A [(h0, .inr (0, [.ref aN, .ref aL, .ref aK, .ref aC, .int (nI ld), .ref aT, .int (nI tb), .ref aO, .int (nI ob), .int (bI off), .int wl, .long wd])), (aN, .inl (cJ, 9504, .inr (.inl now))), (aK, .inl (cI, 1056, .inl (fun i9 => nI (kd i9))))] sz)) (vx_X (fun (_ : Unit) => True) (fun E (_ : Unit) t => ((E = "java/lang/IllegalArgumentException" ∧ (okI x 16 && okI y 66) = false) ∨ (E = "java/util/NoSuchElementException" ∧ ∃ di ce : Nat, di < 16 ∧ ce < 66 ∧ x = nI di ∧ y = nI ce ∧ ((decide (kd (di * 66 + ce) = 2) || decide (kd (di * 66 + ce) = 3)) = false ∨ okI z 70 = false))) ∧ va_P (dC, dI) vwCl [(h0, .inr (0, [.ref aN, .ref aL, .ref aK, .ref aC, .int (nI ld), .ref aT, .int (nI tb), .ref aO, .int (nI ob), .int (bI off), .int wl, .long wd])), (aN, .inl (cJ, 9504, .inr (.inl now))), (aK, .inl (cI, 1056, .inl (fun i9 => nI (kd i9))))] t.heap ∧ va_K (dC, dI) vwCl [(cJ, .long), (cI, .int)] t ∧ va_D (va_A [(h0, .inr (0, [.ref aN, .ref aL, .ref aK, .ref aC, .int (nI ld), .ref aT, .int (nI tb), .ref aO, .int (nI ob), .int (bI off), .int wl, .long wd])), (aN, .inl (cJ, 9504, .inr (.inl now))), (aK, .inl (cI, 1056, .inl (fun i9 => nI (kd i9))))] sz) [(h0, .inr (0, [.ref aN, .ref aL, .ref aK, .ref aC, .int (nI ld), .ref aT, .int (nI tb), .ref aO, .int (nI ob), .int (bI off), .int wl, .long wd])), (aN, .inl (cJ, 9504, .inr (.inl now))), (aK, .inl (cI, 1056, .inl (fun i9 => nI (kd i9))))]) (va_A [(h0, .inr (0, [.ref aN, .ref aL, .ref aK, .ref aC, .int (nI ld), .ref aT, .int (nI tb), .ref aO, .int (nI ob), .int (bI off), .int wl, .long wd])), (aN, .inl (cJ, 9504, .inr (.inl now))), (aK, .inl (cI, 1056, .inl (fun i9 => nI (kd i9))))] sz)) 2 12 (va_A [(h0, .inr (0, [.ref aN, .ref aL, .ref aK, .ref aC, .int (nI ld), .ref aT, .int (nI tb), .ref aO, .int (nI ob), .int (bI off), .int wl, .long wd])), (aN, .inl (cJ, 9504, .inr (.inl now))), (aK, .inl (cI, 1056, .inl (fun i9 => nI (kd i9))))] sz) := by
  refine vx_ofW (cc := cX0_at) (maxL := 5) (ret := some .int) (by decide) rfl ?_
  intro p e s m args below meth c s₁ B hml hno hv
  obtain ⟨rfl, hsz, hP, hK, hD0, hxw, hxz⟩ := hv
  have hx := B.exec
  have hb := B.bytes
  have hr := B.returns
  have hts := atoms_spec (ws := wsX0_at) B.pre
  have hown : s.vm.findClass RX0 = some m.cls := findClass_of_methodNamed B.named
  have hlocks := B.notSynchronized
  subst hsz
  have hD := hD0.self (sz := s.heap.size)
  generalize hAe : va_A [(h0, .inr (0, [.ref aN, .ref aL, .ref aK, .ref aC, .int (nI ld), .ref aT, .int (nI tb), .ref aO, .int (nI ob), .int (bI off), .int wl, .long wd])), (aN, .inl (cJ, 9504, .inr (.inl now))), (aK, .inl (cI, 1056, .inl (fun i9 => nI (kd i9))))] s.heap.size = A at hD hxz ⊢
  have hA : ∀ q : Nat, s.heap.size ≤ q → A q := fun q h => by rw [← hAe]; exact Or.inr h
  generalize hH : s.heap = H at hP ⊢
  have hS : va_S A s.heap H [] := by rw [hH]; exact va_S.rf
  have hP : va_P (dC, dI) vwCl [(h0, .inr (0, [.ref aN, .ref aL, .ref aK, .ref aC, .int (nI ld), .ref aT, .int (nI tb), .ref aO, .int (nI ob), .int (bI off), .int wl, .long wd])), (aN, .inl (cJ, 9504, .inr (.inl now))), (aK, .inl (cI, 1056, .inl (fun i9 => nI (kd i9))))] H := hP
  have hl := lv_entry ([.ref h0, .int x, .int y, .int z]) (n := 5) (Nat.le_of_ble_eq_true rfl)
  rw [lg_entry_eq]
  generalize (lg_sl ([.ref h0, .int x, .int y, .int z]) ++ List.replicate (5 - (lg_sl ([.ref h0, .int x, .int y, .int z])).length) Slot.unset).toArray = ls at hl ⊢
  have hl : lv_has ls 5 [(0, .ref h0), (1, .int x), (2, .int y), (3, .int z)] := hl
  have hi0 : ∀ w ∈ u_ws RX0 TX0 12, w ∈ wsX0_at := by decide +kernel
  have hat0 : ∀ w ∈ zr_atS RX0 116 "java/util/NoSuchElementException" ["java/lang/RuntimeException", "java/lang/Exception"], w.before _ s = true := vx_hat (L := zr_atS RX0 116 "java/util/NoSuchElementException" ["java/lang/RuntimeException", "java/lang/Exception"]) (B := [.castable "java/util/NoSuchElementException" "java/util/NoSuchElementException", .declares ⟨"java/lang/RuntimeException", "<init>", "(Ljava/lang/String;)V"⟩, .declares ⟨"java/lang/Exception", "<init>", "(Ljava/lang/String;)V"⟩, .declares ⟨"java/lang/Throwable", "<init>", "(Ljava/lang/String;)V"⟩]) (fun w hw => hts w ((by decide +kernel : ∀ w ∈ (zr_atS RX0 116 "java/util/NoSuchElementException" ["java/lang/RuntimeException", "java/lang/Exception"]).filter goodWord, w ∈ wsX0_at) w hw)) (by decide +kernel) (vx_c (va_Nw.use rfl hxw.1.2.2.1) (vx_c (va_Nw.use rfl hxw.1.2.2.2.1) (vx_c (va_Nw.use rfl hxw.1.2.2.2.2.1) (vx_c (va_Nw.use rfl hxw.1.2.2.2.2.2) (vx_n)))))
  refine lv_iload_n hx hb dX0_at_0 rfl (lv_at hl 1 rfl) ?_
  refine lv_iload_n hx hb dX0_at_1 rfl (lv_at hl 2 rfl) ?_
  have hPc := hP.sub (ws' := []) [] rfl
  have hDc := hD.sub (ws' := []) [] (by decide) rfl
  have hKc := hK.sub (tys' := []) [] rfl
  have hFc := va_free (wc := []) hD hS hA [] rfl
  refine vx_callv (vx_runS (As := [.int x, .int y]) (rest := []) ⟨hx, hb, hml, hown, hts⟩ (c_X0_needCell l hl9 dC dI H.size x y) (va_cwS 2 hts gX0_at_X0_needCell rfl rfl rfl (by decide +kernel) ⟨Nat.le_of_ble_eq_true rfl, Nat.le_of_ble_eq_true rfl⟩) ⟨fun a U g mk q => by obtain ⟨q0, q1, qP, qK, qD, qw, qz⟩ := q; exact ⟨q0, q1, qP, va_K.moved (u := U) (U := U.calling g mk a) (Vm.Alike.refl U.vm) qK, qD, xw.same (u := U) rfl qw, xz.moved (u := U) (U := U.calling g mk a) (Vm.Alike.refl U.vm) qz⟩, fun U hU hW => ⟨rfl, by rw [hU], by rw [hU]; exact hPc, va_K.moved hW.alike hKc, hDc.weaken (fun _ _ _ _ => trivial), xw.warm hW hxw, xz.go hxz hS hW.alike hU hFc⟩⟩ rfl rfl hl.1 rfl (lv_room (Nat.le_of_ble_eq_true rfl)) dX0_at_2 ⟨Nat.le_of_ble_eq_true rfl, Nat.le_of_ble_eq_true rfl⟩) hS (fun q _ h => hFc q h) hFc (fun q _ h => hFc q h) (fun E ce q9 u t H1 locs ht hvm _hu hB hz1 hk1 hS hce hcv hcl => ?_) (fun u t H1 locs ht hvm hw hB hz1 hk1 hS => ?_)
  · obtain ⟨hxp, hP1, hK1, hD1⟩ := hB
    rw [ht] at hP1
    obtain ⟨hP, hD⟩ := va_join (wr := [(h0, .inr (0, [.ref aN, .ref aL, .ref aK, .ref aC, .int (nI ld), .ref aT, .int (nI tb), .ref aO, .int (nI ob), .int (bI off), .int wl, .long wd])), (aN, .inl (cJ, 9504, .inr (.inl now))), (aK, .inl (cI, 1056, .inl (fun i9 => nI (kd i9))))]) (w1 := []) hP hD [] [0, 1, 2] rfl rfl (by decide) (by decide) hk1 hFc hP1 hD1
    clear hP1 hD1 hK1 hPc hDc hKc hFc hk1 hz1 hvm ht
    generalize H1 = H at hP hS hce ⊢
    have hP : va_P (dC, dI) vwCl [(h0, .inr (0, [.ref aN, .ref aL, .ref aK, .ref aC, .int (nI ld), .ref aT, .int (nI tb), .ref aO, .int (nI ob), .int (bI off), .int wl, .long wd])), (aN, .inl (cJ, 9504, .inr (.inl now))), (aK, .inl (cI, 1056, .inl (fun i9 => nI (kd i9))))] H := hP
    have hD : va_D A [(h0, .inr (0, [.ref aN, .ref aL, .ref aK, .ref aC, .int (nI ld), .ref aT, .int (nI tb), .ref aO, .int (nI ob), .int (bI off), .int wl, .long wd])), (aN, .inl (cJ, 9504, .inr (.inl now))), (aK, .inl (cI, 1056, .inl (fun i9 => nI (kd i9))))] := hD
    refine vx_widen (k := 1) (n := 6) (Nat.le_refl _) (Nat.le_refl _) ?_
    have hP9 := hP.sub (ws' := [(h0, .inr (0, [.ref aN, .ref aL, .ref aK, .ref aC, .int (nI ld), .ref aT, .int (nI tb), .ref aO, .int (nI ob), .int (bI off), .int wl, .long wd])), (aN, .inl (cJ, 9504, .inr (.inl now))), (aK, .inl (cI, 1056, .inl (fun i9 => nI (kd i9))))]) [0, 1, 2] rfl
    have hD9 := hD.sub (ws' := [(h0, .inr (0, [.ref aN, .ref aL, .ref aK, .ref aC, .int (nI ld), .ref aT, .int (nI tb), .ref aO, .int (nI ob), .int (bI off), .int wl, .long wd])), (aN, .inl (cJ, 9504, .inr (.inl now))), (aK, .inl (cI, 1056, .inl (fun i9 => nI (kd i9))))]) [0, 1, 2] (by decide) rfl
    exact vx_out (fun x hx => (hno x hx).elim) hlocks hce hcv hcl (fun t ht ha => ⟨(), trivial, ⟨Or.inl hxp, by rw [ht]; exact hP9, va_K.moved ha hK, hD9⟩, hS.F ht⟩) hS.2.2 (Nat.le_of_ble_eq_true rfl) (Nat.le_of_ble_eq_true rfl)
  · obtain ⟨hP1, hK1, hD1⟩ := hB
    rw [ht] at hP1
    obtain ⟨hP, hD⟩ := va_join (wr := [(h0, .inr (0, [.ref aN, .ref aL, .ref aK, .ref aC, .int (nI ld), .ref aT, .int (nI tb), .ref aO, .int (nI ob), .int (bI off), .int wl, .long wd])), (aN, .inl (cJ, 9504, .inr (.inl now))), (aK, .inl (cI, 1056, .inl (fun i9 => nI (kd i9))))]) (w1 := []) hP hD [] [0, 1, 2] rfl rfl (by decide) (by decide) hk1 hFc hP1 hD1
    clear hP1 hD1 hK1 hPc hDc hKc hFc hk1 hz1 hvm ht
    generalize H1 = H at hP hS ⊢
    have hP : va_P (dC, dI) vwCl [(h0, .inr (0, [.ref aN, .ref aL, .ref aK, .ref aC, .int (nI ld), .ref aT, .int (nI tb), .ref aO, .int (nI ob), .int (bI off), .int wl, .long wd])), (aN, .inl (cJ, 9504, .inr (.inl now))), (aK, .inl (cI, 1056, .inl (fun i9 => nI (kd i9))))] H := hP
    have hD : va_D A [(h0, .inr (0, [.ref aN, .ref aL, .ref aK, .ref aC, .int (nI ld), .ref aT, .int (nI tb), .ref aO, .int (nI ob), .int (bI off), .int wl, .long wd])), (aN, .inl (cJ, 9504, .inr (.inl now))), (aK, .inl (cI, 1056, .inl (fun i9 => nI (kd i9))))] := hD
    refine W.widen (k := 1) (n := 6) (Nat.le_refl _) (Nat.le_refl _) ?_
    have hcell := hw
    obtain ⟨di, hdi, rfl⟩ := okI_get (by decide) (Bool.and_eq_true_iff.mp hcell).1
    obtain ⟨ce, hce9, rfl⟩ := okI_get (by decide) (Bool.and_eq_true_iff.mp hcell).2
    refine lv_iload_n hx hb dX0_at_5 rfl (lv_at hl 1 rfl) ?_
    refine lv_iload_n hx hb dX0_at_6 rfl (lv_at hl 2 rfl) ?_
    have hPc := hP.sub (ws' := []) [] rfl
    have hDc := hD.sub (ws' := []) [] (by decide) rfl
    have hKc := hK.sub (tys' := []) [] rfl
    have hFc := va_free (wc := []) hD hS hA [] rfl
    refine va_calli (va_runS (As := [.int (nI di), .int (nI ce)]) (rest := []) ⟨hx, hb, hml, hown, hts⟩ (c_X0_spotOf l dC dI H.size di ce) (va_cwS 2 hts gX0_at_X0_spotOf rfl rfl rfl (by decide +kernel) ⟨Nat.le_of_ble_eq_true rfl, Nat.le_of_ble_eq_true rfl⟩) ⟨fun a U g mk q => by obtain ⟨q0, q1, qP, qK, qD⟩ := q; exact ⟨q0, q1, qP, va_K.moved (u := U) (U := U.calling g mk a) (Vm.Alike.refl U.vm) qK, qD⟩, fun U hU hW => ⟨rfl, by rw [hU], by rw [hU]; exact hPc, va_K.moved hW.alike hKc, hDc.weaken (fun _ _ _ _ => trivial)⟩⟩ rfl rfl hl.1 rfl (lv_room (Nat.le_of_ble_eq_true rfl)) dX0_at_7 ⟨Nat.le_of_ble_eq_true rfl, Nat.le_of_ble_eq_true rfl⟩) hS (fun q _ h => hFc q h) hFc (fun r_2 u t H1 locs ht hvm hw hB hz1 hk1 hS => ?_)
    obtain ⟨hP1, hK1, hD1⟩ := hB
    rw [ht] at hP1
    obtain ⟨hP, hD⟩ := va_join (wr := [(h0, .inr (0, [.ref aN, .ref aL, .ref aK, .ref aC, .int (nI ld), .ref aT, .int (nI tb), .ref aO, .int (nI ob), .int (bI off), .int wl, .long wd])), (aN, .inl (cJ, 9504, .inr (.inl now))), (aK, .inl (cI, 1056, .inl (fun i9 => nI (kd i9))))]) (w1 := []) hP hD [] [0, 1, 2] rfl rfl (by decide) (by decide) hk1 hFc hP1 hD1
    clear hP1 hD1 hK1 hPc hDc hKc hFc hk1 hz1 hvm ht
    generalize H1 = H at hP hS ⊢
    have hP : va_P (dC, dI) vwCl [(h0, .inr (0, [.ref aN, .ref aL, .ref aK, .ref aC, .int (nI ld), .ref aT, .int (nI tb), .ref aO, .int (nI ob), .int (bI off), .int wl, .long wd])), (aN, .inl (cJ, 9504, .inr (.inl now))), (aK, .inl (cI, 1056, .inl (fun i9 => nI (kd i9))))] H := hP
    have hD : va_D A [(h0, .inr (0, [.ref aN, .ref aL, .ref aK, .ref aC, .int (nI ld), .ref aT, .int (nI tb), .ref aO, .int (nI ob), .int (bI off), .int wl, .long wd])), (aN, .inl (cJ, 9504, .inr (.inl now))), (aK, .inl (cI, 1056, .inl (fun i9 => nI (kd i9))))] := hD
    refine W.widen (k := 1) (n := 6) (Nat.le_refl _) (Nat.le_refl _) ?_
    obtain rfl := hw
    refine lv_istore (lv' := [(4, .int (nI (di * 66 + ce))), (0, .ref h0), (1, .int (nI di)), (2, .int (nI ce)), (3, .int z)]) hx hb dX0_at_10 hl (by decide) rfl (fun ls hl => ?_)
    refine lv_aload_n hx hb dX0_at_12 rfl (lv_at hl 1 rfl) ?_
    refine lv_iload hx hb dX0_at_13 (lv_at hl 0 rfl) ?_
    have hPc := hP.sub (ws' := [(h0, .inr (0, [.ref aN, .ref aL, .ref aK, .ref aC, .int (nI ld), .ref aT, .int (nI tb), .ref aO, .int (nI ob), .int (bI off), .int wl, .long wd])), (aK, .inl (cI, 1056, .inl (fun i9 => nI (kd i9))))]) [0, 2] rfl
    have hDc := hD.sub (ws' := [(h0, .inr (0, [.ref aN, .ref aL, .ref aK, .ref aC, .int (nI ld), .ref aT, .int (nI tb), .ref aO, .int (nI ob), .int (bI off), .int wl, .long wd])), (aK, .inl (cI, 1056, .inl (fun i9 => nI (kd i9))))]) [0, 2] (by decide) rfl
    have hKc := hK.sub (tys' := [(cI, .int)]) [1] rfl
    have hFc := va_free (wc := [(h0, .inr (0, [.ref aN, .ref aL, .ref aK, .ref aC, .int (nI ld), .ref aT, .int (nI tb), .ref aO, .int (nI ob), .int (bI off), .int wl, .long wd])), (aK, .inl (cI, 1056, .inl (fun i9 => nI (kd i9))))]) hD hS hA [0, 2] rfl
    refine va_calli (va_runV (As := [.int (nI (di * 66 + ce))]) (rest := []) ⟨hx, hb, hml, hown, hts⟩ (c_X0_hasBytes l dC dI H.size h0 aN aL aK aC aT aO ld tb ob off wl wd cI kd (di * 66 + ce) (by omega) hk) (cwV 1 hts gX0_at_X0_hasBytes rfl rfl rfl (by decide +kernel) ⟨Nat.le_of_ble_eq_true rfl, Nat.le_of_ble_eq_true rfl⟩) ⟨fun a U g mk q => by obtain ⟨q0, q1, qP, qK, qD⟩ := q; exact ⟨q0, q1, qP, va_K.moved (u := U) (U := U.calling g mk a) (Vm.Alike.refl U.vm) qK, qD⟩, va_recv hKc hPc (ci := 0) (q0 := 0) rfl rfl, fun U hU hW => ⟨rfl, by rw [hU], by rw [hU]; exact hPc, va_K.moved hW.alike hKc, hDc.weaken (fun _ _ _ _ => trivial)⟩⟩ rfl rfl hl.1 rfl (lv_room (Nat.le_of_ble_eq_true rfl)) dX0_at_15 ⟨Nat.le_of_ble_eq_true rfl, Nat.le_of_ble_eq_true rfl⟩) hS (fun q _ h => hFc q h) hFc (fun r_3 u t H1 locs ht hvm hw hB hz1 hk1 hS => ?_)
    obtain ⟨hP1, hK1, hD1⟩ := hB
    rw [ht] at hP1
    obtain ⟨hP, hD⟩ := va_join (wr := [(aN, .inl (cJ, 9504, .inr (.inl now)))]) (w1 := [(h0, .inr (0, [.ref aN, .ref aL, .ref aK, .ref aC, .int (nI ld), .ref aT, .int (nI tb), .ref aO, .int (nI ob), .int (bI off), .int wl, .long wd])), (aK, .inl (cI, 1056, .inl (fun i9 => nI (kd i9))))]) hP hD [0, 2] [1] rfl rfl (by decide) (by decide) hk1 hFc hP1 hD1
    clear hP1 hD1 hK1 hPc hDc hKc hFc hk1 hz1 hvm ht
    generalize H1 = H at hP hS ⊢
    have hP : va_P (dC, dI) vwCl [(aN, .inl (cJ, 9504, .inr (.inl now))), (h0, .inr (0, [.ref aN, .ref aL, .ref aK, .ref aC, .int (nI ld), .ref aT, .int (nI tb), .ref aO, .int (nI ob), .int (bI off), .int wl, .long wd])), (aK, .inl (cI, 1056, .inl (fun i9 => nI (kd i9))))] H := hP
    have hD : va_D A [(aN, .inl (cJ, 9504, .inr (.inl now))), (h0, .inr (0, [.ref aN, .ref aL, .ref aK, .ref aC, .int (nI ld), .ref aT, .int (nI tb), .ref aO, .int (nI ob), .int (bI off), .int wl, .long wd])), (aK, .inl (cI, 1056, .inl (fun i9 => nI (kd i9))))] := hD
    refine W.widen (k := 1) (n := 6) (Nat.le_refl _) (Nat.le_refl _) ?_
    obtain rfl := hw
    refine zr_ifb_eq (tgt := 31) hx hb dX0_at_18 (by decide) (fun c18 => ?_) (fun c18 => ?_)
    · obtain ⟨sa, hstr⟩ := hxw.2 (131, "the cell has no such byte") (by decide)
      have hP9 := hP.sub (ws' := [(h0, .inr (0, [.ref aN, .ref aL, .ref aK, .ref aC, .int (nI ld), .ref aT, .int (nI tb), .ref aO, .int (nI ob), .int (bI off), .int wl, .long wd])), (aN, .inl (cJ, 9504, .inr (.inl now))), (aK, .inl (cI, 1056, .inl (fun i9 => nI (kd i9))))]) [1, 0, 2] rfl
      have hD9 := hD.sub (ws' := [(h0, .inr (0, [.ref aN, .ref aL, .ref aK, .ref aC, .int (nI ld), .ref aT, .int (nI tb), .ref aO, .int (nI ob), .int (bI off), .int wl, .long wd])), (aN, .inl (cJ, 9504, .inr (.inl now))), (aK, .inl (cI, 1056, .inl (fun i9 => nI (kd i9))))]) [1, 0, 2] (by decide) rfl
      exact zr_throwS (own := RX0) (cls := "java/util/NoSuchElementException") (Y := "java/lang/RuntimeException") (r := ["java/lang/Exception"]) hx hb hl9 hown (by decide +kernel) (by decide +kernel) (hts (.classLink RX0 112 "java/util/NoSuchElementException") (by decide +kernel)) (hts (.initialized "java/util/NoSuchElementException") (by decide +kernel)) hstr hat0 (by decide +kernel) hxz.1 hxz.2 hS (hl.1.trans hml.symm) dX0_at_31 dX0_at_34 dX0_at_35 dX0_at_37 dX0_at_40 (fun x hx => (hno x hx).elim) (Nat.le_of_ble_eq_true rfl) (Nat.le_of_ble_eq_true rfl) (Nat.le_of_ble_eq_true rfl) (Nat.le_of_ble_eq_true rfl) hlocks (fun t ha hsz hk => ⟨(), trivial, ⟨Or.inr ⟨rfl, di, ce, hdi, hce9, rfl, rfl, by first | exact Or.inl c18 | exact Or.inr (okI_f1 c22) | exact Or.inr (okI_f2 (by decide) (Int32.not_lt.mp c28))⟩, hP9.kept (fun k q hq => hk q.1 (hP9 k q hq).lt), va_K.moved ha hK, hD9⟩, Nat.le_trans hS.1 hsz, fun q h1 h2 => (hk q (Nat.lt_of_lt_of_le h1 hS.1)).trans (hS.2.1 q h1 h2)⟩) hS.2.2 (Nat.le_of_ble_eq_true rfl) (Nat.le_of_ble_eq_true rfl)
    · refine lv_iload_n hx hb dX0_at_21 rfl (lv_at hl 4 rfl) ?_
      refine lv_if_lt (tgt := 31) hx hb dX0_at_22 (by decide) (fun c22 => ?_) (fun c22 => ?_)
      · obtain ⟨sa, hstr⟩ := hxw.2 (131, "the cell has no such byte") (by decide)
        have hP9 := hP.sub (ws' := [(h0, .inr (0, [.ref aN, .ref aL, .ref aK, .ref aC, .int (nI ld), .ref aT, .int (nI tb), .ref aO, .int (nI ob), .int (bI off), .int wl, .long wd])), (aN, .inl (cJ, 9504, .inr (.inl now))), (aK, .inl (cI, 1056, .inl (fun i9 => nI (kd i9))))]) [1, 0, 2] rfl
        have hD9 := hD.sub (ws' := [(h0, .inr (0, [.ref aN, .ref aL, .ref aK, .ref aC, .int (nI ld), .ref aT, .int (nI tb), .ref aO, .int (nI ob), .int (bI off), .int wl, .long wd])), (aN, .inl (cJ, 9504, .inr (.inl now))), (aK, .inl (cI, 1056, .inl (fun i9 => nI (kd i9))))]) [1, 0, 2] (by decide) rfl
        exact zr_throwS (own := RX0) (cls := "java/util/NoSuchElementException") (Y := "java/lang/RuntimeException") (r := ["java/lang/Exception"]) hx hb hl9 hown (by decide +kernel) (by decide +kernel) (hts (.classLink RX0 112 "java/util/NoSuchElementException") (by decide +kernel)) (hts (.initialized "java/util/NoSuchElementException") (by decide +kernel)) hstr hat0 (by decide +kernel) hxz.1 hxz.2 hS (hl.1.trans hml.symm) dX0_at_31 dX0_at_34 dX0_at_35 dX0_at_37 dX0_at_40 (fun x hx => (hno x hx).elim) (Nat.le_of_ble_eq_true rfl) (Nat.le_of_ble_eq_true rfl) (Nat.le_of_ble_eq_true rfl) (Nat.le_of_ble_eq_true rfl) hlocks (fun t ha hsz hk => ⟨(), trivial, ⟨Or.inr ⟨rfl, di, ce, hdi, hce9, rfl, rfl, by first | exact Or.inl c18 | exact Or.inr (okI_f1 c22) | exact Or.inr (okI_f2 (by decide) (Int32.not_lt.mp c28))⟩, hP9.kept (fun k q hq => hk q.1 (hP9 k q hq).lt), va_K.moved ha hK, hD9⟩, Nat.le_trans hS.1 hsz, fun q h1 h2 => (hk q (Nat.lt_of_lt_of_le h1 hS.1)).trans (hS.2.1 q h1 h2)⟩) hS.2.2 (Nat.le_of_ble_eq_true rfl) (Nat.le_of_ble_eq_true rfl)
      · refine lv_iload_n hx hb dX0_at_25 rfl (lv_at hl 4 rfl) ?_
        refine lv_bipush (v := nI 70) hx hb dX0_at_26 (by decide) ?_
        refine lv_icmp_lt (tgt := 41) hx hb dX0_at_28 (by decide) (fun c28 => ?_) (fun c28 => ?_)
        · obtain ⟨k, hk70, rfl⟩ := okI_get (n := 70) (by decide) (okI_t (by decide) c22 (fun q => Int32.not_lt.mpr q c28))
          refine lv_aload_n hx hb dX0_at_41 rfl (lv_at hl 1 rfl) ?_
          refine va_get (D := (dC, dI)) (ci := 0) (v := .ref aN) (C := RX0) (T := TX0) (N := 12) hx hb hts hi0 hown hK hP 1 rfl rfl 0 (by decide) (hts (.fieldLink RX0 9 "CellRack" "now" "[J") (by decide +kernel)) (fun _ h9 => h9) rfl dX0_at_42 ?_
          refine lv_iload hx hb dX0_at_45 (lv_at hl 0 rfl) ?_
          refine lv_bipush (v := nI 9) hx hb dX0_at_47 (by decide) ?_
          refine zr_imul hx hb dX0_at_49 ?_
          refine lv_iload_n hx hb dX0_at_50 rfl (lv_at hl 4 rfl) ?_
          have hPc := hP.sub (ws' := [(aN, .inl (cJ, 9504, .inr (.inl now)))]) [0] rfl
          have hDc := hD.sub (ws' := [(aN, .inl (cJ, 9504, .inr (.inl now)))]) [0] (by decide) rfl
          have hKc := hK.sub (tys' := [(cJ, .long)]) [0] rfl
          have hFc := va_free (wc := [(aN, .inl (cJ, 9504, .inr (.inl now)))]) hD hS hA [0] rfl
          refine va_calli (va_runS (As := [.ref aN, .int (nI ((di * 66 + ce) * 9)), .int (nI k)]) (rest := []) ⟨hx, hb, hml, hown, hts⟩ (c_X0_byteOf l dC dI H.size aN cJ 9504 now ((di * 66 + ce) * 9) k (by decide) (by omega) (by omega)) (va_cwS 3 hts gX0_at_X0_byteOf rfl rfl rfl (by decide +kernel) ⟨Nat.le_of_ble_eq_true rfl, Nat.le_of_ble_eq_true rfl⟩) ⟨fun a U g mk q => by obtain ⟨q0, q1, qP, qK, qD⟩ := q; exact ⟨q0, q1, qP, va_K.moved (u := U) (U := U.calling g mk a) (Vm.Alike.refl U.vm) qK, qD⟩, fun U hU hW => ⟨rfl, by rw [hU], by rw [hU]; exact hPc, va_K.moved hW.alike hKc, hDc.weaken (fun _ _ _ _ => trivial)⟩⟩ rfl rfl hl.1 rfl (lv_room (Nat.le_of_ble_eq_true rfl)) dX0_at_51 ⟨Nat.le_of_ble_eq_true rfl, Nat.le_of_ble_eq_true rfl⟩) hS (fun q _ h => hFc q h) hFc (fun r_4 u t H1 locs ht hvm hw hB hz1 hk1 hS => ?_)
          obtain ⟨hP1, hK1, hD1⟩ := hB
          rw [ht] at hP1
          obtain ⟨hP, hD⟩ := va_join (wr := [(h0, .inr (0, [.ref aN, .ref aL, .ref aK, .ref aC, .int (nI ld), .ref aT, .int (nI tb), .ref aO, .int (nI ob), .int (bI off), .int wl, .long wd])), (aK, .inl (cI, 1056, .inl (fun i9 => nI (kd i9))))]) (w1 := [(aN, .inl (cJ, 9504, .inr (.inl now)))]) hP hD [0] [1, 2] rfl rfl (by decide) (by decide) hk1 hFc hP1 hD1
          clear hP1 hD1 hK1 hPc hDc hKc hFc hk1 hz1 hvm ht
          generalize H1 = H at hP hS ⊢
          have hP : va_P (dC, dI) vwCl [(h0, .inr (0, [.ref aN, .ref aL, .ref aK, .ref aC, .int (nI ld), .ref aT, .int (nI tb), .ref aO, .int (nI ob), .int (bI off), .int wl, .long wd])), (aK, .inl (cI, 1056, .inl (fun i9 => nI (kd i9)))), (aN, .inl (cJ, 9504, .inr (.inl now)))] H := hP
          have hD : va_D A [(h0, .inr (0, [.ref aN, .ref aL, .ref aK, .ref aC, .int (nI ld), .ref aT, .int (nI tb), .ref aO, .int (nI ob), .int (bI off), .int wl, .long wd])), (aK, .inl (cI, 1056, .inl (fun i9 => nI (kd i9)))), (aN, .inl (cJ, 9504, .inr (.inl now)))] := hD
          refine W.widen (k := 1) (n := 6) (Nat.le_refl _) (Nat.le_refl _) ?_
          obtain rfl := hw
          refine W.widen (k := 2) (n := 12) (Nat.le_of_ble_eq_true rfl) (Nat.le_of_ble_eq_true rfl) ?_
          refine vx_ret ?_
          have hP9 := hP.sub (ws' := [(h0, .inr (0, [.ref aN, .ref aL, .ref aK, .ref aC, .int (nI ld), .ref aT, .int (nI tb), .ref aO, .int (nI ob), .int (bI off), .int wl, .long wd])), (aN, .inl (cJ, 9504, .inr (.inl now))), (aK, .inl (cI, 1056, .inl (fun i9 => nI (kd i9))))]) [0, 2, 1] rfl
          have hD9 := hD.sub (ws' := [(h0, .inr (0, [.ref aN, .ref aL, .ref aK, .ref aC, .int (nI ld), .ref aT, .int (nI tb), .ref aO, .int (nI ob), .int (bI off), .int wl, .long wd])), (aN, .inl (cJ, 9504, .inr (.inl now))), (aK, .inl (cI, 1056, .inl (fun i9 => nI (kd i9))))]) [0, 2, 1] (by decide) rfl
          exact W.iret (v := nI (byF now ((di * 66 + ce) * 9) k)) hx hb hr (fun t ht hW => ⟨⟨nI (byF now ((di * 66 + ce) * 9) k), (), rfl, ⟨di, ce, k, hdi, hce9, hk70, rfl, rfl, rfl, by simpa using c18, rfl⟩, by rw [ht]; exact hP9, va_K.moved hW.alike hK, hD9⟩, hS.F ht⟩) hS.2.2 dX0_at_54
        · obtain ⟨sa, hstr⟩ := hxw.2 (131, "the cell has no such byte") (by decide)
          have hP9 := hP.sub (ws' := [(h0, .inr (0, [.ref aN, .ref aL, .ref aK, .ref aC, .int (nI ld), .ref aT, .int (nI tb), .ref aO, .int (nI ob), .int (bI off), .int wl, .long wd])), (aN, .inl (cJ, 9504, .inr (.inl now))), (aK, .inl (cI, 1056, .inl (fun i9 => nI (kd i9))))]) [1, 0, 2] rfl
          have hD9 := hD.sub (ws' := [(h0, .inr (0, [.ref aN, .ref aL, .ref aK, .ref aC, .int (nI ld), .ref aT, .int (nI tb), .ref aO, .int (nI ob), .int (bI off), .int wl, .long wd])), (aN, .inl (cJ, 9504, .inr (.inl now))), (aK, .inl (cI, 1056, .inl (fun i9 => nI (kd i9))))]) [1, 0, 2] (by decide) rfl
          exact zr_throwS (own := RX0) (cls := "java/util/NoSuchElementException") (Y := "java/lang/RuntimeException") (r := ["java/lang/Exception"]) hx hb hl9 hown (by decide +kernel) (by decide +kernel) (hts (.classLink RX0 112 "java/util/NoSuchElementException") (by decide +kernel)) (hts (.initialized "java/util/NoSuchElementException") (by decide +kernel)) hstr hat0 (by decide +kernel) hxz.1 hxz.2 hS (hl.1.trans hml.symm) dX0_at_31 dX0_at_34 dX0_at_35 dX0_at_37 dX0_at_40 (fun x hx => (hno x hx).elim) (Nat.le_of_ble_eq_true rfl) (Nat.le_of_ble_eq_true rfl) (Nat.le_of_ble_eq_true rfl) (Nat.le_of_ble_eq_true rfl) hlocks (fun t ha hsz hk => ⟨(), trivial, ⟨Or.inr ⟨rfl, di, ce, hdi, hce9, rfl, rfl, by first | exact Or.inl c18 | exact Or.inr (okI_f1 c22) | exact Or.inr (okI_f2 (by decide) (Int32.not_lt.mp c28))⟩, hP9.kept (fun k q hq => hk q.1 (hP9 k q hq).lt), va_K.moved ha hK, hD9⟩, Nat.le_trans hS.1 hsz, fun q h1 h2 => (hk q (Nat.lt_of_lt_of_le h1 hS.1)).trans (hS.2.1 q h1 h2)⟩) hS.2.2 (Nat.le_of_ble_eq_true rfl) (Nat.le_of_ble_eq_true rfl)
end
section
set_option maxHeartbeats 4000000 in
set_option maxRecDepth 100000 in
theorem lp_X0_outs {p : Program} {l : Launch} {e : Env} {R : Room} {s : State} {m : MethodId} {args : Array Value} {below : List Frame} {meth : Method} {c : Code} {cells slots : Nat} {Q : State → Prop} {A : Nat → Prop} {H0 : Heap} {dC : Nat → ClassId} {dI : Nat → Nat → Nat} (h0 aN aL aK aC aT aO : Nat) (ld tb ob : Nat) (off : Bool) (wl : Int32) (wd : Int64) (cJ : ClassId) (outw : Nat → Int64) (k0 e0 : Nat) (hke : k0 ≤ e0) (he : e0 ≤ 64) (hx : p.tables.exec = Jvm.exec) (hb : c.code = cX0_outs) (hml : c.maxLocals = 6) (hown : s.vm.findClass RX0 = some m.cls) (hts : ∀ w ∈ wsX0_outs, w.before args s = true) (hA : ∀ q : Nat, H0.size ≤ q → A q) (hK : va_K (dC, dI) vwCl [(cJ, .long)] s) (hRf : 1 ≤ R.frames) (hRl : 22 ≤ R.locals) (hRc : cells ≤ R.cells) (hRs : slots ≤ R.slots) (kk : ∀  (H : Heap) (locs : List Loc) (ls : Array Slot), va_P (dC, dI) vwCl [(h0, .inr (0, [.ref aN, .ref aL, .ref aK, .ref aC, .int (nI ld), .ref aT, .int (nI tb), .ref aO, .int (nI ob), .int (bI off), .int wl, .long wd])), (aO, .inl (cJ, 8, .inr (.inl outw)))] H → va_D A [(h0, .inr (0, [.ref aN, .ref aL, .ref aK, .ref aC, .int (nI ld), .ref aT, .int (nI tb), .ref aO, .int (nI ob), .int (bI off), .int wl, .long wd])), (aO, .inl (cJ, 8, .inr (.inl outw)))] → va_S A H0 H locs → lv_has ls 6 [(3, .long (oV outw e0 (e0 - k0)))] → W p l e R s m args below meth c H locs cells slots Q (F0 m 70 ls [])) : ∀ (n : Nat) (d : Nat), e0 - k0 + 1 ≤ d + n → d ≤ e0 - k0 → ∀ (H : Heap) (locs : List Loc) (ls : Array Slot), va_P (dC, dI) vwCl [(h0, .inr (0, [.ref aN, .ref aL, .ref aK, .ref aC, .int (nI ld), .ref aT, .int (nI tb), .ref aO, .int (nI ob), .int (bI off), .int wl, .long wd])), (aO, .inl (cJ, 8, .inr (.inl outw)))] H → va_D A [(h0, .inr (0, [.ref aN, .ref aL, .ref aK, .ref aC, .int (nI ld), .ref aT, .int (nI tb), .ref aO, .int (nI ob), .int (bI off), .int wl, .long wd])), (aO, .inl (cJ, 8, .inr (.inl outw)))] → va_S A H0 H locs → lv_has ls 6 [(0, .ref h0), (1, .int (nI k0)), (3, .long (oV outw e0 d)), (5, .int (zM (e0 - d)))] → W p l e R s m args below meth c H locs cells slots Q (F0 m 41 ls []) := by
  have hi0 : ∀ w ∈ u_ws RX0 TX0 12, w ∈ wsX0_outs := by decide +kernel
  intro n
  induction n with
  | zero => intro d  hm hi; exact absurd hm (by omega)
  | succ n ih =>
    intro d  hm hi H locs ls hP hD hS hl
    refine lv_iload hx hb dX0_outs_41 (lv_at hl 3 rfl) ?_
    refine lv_iload_n hx hb dX0_outs_43 rfl (lv_at hl 1 rfl) ?_
    refine lv_icmp_lt (tgt := 70) hx hb dX0_outs_44 (by decide) (fun c44 => ?_) (fun c44 => ?_)
    · have q44 := (zM_lt (by omega) (by omega)).mp c44
      obtain rfl : e0 - k0 = d := by omega
      exact kk  H locs ls (hP.sub [0, 1] rfl) (hD.sub [0, 1] (by decide) rfl) hS (lv_sub hl [2] rfl)
    · have q44 : ¬ e0 - d ≤ k0 := fun q => c44 ((zM_lt (by omega) (by omega)).mpr q)
      rw [zM_1 (show 1 ≤ e0 - d by omega)] at hl
      refine lv_lload_n hx hb dX0_outs_47 rfl (lv_at hl 2 rfl) ?_
      refine lv_bipush (v := nI 8) hx hb dX0_outs_48 (by decide) ?_
      refine lv_lshl hx hb dX0_outs_50 rfl ?_
      refine lv_aload_n hx hb dX0_outs_51 rfl (lv_at hl 0 rfl) ?_
      refine va_get (D := (dC, dI)) (ci := 0) (v := .ref aO) (C := RX0) (T := TX0) (N := 12) hx hb hts hi0 hown hK hP 0 rfl rfl 7 (by decide) (hts (.fieldLink RX0 39 "CellRack" "out" "[J") (by decide +kernel)) (fun _ h9 => h9) rfl dX0_outs_52 ?_
      refine lv_iconst (v := nI 0) hx hb dX0_outs_55 (by decide) ?_
      refine lv_iload hx hb dX0_outs_56 (lv_at hl 3 rfl) ?_
      have hPc := hP.sub (ws' := [(aO, .inl (cJ, 8, .inr (.inl outw)))]) [1] rfl
      have hDc := hD.sub (ws' := [(aO, .inl (cJ, 8, .inr (.inl outw)))]) [1] (by decide) rfl
      have hKc := hK.sub (tys' := [(cJ, .long)]) [0] rfl
      have hFc := va_free (wc := [(aO, .inl (cJ, 8, .inr (.inl outw)))]) hD hS hA [1] rfl
      refine va_calli (va_runS (As := [.ref aO, .int (nI 0), .int (nI (e0 - d - 1))]) (rest := [.long ((oV outw e0 d) <<< ((nI 8).toInt64 &&& 63))]) ⟨hx, hb, hml, hown, hts⟩ (c_X0_byteOf l dC dI H.size aO cJ 8 outw 0 (e0 - d - 1) (by decide) (by omega) (by omega)) (va_cwS 3 hts gX0_outs_X0_byteOf rfl rfl rfl (by decide +kernel) ⟨Nat.le_trans (by decide) hRf, Nat.le_trans (by decide) hRl⟩) ⟨fun a U g mk q => by obtain ⟨q0, q1, qP, qK, qD⟩ := q; exact ⟨q0, q1, qP, va_K.moved (u := U) (U := U.calling g mk a) (Vm.Alike.refl U.vm) qK, qD⟩, fun U hU hW => ⟨rfl, by rw [hU], by rw [hU]; exact hPc, va_K.moved hW.alike hKc, hDc.weaken (fun _ _ _ _ => trivial)⟩⟩ rfl rfl hl.1 rfl (lv_room (Nat.le_of_ble_eq_true rfl)) dX0_outs_58 ⟨hRc, hRs⟩) hS (fun q _ h => hFc q h) hFc (fun r_1 u t H1 locs ht hvm hw hB hz1 hk1 hS => ?_)
      obtain ⟨hP1, hK1, hD1⟩ := hB
      rw [ht] at hP1
      obtain ⟨hP, hD⟩ := va_join (wr := [(h0, .inr (0, [.ref aN, .ref aL, .ref aK, .ref aC, .int (nI ld), .ref aT, .int (nI tb), .ref aO, .int (nI ob), .int (bI off), .int wl, .long wd]))]) (w1 := [(aO, .inl (cJ, 8, .inr (.inl outw)))]) hP hD [1] [0] rfl rfl (by decide) (by decide) hk1 hFc hP1 hD1
      clear hP1 hD1 hK1 hPc hDc hKc hFc hk1 hz1 hvm ht
      generalize H1 = H at hP hS ⊢
      have hP : va_P (dC, dI) vwCl [(h0, .inr (0, [.ref aN, .ref aL, .ref aK, .ref aC, .int (nI ld), .ref aT, .int (nI tb), .ref aO, .int (nI ob), .int (bI off), .int wl, .long wd])), (aO, .inl (cJ, 8, .inr (.inl outw)))] H := hP
      have hD : va_D A [(h0, .inr (0, [.ref aN, .ref aL, .ref aK, .ref aC, .int (nI ld), .ref aT, .int (nI tb), .ref aO, .int (nI ob), .int (bI off), .int wl, .long wd])), (aO, .inl (cJ, 8, .inr (.inl outw)))] := hD
      refine W.widen (k := cells) (n := slots) (Nat.le_refl _) (Nat.le_refl _) ?_
      obtain rfl := hw
      refine lv_i2l hx hb dX0_outs_61 rfl ?_
      refine lv_lor hx hb dX0_outs_62 ?_
      refine zr_topl (oV outw e0 (d + 1)) (by rw [show e0 - d - 1 = e0 - 1 - d by omega]; rfl) ?_
      refine lv_lstore_n (lv' := [(3, .long (oV outw e0 (d + 1))), (0, .ref h0), (1, .int (nI k0)), (5, .int (nI (e0 - d - 1)))]) hx hb dX0_outs_63 rfl hl (by decide) rfl (fun ls hl => ?_)
      refine lv_iinc (v := zM (e0 - (d + 1))) (lv' := [(5, .int (zM (e0 - (d + 1)))), (3, .long (oV outw e0 (d + 1))), (0, .ref h0), (1, .int (nI k0))]) hx hb dX0_outs_64 hl (k := 3) rfl (by rw [zM_dec (show 1 ≤ e0 - d by omega), show e0 - d - 1 = e0 - (d + 1) by omega]) (by decide) rfl (fun ls hl => ?_)
      refine lv_goto (tgt := 41) hx hb dX0_outs_67 (by decide) ?_
      exact ih (d + 1) (by omega) (by omega) H locs ls (hP.sub [0, 1] rfl) (hD.sub [0, 1] (by decide) rfl) hS (lv_sub hl [2, 3, 1, 0] rfl)
set_option maxHeartbeats 4000000 in
set_option maxRecDepth 100000 in
theorem c_X0_outs (l : Launch) (hl9 : l.stackTraces = false) (dC : Nat → ClassId) (dI : Nat → Nat → Nat) (sz : Nat) (h0 aN aL aK aC aT aO : Nat) (ld tb ob : Nat) (off : Bool) (wl : Int32) (wd : Int64) (cJ : ClassId) (outw : Nat → Int64) (x : Int32) (hob : ob ≤ 64) : vx_Met l yX0_outs wsX0_outs ({ frames := 6, cells := 1, slots := 6, locals := 82 }) (va_Pc [.ref h0, .int x] (fun U => U.heap.size = sz ∧ va_P (dC, dI) vwCl [(h0, .inr (0, [.ref aN, .ref aL, .ref aK, .ref aC, .int (nI ld), .ref aT, .int (nI tb), .ref aO, .int (nI ob), .int (bI off), .int wl, .long wd])), (aO, .inl (cJ, 8, .inr (.inl outw)))] U.heap ∧ va_K (dC, dI) vwCl [(cJ, .long)] U ∧ va_D (fun _ => True) [(h0, .inr (0, [.ref aN, .ref aL, .ref aK, .ref aC, .int (nI ld), .ref aT, .int (nI tb), .ref aO, .int (nI ob), .int (bI off), .int wl, .long wd])), (aO, .inl (cJ, 8, .inr (.inl outw)))] ∧ xw U ∧ xz (va_A [(h0, .inr (0, [.ref aN, .ref aL, .ref aK, .ref aC, .int (nI ld), .ref aT, .int (nI tb), .ref aO, .int (nI ob), .int (bI off), .int wl, .long wd])), (aO, .inl (cJ, 8, .inr (.inl outw)))] sz) U U.heap)) (va_Ql (fun (r : Int64) (_ : Unit) => ∃ k : Nat, k < ob ∧ x = nI k ∧ r = oV outw (min (k + 8) ob) (min (k + 8) ob - k)) (fun (_ : Unit) t => va_P (dC, dI) vwCl [(h0, .inr (0, [.ref aN, .ref aL, .ref aK, .ref aC, .int (nI ld), .ref aT, .int (nI tb), .ref aO, .int (nI ob), .int (bI off), .int wl, .long wd])), (aO, .inl (cJ, 8, .inr (.inl outw)))] t.heap ∧ va_K (dC, dI) vwCl [(cJ, .long)] t ∧ va_D (va_A [(h0, .inr (0, [.ref aN, .ref aL, .ref aK, .ref aC, .int (nI ld), .ref aT, .int (nI tb), .ref aO, .int (nI ob), .int (bI off), .int wl, .long wd])), (aO, .inl (cJ, 8, .inr (.inl outw)))] sz) [(h0, .inr (0, [.ref aN, .ref aL, .ref aK, .ref aC, .int (nI ld), .ref aT, .int (nI tb), .ref aO, .int (nI ob), .int (bI off), .int wl, .long wd])), (aO, .inl (cJ, 8, .inr (.inl outw)))]) (va_A [(h0, .inr (0, [.ref aN, .ref aL, .ref aK, .ref aC, .int (nI ld), .ref aT, .int (nI tb), .ref aO, .int (nI ob), .int (bI off), .int wl, .long wd])), (aO, .inl (cJ, 8, .inr (.inl outw)))] sz)) (vx_X (fun (_ : Unit) => True) (fun E (_ : Unit) t => (E = "java/util/NoSuchElementException" ∧ okI x ob = false) ∧ va_P (dC, dI) vwCl [(h0, .inr (0, [.ref aN, .ref aL, .ref aK, .ref aC, .int (nI ld), .ref aT, .int (nI tb), .ref aO, .int (nI ob), .int (bI off), .int wl, .long wd])), (aO, .inl (cJ, 8, .inr (.inl outw)))] t.heap ∧ va_K (dC, dI) vwCl [(cJ, .long)] t ∧ va_D (va_A [(h0, .inr (0, [.ref aN, .ref aL, .ref aK, .ref aC, .int (nI ld), .ref aT, .int (nI tb), .ref aO, .int (nI ob), .int (bI off), .int wl, .long wd])), (aO, .inl (cJ, 8, .inr (.inl outw)))] sz) [(h0, .inr (0, [.ref aN, .ref aL, .ref aK, .ref aC, .int (nI ld), .ref aT, .int (nI tb), .ref aO, .int (nI ob), .int (bI off), .int wl, .long wd])), (aO, .inl (cJ, 8, .inr (.inl outw)))]) (va_A [(h0, .inr (0, [.ref aN, .ref aL, .ref aK, .ref aC, .int (nI ld), .ref aT, .int (nI tb), .ref aO, .int (nI ob), .int (bI off), .int wl, .long wd])), (aO, .inl (cJ, 8, .inr (.inl outw)))] sz)) 1 6 (va_A [(h0, .inr (0, [.ref aN, .ref aL, .ref aK, .ref aC, .int (nI ld), .ref aT, .int (nI tb), .ref aO, .int (nI ob), .int (bI off), .int wl, .long wd])), (aO, .inl (cJ, 8, .inr (.inl outw)))] sz) := by
  refine vx_ofW (cc := cX0_outs) (maxL := 6) (ret := some .long) (by decide) rfl ?_
  intro p e s m args below meth c s₁ B hml hno hv
  obtain ⟨rfl, hsz, hP, hK, hD0, hxw, hxz⟩ := hv
  have hx := B.exec
  have hb := B.bytes
  have hr := B.returns
  have hts := atoms_spec (ws := wsX0_outs) B.pre
  have hown : s.vm.findClass RX0 = some m.cls := findClass_of_methodNamed B.named
  have hlocks := B.notSynchronized
  subst hsz
  have hD := hD0.self (sz := s.heap.size)
  generalize hAe : va_A [(h0, .inr (0, [.ref aN, .ref aL, .ref aK, .ref aC, .int (nI ld), .ref aT, .int (nI tb), .ref aO, .int (nI ob), .int (bI off), .int wl, .long wd])), (aO, .inl (cJ, 8, .inr (.inl outw)))] s.heap.size = A at hD hxz ⊢
  have hA : ∀ q : Nat, s.heap.size ≤ q → A q := fun q h => by rw [← hAe]; exact Or.inr h
  generalize hH : s.heap = H at hP ⊢
  have hS : va_S A s.heap H [] := by rw [hH]; exact va_S.rf
  have hP : va_P (dC, dI) vwCl [(h0, .inr (0, [.ref aN, .ref aL, .ref aK, .ref aC, .int (nI ld), .ref aT, .int (nI tb), .ref aO, .int (nI ob), .int (bI off), .int wl, .long wd])), (aO, .inl (cJ, 8, .inr (.inl outw)))] H := hP
  have hl := lv_entry ([.ref h0, .int x]) (n := 6) (Nat.le_of_ble_eq_true rfl)
  rw [lg_entry_eq]
  generalize (lg_sl ([.ref h0, .int x]) ++ List.replicate (6 - (lg_sl ([.ref h0, .int x])).length) Slot.unset).toArray = ls at hl ⊢
  have hl : lv_has ls 6 [(0, .ref h0), (1, .int x)] := hl
  have hi0 : ∀ w ∈ u_ws RX0 TX0 12, w ∈ wsX0_outs := by decide +kernel
  have hat0 : ∀ w ∈ zr_atS RX0 116 "java/util/NoSuchElementException" ["java/lang/RuntimeException", "java/lang/Exception"], w.before _ s = true := vx_hat (L := zr_atS RX0 116 "java/util/NoSuchElementException" ["java/lang/RuntimeException", "java/lang/Exception"]) (B := [.castable "java/util/NoSuchElementException" "java/util/NoSuchElementException", .declares ⟨"java/lang/RuntimeException", "<init>", "(Ljava/lang/String;)V"⟩, .declares ⟨"java/lang/Exception", "<init>", "(Ljava/lang/String;)V"⟩, .declares ⟨"java/lang/Throwable", "<init>", "(Ljava/lang/String;)V"⟩]) (fun w hw => hts w ((by decide +kernel : ∀ w ∈ (zr_atS RX0 116 "java/util/NoSuchElementException" ["java/lang/RuntimeException", "java/lang/Exception"]).filter goodWord, w ∈ wsX0_outs) w hw)) (by decide +kernel) (vx_c (va_Nw.use rfl hxw.1.2.2.1) (vx_c (va_Nw.use rfl hxw.1.2.2.2.1) (vx_c (va_Nw.use rfl hxw.1.2.2.2.2.1) (vx_c (va_Nw.use rfl hxw.1.2.2.2.2.2) (vx_n)))))
  refine lv_iload_n hx hb dX0_outs_0 rfl (lv_at hl 1 rfl) ?_
  refine lv_if_lt (tgt := 12) hx hb dX0_outs_1 (by decide) (fun c1 => ?_) (fun c1 => ?_)
  · obtain ⟨sa, hstr⟩ := hxw.2 (114, "the OUT has no such byte") (by decide)
    have hP9 := hP.sub (ws' := [(h0, .inr (0, [.ref aN, .ref aL, .ref aK, .ref aC, .int (nI ld), .ref aT, .int (nI tb), .ref aO, .int (nI ob), .int (bI off), .int wl, .long wd])), (aO, .inl (cJ, 8, .inr (.inl outw)))]) [0, 1] rfl
    have hD9 := hD.sub (ws' := [(h0, .inr (0, [.ref aN, .ref aL, .ref aK, .ref aC, .int (nI ld), .ref aT, .int (nI tb), .ref aO, .int (nI ob), .int (bI off), .int wl, .long wd])), (aO, .inl (cJ, 8, .inr (.inl outw)))]) [0, 1] (by decide) rfl
    exact zr_throwS (own := RX0) (cls := "java/util/NoSuchElementException") (Y := "java/lang/RuntimeException") (r := ["java/lang/Exception"]) hx hb hl9 hown (by decide +kernel) (by decide +kernel) (hts (.classLink RX0 112 "java/util/NoSuchElementException") (by decide +kernel)) (hts (.initialized "java/util/NoSuchElementException") (by decide +kernel)) hstr hat0 (by decide +kernel) hxz.1 hxz.2 hS (hl.1.trans hml.symm) dX0_outs_12 dX0_outs_15 dX0_outs_16 dX0_outs_18 dX0_outs_21 (fun x hx => (hno x hx).elim) (Nat.le_of_ble_eq_true rfl) (Nat.le_of_ble_eq_true rfl) (Nat.le_of_ble_eq_true rfl) (Nat.le_of_ble_eq_true rfl) hlocks (fun t ha hsz hk => ⟨(), trivial, ⟨⟨rfl, by first | exact okI_f1 c1 | exact okI_f2 (by omega) (Int32.not_lt.mp c9)⟩, hP9.kept (fun k q hq => hk q.1 (hP9 k q hq).lt), va_K.moved ha hK, hD9⟩, Nat.le_trans hS.1 hsz, fun q h1 h2 => (hk q (Nat.lt_of_lt_of_le h1 hS.1)).trans (hS.2.1 q h1 h2)⟩) hS.2.2 (Nat.le_of_ble_eq_true rfl) (Nat.le_of_ble_eq_true rfl)
  · refine lv_iload_n hx hb dX0_outs_4 rfl (lv_at hl 1 rfl) ?_
    refine lv_aload_n hx hb dX0_outs_5 rfl (lv_at hl 0 rfl) ?_
    refine va_get (D := (dC, dI)) (ci := 0) (v := .int (nI ob)) (C := RX0) (T := TX0) (N := 12) hx hb hts hi0 hown hK hP 0 rfl rfl 8 (by decide) (hts (.fieldLink RX0 42 "CellRack" "outBytes" "I") (by decide +kernel)) (fun _ h9 => h9) rfl dX0_outs_6 ?_
    refine lv_icmp_lt (tgt := 22) hx hb dX0_outs_9 (by decide) (fun c9 => ?_) (fun c9 => ?_)
    · obtain ⟨k, hkob, rfl⟩ := okI_get (n := ob) (by omega) (okI_t (by omega) c1 (fun q => Int32.not_lt.mpr q c9))
      refine lv_iload_n hx hb dX0_outs_22 rfl (lv_at hl 1 rfl) ?_
      refine lv_bipush (v := nI 8) hx hb dX0_outs_23 (by decide) ?_
      refine zr_iadd hx hb dX0_outs_25 ?_
      refine lv_aload_n hx hb dX0_outs_26 rfl (lv_at hl 0 rfl) ?_
      refine va_get (D := (dC, dI)) (ci := 0) (v := .int (nI ob)) (C := RX0) (T := TX0) (N := 12) hx hb hts hi0 hown hK hP 0 rfl rfl 8 (by decide) (hts (.fieldLink RX0 42 "CellRack" "outBytes" "I") (by decide +kernel)) (fun _ h9 => h9) rfl dX0_outs_27 ?_
      refine va_mmin hx hb (hml.trans hl.1.symm) hown (hts (.methodLink RX0 117 Lib.Math.min.name) (by decide +kernel)) (hts (.static Lib.Math.min.name) (by decide +kernel)) (hts (.initialized "java/lang/Math") (by decide +kernel)) (hts (.code Lib.Math.min.name Lib.Math.min.code 2 (some .int)) (by decide +kernel)) (Nat.le_of_ble_eq_true rfl) (Nat.le_of_ble_eq_true rfl) (Nat.zero_le _) (Nat.zero_le _) dX0_outs_30 ?_
      refine zr_topi (nI (min (k + 8) ob)) (zr_min (by omega) (by omega)) ?_
      refine lv_istore_n (lv' := [(2, .int (nI (min (k + 8) ob))), (0, .ref h0), (1, .int (nI k))]) hx hb dX0_outs_33 rfl hl (by decide) rfl (fun ls hl => ?_)
      refine lv_lconst (v := 0) hx hb dX0_outs_34 (by decide) ?_
      refine lv_lstore_n (lv' := [(3, .long 0), (2, .int (nI (min (k + 8) ob))), (0, .ref h0), (1, .int (nI k))]) hx hb dX0_outs_35 rfl hl (by decide) rfl (fun ls hl => ?_)
      refine lv_iload_n hx hb dX0_outs_36 rfl (lv_at hl 1 rfl) ?_
      refine lv_iconst (v := nI 1) hx hb dX0_outs_37 (by decide) ?_
      refine zr_isub hx hb (by omega) dX0_outs_38 ?_
      refine lv_istore (lv' := [(5, .int (nI ((min (k + 8) ob) - 1))), (3, .long 0), (2, .int (nI (min (k + 8) ob))), (0, .ref h0), (1, .int (nI k))]) hx hb dX0_outs_39 hl (by decide) rfl (fun ls hl => ?_)
      rw [← zM_1 (show 1 ≤ min (k + 8) ob by omega)] at hl
      refine lp_X0_outs h0 aN aL aK aC aT aO ld tb ob off wl wd cJ outw k (min (k + 8) ob) (by omega) (by omega) hx hb hml hown hts hA hK (Nat.le_of_ble_eq_true rfl) (Nat.le_of_ble_eq_true rfl) (Nat.zero_le _) (Nat.zero_le _) (fun  H locs ls hP hD hS hl => ?_) (min (k + 8) ob - k + 1) 0 (by omega) (by omega) _ _ _ (hP.sub [0, 1] rfl) (hD.sub [0, 1] (by decide) rfl) hS (lv_sub hl [3, 4, 1, 0] rfl)
      refine lv_lload_n hx hb dX0_outs_70 rfl (lv_at hl 0 rfl) ?_
      refine W.widen (k := 1) (n := 6) (Nat.le_of_ble_eq_true rfl) (Nat.le_of_ble_eq_true rfl) ?_
      refine vx_ret ?_
      have hP9 := hP.sub (ws' := [(h0, .inr (0, [.ref aN, .ref aL, .ref aK, .ref aC, .int (nI ld), .ref aT, .int (nI tb), .ref aO, .int (nI ob), .int (bI off), .int wl, .long wd])), (aO, .inl (cJ, 8, .inr (.inl outw)))]) [0, 1] rfl
      have hD9 := hD.sub (ws' := [(h0, .inr (0, [.ref aN, .ref aL, .ref aK, .ref aC, .int (nI ld), .ref aT, .int (nI tb), .ref aO, .int (nI ob), .int (bI off), .int wl, .long wd])), (aO, .inl (cJ, 8, .inr (.inl outw)))]) [0, 1] (by decide) rfl
      exact W.lret (v := oV outw (min (k + 8) ob) ((min (k + 8) ob) - (k))) hx hb hr (fun t ht hW => ⟨⟨oV outw (min (k + 8) ob) ((min (k + 8) ob) - (k)), (), rfl, ⟨k, hkob, rfl, rfl⟩, by rw [ht]; exact hP9, va_K.moved hW.alike hK, hD9⟩, hS.F ht⟩) hS.2.2 dX0_outs_71
    · obtain ⟨sa, hstr⟩ := hxw.2 (114, "the OUT has no such byte") (by decide)
      have hP9 := hP.sub (ws' := [(h0, .inr (0, [.ref aN, .ref aL, .ref aK, .ref aC, .int (nI ld), .ref aT, .int (nI tb), .ref aO, .int (nI ob), .int (bI off), .int wl, .long wd])), (aO, .inl (cJ, 8, .inr (.inl outw)))]) [0, 1] rfl
      have hD9 := hD.sub (ws' := [(h0, .inr (0, [.ref aN, .ref aL, .ref aK, .ref aC, .int (nI ld), .ref aT, .int (nI tb), .ref aO, .int (nI ob), .int (bI off), .int wl, .long wd])), (aO, .inl (cJ, 8, .inr (.inl outw)))]) [0, 1] (by decide) rfl
      exact zr_throwS (own := RX0) (cls := "java/util/NoSuchElementException") (Y := "java/lang/RuntimeException") (r := ["java/lang/Exception"]) hx hb hl9 hown (by decide +kernel) (by decide +kernel) (hts (.classLink RX0 112 "java/util/NoSuchElementException") (by decide +kernel)) (hts (.initialized "java/util/NoSuchElementException") (by decide +kernel)) hstr hat0 (by decide +kernel) hxz.1 hxz.2 hS (hl.1.trans hml.symm) dX0_outs_12 dX0_outs_15 dX0_outs_16 dX0_outs_18 dX0_outs_21 (fun x hx => (hno x hx).elim) (Nat.le_of_ble_eq_true rfl) (Nat.le_of_ble_eq_true rfl) (Nat.le_of_ble_eq_true rfl) (Nat.le_of_ble_eq_true rfl) hlocks (fun t ha hsz hk => ⟨(), trivial, ⟨⟨rfl, by first | exact okI_f1 c1 | exact okI_f2 (by omega) (Int32.not_lt.mp c9)⟩, hP9.kept (fun k q hq => hk q.1 (hP9 k q hq).lt), va_K.moved ha hK, hD9⟩, Nat.le_trans hS.1 hsz, fun q h1 h2 => (hk q (Nat.lt_of_lt_of_le h1 hS.1)).trans (hS.2.1 q h1 h2)⟩) hS.2.2 (Nat.le_of_ble_eq_true rfl) (Nat.le_of_ble_eq_true rfl)
set_option maxHeartbeats 4000000 in
set_option maxRecDepth 100000 in
theorem c_X0_read (l : Launch) (hl9 : l.stackTraces = false) (dC : Nat → ClassId) (dI : Nat → Nat → Nat) (sz : Nat) (h0 aN aL aK aC aT aO : Nat) (ld tb ob : Nat) (off : Bool) (wl : Int32) (wd : Int64) (cJ cI : ClassId) (now outw : Nat → Int64) (kd : Nat → Nat) (x y : Int32) (hk : kdOK kd) : vx_Met l yX0_read wsX0_read ({ frames := 7, cells := 1, slots := 6, locals := 103 }) (va_Pc [.ref h0, .int x, .int y] (fun U => U.heap.size = sz ∧ va_P (dC, dI) vwCl [(h0, .inr (0, [.ref aN, .ref aL, .ref aK, .ref aC, .int (nI ld), .ref aT, .int (nI tb), .ref aO, .int (nI ob), .int (bI off), .int wl, .long wd])), (aN, .inl (cJ, 9504, .inr (.inl now))), (aK, .inl (cI, 1056, .inl (fun i9 => nI (kd i9)))), (aO, .inl (cJ, 8, .inr (.inl outw)))] U.heap ∧ va_K (dC, dI) vwCl [(cJ, .long), (cI, .int)] U ∧ va_D (fun _ => True) [(h0, .inr (0, [.ref aN, .ref aL, .ref aK, .ref aC, .int (nI ld), .ref aT, .int (nI tb), .ref aO, .int (nI ob), .int (bI off), .int wl, .long wd])), (aN, .inl (cJ, 9504, .inr (.inl now))), (aK, .inl (cI, 1056, .inl (fun i9 => nI (kd i9)))), (aO, .inl (cJ, 8, .inr (.inl outw)))] ∧ xw U ∧ xz (va_A [(h0, .inr (0, [.ref aN, .ref aL, .ref aK, .ref aC, .int (nI ld), .ref aT, .int (nI tb), .ref aO, .int (nI ob), .int (bI off), .int wl, .long wd])), (aN, .inl (cJ, 9504, .inr (.inl now))), (aK, .inl (cI, 1056, .inl (fun i9 => nI (kd i9)))), (aO, .inl (cJ, 8, .inr (.inl outw)))] sz) U U.heap)) (va_Qi (fun (r : Int32) (u : (Nat → Int64) × Nat) => match u with | (o2, b2) => ∃ di ce : Nat, di < 16 ∧ ce < 66 ∧ x = nI di ∧ y = nI ce ∧ ((kd (di * 66 + ce) = 2 ∧ r = bI true ∧ o2 = va_cpy now outw ((di * 66 + ce) * 9) 0 8 ∧ b2 = 64) ∨ (¬ kd (di * 66 + ce) = 2 ∧ r = bI false ∧ o2 = outw ∧ b2 = 0))) (fun (u : (Nat → Int64) × Nat) t => match u with | (o2, b2) => va_P (dC, dI) vwCl [(h0, .inr (0, [.ref aN, .ref aL, .ref aK, .ref aC, .int (nI ld), .ref aT, .int (nI tb), .ref aO, .int (nI b2), .int (bI off), .int wl, .long wd])), (aN, .inl (cJ, 9504, .inr (.inl now))), (aK, .inl (cI, 1056, .inl (fun i9 => nI (kd i9)))), (aO, .inl (cJ, 8, .inr (.inl o2)))] t.heap ∧ va_K (dC, dI) vwCl [(cJ, .long), (cI, .int)] t ∧ va_D (va_A [(h0, .inr (0, [.ref aN, .ref aL, .ref aK, .ref aC, .int (nI ld), .ref aT, .int (nI tb), .ref aO, .int (nI ob), .int (bI off), .int wl, .long wd])), (aN, .inl (cJ, 9504, .inr (.inl now))), (aK, .inl (cI, 1056, .inl (fun i9 => nI (kd i9)))), (aO, .inl (cJ, 8, .inr (.inl outw)))] sz) [(h0, .inr (0, [.ref aN, .ref aL, .ref aK, .ref aC, .int (nI ld), .ref aT, .int (nI tb), .ref aO, .int (nI b2), .int (bI off), .int wl, .long wd])), (aN, .inl (cJ, 9504, .inr (.inl now))), (aK, .inl (cI, 1056, .inl (fun i9 => nI (kd i9)))), (aO, .inl (cJ, 8, .inr (.inl o2)))]) (va_A [(h0, .inr (0, [.ref aN, .ref aL, .ref aK, .ref aC, .int (nI ld), .ref aT, .int (nI tb), .ref aO, .int (nI ob), .int (bI off), .int wl, .long wd])), (aN, .inl (cJ, 9504, .inr (.inl now))), (aK, .inl (cI, 1056, .inl (fun i9 => nI (kd i9)))), (aO, .inl (cJ, 8, .inr (.inl outw)))] sz)) (vx_X (fun (_ : Unit) => True) (fun E (_ : Unit) t => (E = "java/lang/IllegalArgumentException" ∧ (okI x 16 && okI y 66) = false) ∧ va_P (dC, dI) vwCl [(h0, .inr (0, [.ref aN, .ref aL, .ref aK, .ref aC, .int (nI ld), .ref aT, .int (nI tb), .ref aO, .int (nI ob), .int (bI off), .int wl, .long wd])), (aN, .inl (cJ, 9504, .inr (.inl now))), (aK, .inl (cI, 1056, .inl (fun i9 => nI (kd i9)))), (aO, .inl (cJ, 8, .inr (.inl outw)))] t.heap ∧ va_K (dC, dI) vwCl [(cJ, .long), (cI, .int)] t ∧ va_D (va_A [(h0, .inr (0, [.ref aN, .ref aL, .ref aK, .ref aC, .int (nI ld), .ref aT, .int (nI tb), .ref aO, .int (nI ob), .int (bI off), .int wl, .long wd])), (aN, .inl (cJ, 9504, .inr (.inl now))), (aK, .inl (cI, 1056, .inl (fun i9 => nI (kd i9)))), (aO, .inl (cJ, 8, .inr (.inl outw)))] sz) [(h0, .inr (0, [.ref aN, .ref aL, .ref aK, .ref aC, .int (nI ld), .ref aT, .int (nI tb), .ref aO, .int (nI ob), .int (bI off), .int wl, .long wd])), (aN, .inl (cJ, 9504, .inr (.inl now))), (aK, .inl (cI, 1056, .inl (fun i9 => nI (kd i9)))), (aO, .inl (cJ, 8, .inr (.inl outw)))]) (va_A [(h0, .inr (0, [.ref aN, .ref aL, .ref aK, .ref aC, .int (nI ld), .ref aT, .int (nI tb), .ref aO, .int (nI ob), .int (bI off), .int wl, .long wd])), (aN, .inl (cJ, 9504, .inr (.inl now))), (aK, .inl (cI, 1056, .inl (fun i9 => nI (kd i9)))), (aO, .inl (cJ, 8, .inr (.inl outw)))] sz)) 1 6 (va_A [(h0, .inr (0, [.ref aN, .ref aL, .ref aK, .ref aC, .int (nI ld), .ref aT, .int (nI tb), .ref aO, .int (nI ob), .int (bI off), .int wl, .long wd])), (aN, .inl (cJ, 9504, .inr (.inl now))), (aK, .inl (cI, 1056, .inl (fun i9 => nI (kd i9)))), (aO, .inl (cJ, 8, .inr (.inl outw)))] sz) := by
  refine vx_ofW (cc := cX0_read) (maxL := 5) (ret := some .boolean) (by decide) rfl ?_
  intro p e s m args below meth c s₁ B hml hno hv
  obtain ⟨rfl, hsz, hP, hK, hD0, hxw, hxz⟩ := hv
  have hx := B.exec
  have hb := B.bytes
  have hr := B.returns
  have hts := atoms_spec (ws := wsX0_read) B.pre
  have hown : s.vm.findClass RX0 = some m.cls := findClass_of_methodNamed B.named
  have hlocks := B.notSynchronized
  subst hsz
  have hD := hD0.self (sz := s.heap.size)
  generalize hAe : va_A [(h0, .inr (0, [.ref aN, .ref aL, .ref aK, .ref aC, .int (nI ld), .ref aT, .int (nI tb), .ref aO, .int (nI ob), .int (bI off), .int wl, .long wd])), (aN, .inl (cJ, 9504, .inr (.inl now))), (aK, .inl (cI, 1056, .inl (fun i9 => nI (kd i9)))), (aO, .inl (cJ, 8, .inr (.inl outw)))] s.heap.size = A at hD hxz ⊢
  have hA : ∀ q : Nat, s.heap.size ≤ q → A q := fun q h => by rw [← hAe]; exact Or.inr h
  generalize hH : s.heap = H at hP ⊢
  have hS : va_S A s.heap H [] := by rw [hH]; exact va_S.rf
  have hP : va_P (dC, dI) vwCl [(h0, .inr (0, [.ref aN, .ref aL, .ref aK, .ref aC, .int (nI ld), .ref aT, .int (nI tb), .ref aO, .int (nI ob), .int (bI off), .int wl, .long wd])), (aN, .inl (cJ, 9504, .inr (.inl now))), (aK, .inl (cI, 1056, .inl (fun i9 => nI (kd i9)))), (aO, .inl (cJ, 8, .inr (.inl outw)))] H := hP
  have hl := lv_entry ([.ref h0, .int x, .int y]) (n := 5) (Nat.le_of_ble_eq_true rfl)
  rw [lg_entry_eq]
  generalize (lg_sl ([.ref h0, .int x, .int y]) ++ List.replicate (5 - (lg_sl ([.ref h0, .int x, .int y])).length) Slot.unset).toArray = ls at hl ⊢
  have hl : lv_has ls 5 [(0, .ref h0), (1, .int x), (2, .int y)] := hl
  have hi0 : ∀ w ∈ u_ws RX0 TX0 12, w ∈ wsX0_read := by decide +kernel
  refine lv_iload_n hx hb dX0_read_0 rfl (lv_at hl 1 rfl) ?_
  refine lv_iload_n hx hb dX0_read_1 rfl (lv_at hl 2 rfl) ?_
  have hPc := hP.sub (ws' := []) [] rfl
  have hDc := hD.sub (ws' := []) [] (by decide) rfl
  have hKc := hK.sub (tys' := []) [] rfl
  have hFc := va_free (wc := []) hD hS hA [] rfl
  refine vx_callv (vx_runS (As := [.int x, .int y]) (rest := []) ⟨hx, hb, hml, hown, hts⟩ (c_X0_needCell l hl9 dC dI H.size x y) (va_cwS 2 hts gX0_read_X0_needCell rfl rfl rfl (by decide +kernel) ⟨Nat.le_of_ble_eq_true rfl, Nat.le_of_ble_eq_true rfl⟩) ⟨fun a U g mk q => by obtain ⟨q0, q1, qP, qK, qD, qw, qz⟩ := q; exact ⟨q0, q1, qP, va_K.moved (u := U) (U := U.calling g mk a) (Vm.Alike.refl U.vm) qK, qD, xw.same (u := U) rfl qw, xz.moved (u := U) (U := U.calling g mk a) (Vm.Alike.refl U.vm) qz⟩, fun U hU hW => ⟨rfl, by rw [hU], by rw [hU]; exact hPc, va_K.moved hW.alike hKc, hDc.weaken (fun _ _ _ _ => trivial), xw.warm hW hxw, xz.go hxz hS hW.alike hU hFc⟩⟩ rfl rfl hl.1 rfl (lv_room (Nat.le_of_ble_eq_true rfl)) dX0_read_2 ⟨Nat.le_of_ble_eq_true rfl, Nat.le_of_ble_eq_true rfl⟩) hS (fun q _ h => hFc q h) hFc (fun q _ h => hFc q h) (fun E ce q9 u t H1 locs ht hvm _hu hB hz1 hk1 hS hce hcv hcl => ?_) (fun u t H1 locs ht hvm hw hB hz1 hk1 hS => ?_)
  · obtain ⟨hxp, hP1, hK1, hD1⟩ := hB
    rw [ht] at hP1
    obtain ⟨hP, hD⟩ := va_join (wr := [(h0, .inr (0, [.ref aN, .ref aL, .ref aK, .ref aC, .int (nI ld), .ref aT, .int (nI tb), .ref aO, .int (nI ob), .int (bI off), .int wl, .long wd])), (aN, .inl (cJ, 9504, .inr (.inl now))), (aK, .inl (cI, 1056, .inl (fun i9 => nI (kd i9)))), (aO, .inl (cJ, 8, .inr (.inl outw)))]) (w1 := []) hP hD [] [0, 1, 2, 3] rfl rfl (by decide) (by decide) hk1 hFc hP1 hD1
    clear hP1 hD1 hK1 hPc hDc hKc hFc hk1 hz1 hvm ht
    generalize H1 = H at hP hS hce ⊢
    have hP : va_P (dC, dI) vwCl [(h0, .inr (0, [.ref aN, .ref aL, .ref aK, .ref aC, .int (nI ld), .ref aT, .int (nI tb), .ref aO, .int (nI ob), .int (bI off), .int wl, .long wd])), (aN, .inl (cJ, 9504, .inr (.inl now))), (aK, .inl (cI, 1056, .inl (fun i9 => nI (kd i9)))), (aO, .inl (cJ, 8, .inr (.inl outw)))] H := hP
    have hD : va_D A [(h0, .inr (0, [.ref aN, .ref aL, .ref aK, .ref aC, .int (nI ld), .ref aT, .int (nI tb), .ref aO, .int (nI ob), .int (bI off), .int wl, .long wd])), (aN, .inl (cJ, 9504, .inr (.inl now))), (aK, .inl (cI, 1056, .inl (fun i9 => nI (kd i9)))), (aO, .inl (cJ, 8, .inr (.inl outw)))] := hD
    refine vx_widen (k := 1) (n := 6) (Nat.le_refl _) (Nat.le_refl _) ?_
    have hP9 := hP.sub (ws' := [(h0, .inr (0, [.ref aN, .ref aL, .ref aK, .ref aC, .int (nI ld), .ref aT, .int (nI tb), .ref aO, .int (nI ob), .int (bI off), .int wl, .long wd])), (aN, .inl (cJ, 9504, .inr (.inl now))), (aK, .inl (cI, 1056, .inl (fun i9 => nI (kd i9)))), (aO, .inl (cJ, 8, .inr (.inl outw)))]) [0, 1, 2, 3] rfl
    have hD9 := hD.sub (ws' := [(h0, .inr (0, [.ref aN, .ref aL, .ref aK, .ref aC, .int (nI ld), .ref aT, .int (nI tb), .ref aO, .int (nI ob), .int (bI off), .int wl, .long wd])), (aN, .inl (cJ, 9504, .inr (.inl now))), (aK, .inl (cI, 1056, .inl (fun i9 => nI (kd i9)))), (aO, .inl (cJ, 8, .inr (.inl outw)))]) [0, 1, 2, 3] (by decide) rfl
    exact vx_out (fun x hx => (hno x hx).elim) hlocks hce hcv hcl (fun t ht ha => ⟨(), trivial, ⟨hxp, by rw [ht]; exact hP9, va_K.moved ha hK, hD9⟩, hS.F ht⟩) hS.2.2 (Nat.le_of_ble_eq_true rfl) (Nat.le_of_ble_eq_true rfl)
  · obtain ⟨hP1, hK1, hD1⟩ := hB
    rw [ht] at hP1
    obtain ⟨hP, hD⟩ := va_join (wr := [(h0, .inr (0, [.ref aN, .ref aL, .ref aK, .ref aC, .int (nI ld), .ref aT, .int (nI tb), .ref aO, .int (nI ob), .int (bI off), .int wl, .long wd])), (aN, .inl (cJ, 9504, .inr (.inl now))), (aK, .inl (cI, 1056, .inl (fun i9 => nI (kd i9)))), (aO, .inl (cJ, 8, .inr (.inl outw)))]) (w1 := []) hP hD [] [0, 1, 2, 3] rfl rfl (by decide) (by decide) hk1 hFc hP1 hD1
    clear hP1 hD1 hK1 hPc hDc hKc hFc hk1 hz1 hvm ht
    generalize H1 = H at hP hS ⊢
    have hP : va_P (dC, dI) vwCl [(h0, .inr (0, [.ref aN, .ref aL, .ref aK, .ref aC, .int (nI ld), .ref aT, .int (nI tb), .ref aO, .int (nI ob), .int (bI off), .int wl, .long wd])), (aN, .inl (cJ, 9504, .inr (.inl now))), (aK, .inl (cI, 1056, .inl (fun i9 => nI (kd i9)))), (aO, .inl (cJ, 8, .inr (.inl outw)))] H := hP
    have hD : va_D A [(h0, .inr (0, [.ref aN, .ref aL, .ref aK, .ref aC, .int (nI ld), .ref aT, .int (nI tb), .ref aO, .int (nI ob), .int (bI off), .int wl, .long wd])), (aN, .inl (cJ, 9504, .inr (.inl now))), (aK, .inl (cI, 1056, .inl (fun i9 => nI (kd i9)))), (aO, .inl (cJ, 8, .inr (.inl outw)))] := hD
    refine W.widen (k := 1) (n := 6) (Nat.le_refl _) (Nat.le_refl _) ?_
    have hcell := hw
    obtain ⟨di, hdi, rfl⟩ := okI_get (by decide) (Bool.and_eq_true_iff.mp hcell).1
    obtain ⟨ce, hce9, rfl⟩ := okI_get (by decide) (Bool.and_eq_true_iff.mp hcell).2
    refine lv_iload_n hx hb dX0_read_5 rfl (lv_at hl 1 rfl) ?_
    refine lv_iload_n hx hb dX0_read_6 rfl (lv_at hl 2 rfl) ?_
    have hPc := hP.sub (ws' := []) [] rfl
    have hDc := hD.sub (ws' := []) [] (by decide) rfl
    have hKc := hK.sub (tys' := []) [] rfl
    have hFc := va_free (wc := []) hD hS hA [] rfl
    refine va_calli (va_runS (As := [.int (nI di), .int (nI ce)]) (rest := []) ⟨hx, hb, hml, hown, hts⟩ (c_X0_spotOf l dC dI H.size di ce) (va_cwS 2 hts gX0_read_X0_spotOf rfl rfl rfl (by decide +kernel) ⟨Nat.le_of_ble_eq_true rfl, Nat.le_of_ble_eq_true rfl⟩) ⟨fun a U g mk q => by obtain ⟨q0, q1, qP, qK, qD⟩ := q; exact ⟨q0, q1, qP, va_K.moved (u := U) (U := U.calling g mk a) (Vm.Alike.refl U.vm) qK, qD⟩, fun U hU hW => ⟨rfl, by rw [hU], by rw [hU]; exact hPc, va_K.moved hW.alike hKc, hDc.weaken (fun _ _ _ _ => trivial)⟩⟩ rfl rfl hl.1 rfl (lv_room (Nat.le_of_ble_eq_true rfl)) dX0_read_7 ⟨Nat.le_of_ble_eq_true rfl, Nat.le_of_ble_eq_true rfl⟩) hS (fun q _ h => hFc q h) hFc (fun r_2 u t H1 locs ht hvm hw hB hz1 hk1 hS => ?_)
    obtain ⟨hP1, hK1, hD1⟩ := hB
    rw [ht] at hP1
    obtain ⟨hP, hD⟩ := va_join (wr := [(h0, .inr (0, [.ref aN, .ref aL, .ref aK, .ref aC, .int (nI ld), .ref aT, .int (nI tb), .ref aO, .int (nI ob), .int (bI off), .int wl, .long wd])), (aN, .inl (cJ, 9504, .inr (.inl now))), (aK, .inl (cI, 1056, .inl (fun i9 => nI (kd i9)))), (aO, .inl (cJ, 8, .inr (.inl outw)))]) (w1 := []) hP hD [] [0, 1, 2, 3] rfl rfl (by decide) (by decide) hk1 hFc hP1 hD1
    clear hP1 hD1 hK1 hPc hDc hKc hFc hk1 hz1 hvm ht
    generalize H1 = H at hP hS ⊢
    have hP : va_P (dC, dI) vwCl [(h0, .inr (0, [.ref aN, .ref aL, .ref aK, .ref aC, .int (nI ld), .ref aT, .int (nI tb), .ref aO, .int (nI ob), .int (bI off), .int wl, .long wd])), (aN, .inl (cJ, 9504, .inr (.inl now))), (aK, .inl (cI, 1056, .inl (fun i9 => nI (kd i9)))), (aO, .inl (cJ, 8, .inr (.inl outw)))] H := hP
    have hD : va_D A [(h0, .inr (0, [.ref aN, .ref aL, .ref aK, .ref aC, .int (nI ld), .ref aT, .int (nI tb), .ref aO, .int (nI ob), .int (bI off), .int wl, .long wd])), (aN, .inl (cJ, 9504, .inr (.inl now))), (aK, .inl (cI, 1056, .inl (fun i9 => nI (kd i9)))), (aO, .inl (cJ, 8, .inr (.inl outw)))] := hD
    refine W.widen (k := 1) (n := 6) (Nat.le_refl _) (Nat.le_refl _) ?_
    obtain rfl := hw
    refine lv_istore_n (lv' := [(3, .int (nI (di * 66 + ce))), (0, .ref h0), (1, .int (nI di)), (2, .int (nI ce))]) hx hb dX0_read_10 rfl hl (by decide) rfl (fun ls hl => ?_)
    refine lv_aload_n hx hb dX0_read_11 rfl (lv_at hl 1 rfl) ?_
    refine va_get (D := (dC, dI)) (ci := 0) (v := .ref aK) (C := RX0) (T := TX0) (N := 12) hx hb hts hi0 hown hK hP 0 rfl rfl 2 (by decide) (hts (.fieldLink RX0 16 "CellRack" "kinds" "[I") (by decide +kernel)) (fun _ h9 => h9) rfl dX0_read_12 ?_
    refine lv_iload_n hx hb dX0_read_15 rfl (lv_at hl 0 rfl) ?_
    refine zr_nald hx hb hK hP 2 1 rfl rfl (by omega) (by omega) dX0_read_16 ?_
    refine lv_iconst (v := nI 2) hx hb dX0_read_17 (by decide) ?_
    refine zr_icmp_ne (tgt := 25) hx hb (Nat.lt_trans (hk _) (by decide)) (by omega) dX0_read_18 (by decide) (fun c18 => ?_) (fun c18 => ?_)
    · refine lv_iconst (v := nI 0) hx hb dX0_read_25 (by decide) ?_
      refine lv_istore (lv' := [(4, .int (nI 0)), (3, .int (nI (di * 66 + ce))), (0, .ref h0), (1, .int (nI di)), (2, .int (nI ce))]) hx hb dX0_read_26 hl (by decide) rfl (fun ls hl => ?_)
      refine lv_iload hx hb dX0_read_28 (lv_at hl 0 rfl) ?_
      refine zr_ifn_eq (tgt := 51) hx hb (by omega) dX0_read_30 (by decide) (fun c30 => ?_) (fun c30 => absurd c30 (by decide))
      refine lv_aload_n hx hb dX0_read_51 rfl (lv_at hl 2 rfl) ?_
      refine lv_iload hx hb dX0_read_52 (lv_at hl 0 rfl) ?_
      refine zr_ifn_eq (tgt := 62) hx hb (by omega) dX0_read_54 (by decide) (fun c54 => ?_) (fun c54 => absurd c54 (by decide))
      refine lv_iconst (v := nI 0) hx hb dX0_read_62 (by decide) ?_
      refine va_put (D := (dC, dI)) (ci := 0) (v := .int (nI 0)) (ty := .int) (C := RX0) (T := TX0) (N := 12) hx hb hts hi0 tyX0 tyX0_ok nmX0 hown hK hP hD hS 0 rfl rfl 8 (by decide) (hts (.fieldLink RX0 42 "CellRack" "outBytes" "I") (by decide +kernel)) (fun _ h9 => h9) rfl (by decide +kernel) (rfl) (rfl) (Nat.le_of_ble_eq_true rfl) dX0_read_63 (fun H locs hP hD hS => ?_)
      have hP : va_P (dC, dI) vwCl [(h0, .inr (0, [.ref aN, .ref aL, .ref aK, .ref aC, .int (nI ld), .ref aT, .int (nI tb), .ref aO, .int (nI 0), .int (bI off), .int wl, .long wd])), (aN, .inl (cJ, 9504, .inr (.inl now))), (aK, .inl (cI, 1056, .inl (fun i9 => nI (kd i9)))), (aO, .inl (cJ, 8, .inr (.inl outw)))] H := hP
      have hD : va_D A [(h0, .inr (0, [.ref aN, .ref aL, .ref aK, .ref aC, .int (nI ld), .ref aT, .int (nI tb), .ref aO, .int (nI 0), .int (bI off), .int wl, .long wd])), (aN, .inl (cJ, 9504, .inr (.inl now))), (aK, .inl (cI, 1056, .inl (fun i9 => nI (kd i9)))), (aO, .inl (cJ, 8, .inr (.inl outw)))] := hD
      refine lv_iload hx hb dX0_read_66 (lv_at hl 0 rfl) ?_
      refine vx_ret ?_
      have hP9 := hP.sub (ws' := [(h0, .inr (0, [.ref aN, .ref aL, .ref aK, .ref aC, .int (nI ld), .ref aT, .int (nI tb), .ref aO, .int (nI 0), .int (bI off), .int wl, .long wd])), (aN, .inl (cJ, 9504, .inr (.inl now))), (aK, .inl (cI, 1056, .inl (fun i9 => nI (kd i9)))), (aO, .inl (cJ, 8, .inr (.inl outw)))]) [0, 1, 2, 3] rfl
      have hD9 := hD.sub (ws' := [(h0, .inr (0, [.ref aN, .ref aL, .ref aK, .ref aC, .int (nI ld), .ref aT, .int (nI tb), .ref aO, .int (nI 0), .int (bI off), .int wl, .long wd])), (aN, .inl (cJ, 9504, .inr (.inl now))), (aK, .inl (cI, 1056, .inl (fun i9 => nI (kd i9)))), (aO, .inl (cJ, 8, .inr (.inl outw)))]) [0, 1, 2, 3] (by decide) rfl
      exact W.zret (v := nI 0) hx hb hr (by decide) (fun t ht hW => ⟨⟨nI 0, (outw, 0), rfl, ⟨di, ce, hdi, hce9, rfl, rfl, Or.inr ⟨c18, rfl, rfl, rfl⟩⟩, by rw [ht]; exact hP9, va_K.moved hW.alike hK, hD9⟩, hS.F ht⟩) hS.2.2 dX0_read_68
    · refine lv_iconst (v := nI 1) hx hb dX0_read_21 (by decide) ?_
      refine lv_goto (tgt := 26) hx hb dX0_read_22 (by decide) ?_
      refine lv_istore (lv' := [(4, .int (nI 1)), (3, .int (nI (di * 66 + ce))), (0, .ref h0), (1, .int (nI di)), (2, .int (nI ce))]) hx hb dX0_read_26 hl (by decide) rfl (fun ls hl => ?_)
      refine lv_iload hx hb dX0_read_28 (lv_at hl 0 rfl) ?_
      refine zr_ifn_eq (tgt := 51) hx hb (by omega) dX0_read_30 (by decide) (fun c30 => absurd c30 (by decide)) (fun c30 => ?_)
      refine lv_aload_n hx hb dX0_read_33 rfl (lv_at hl 2 rfl) ?_
      refine va_get (D := (dC, dI)) (ci := 0) (v := .ref aN) (C := RX0) (T := TX0) (N := 12) hx hb hts hi0 hown hK hP 0 rfl rfl 0 (by decide) (hts (.fieldLink RX0 9 "CellRack" "now" "[J") (by decide +kernel)) (fun _ h9 => h9) rfl dX0_read_34 ?_
      refine lv_iload_n hx hb dX0_read_37 rfl (lv_at hl 1 rfl) ?_
      refine lv_bipush (v := nI 9) hx hb dX0_read_38 (by decide) ?_
      refine zr_imul hx hb dX0_read_40 ?_
      refine lv_aload_n hx hb dX0_read_41 rfl (lv_at hl 2 rfl) ?_
      refine va_get (D := (dC, dI)) (ci := 0) (v := .ref aO) (C := RX0) (T := TX0) (N := 12) hx hb hts hi0 hown hK hP 0 rfl rfl 7 (by decide) (hts (.fieldLink RX0 39 "CellRack" "out" "[J") (by decide +kernel)) (fun _ h9 => h9) rfl dX0_read_42 ?_
      refine lv_iconst (v := nI 0) hx hb dX0_read_45 (by decide) ?_
      refine lv_bipush (v := nI 8) hx hb dX0_read_46 (by decide) ?_
      refine zr_copyl hx hb (hml.trans hl.1.symm) hown (hts (.methodLink RX0 106 arraycopyName) (by decide +kernel)) (hts (.native arraycopyName) (by decide +kernel)) (hts (.static arraycopyName) (by decide +kernel)) (hts (.initialized "java/lang/System") (by decide +kernel)) hK hP hD hS 1 3 0 rfl rfl rfl (by omega) (by omega) (by decide) (by decide) (Nat.le_of_ble_eq_true rfl) (Nat.le_of_ble_eq_true rfl) dX0_read_48 (fun H locs hP hD hS => ?_)
      have hP : va_P (dC, dI) vwCl [(h0, .inr (0, [.ref aN, .ref aL, .ref aK, .ref aC, .int (nI ld), .ref aT, .int (nI tb), .ref aO, .int (nI ob), .int (bI off), .int wl, .long wd])), (aN, .inl (cJ, 9504, .inr (.inl now))), (aK, .inl (cI, 1056, .inl (fun i9 => nI (kd i9)))), (aO, .inl (cJ, 8, .inr (.inl (va_cpy now outw ((di * 66 + ce) * 9) 0 8))))] H := hP
      have hD : va_D A [(h0, .inr (0, [.ref aN, .ref aL, .ref aK, .ref aC, .int (nI ld), .ref aT, .int (nI tb), .ref aO, .int (nI ob), .int (bI off), .int wl, .long wd])), (aN, .inl (cJ, 9504, .inr (.inl now))), (aK, .inl (cI, 1056, .inl (fun i9 => nI (kd i9)))), (aO, .inl (cJ, 8, .inr (.inl (va_cpy now outw ((di * 66 + ce) * 9) 0 8))))] := hD
      refine lv_aload_n hx hb dX0_read_51 rfl (lv_at hl 2 rfl) ?_
      refine lv_iload hx hb dX0_read_52 (lv_at hl 0 rfl) ?_
      refine zr_ifn_eq (tgt := 62) hx hb (by omega) dX0_read_54 (by decide) (fun c54 => absurd c54 (by decide)) (fun c54 => ?_)
      refine lv_bipush (v := nI 64) hx hb dX0_read_57 (by decide) ?_
      refine lv_goto (tgt := 63) hx hb dX0_read_59 (by decide) ?_
      refine va_put (D := (dC, dI)) (ci := 0) (v := .int (nI 64)) (ty := .int) (C := RX0) (T := TX0) (N := 12) hx hb hts hi0 tyX0 tyX0_ok nmX0 hown hK hP hD hS 0 rfl rfl 8 (by decide) (hts (.fieldLink RX0 42 "CellRack" "outBytes" "I") (by decide +kernel)) (fun _ h9 => h9) rfl (by decide +kernel) (rfl) (rfl) (Nat.le_of_ble_eq_true rfl) dX0_read_63 (fun H locs hP hD hS => ?_)
      have hP : va_P (dC, dI) vwCl [(h0, .inr (0, [.ref aN, .ref aL, .ref aK, .ref aC, .int (nI ld), .ref aT, .int (nI tb), .ref aO, .int (nI 64), .int (bI off), .int wl, .long wd])), (aN, .inl (cJ, 9504, .inr (.inl now))), (aK, .inl (cI, 1056, .inl (fun i9 => nI (kd i9)))), (aO, .inl (cJ, 8, .inr (.inl (va_cpy now outw ((di * 66 + ce) * 9) 0 8))))] H := hP
      have hD : va_D A [(h0, .inr (0, [.ref aN, .ref aL, .ref aK, .ref aC, .int (nI ld), .ref aT, .int (nI tb), .ref aO, .int (nI 64), .int (bI off), .int wl, .long wd])), (aN, .inl (cJ, 9504, .inr (.inl now))), (aK, .inl (cI, 1056, .inl (fun i9 => nI (kd i9)))), (aO, .inl (cJ, 8, .inr (.inl (va_cpy now outw ((di * 66 + ce) * 9) 0 8))))] := hD
      refine lv_iload hx hb dX0_read_66 (lv_at hl 0 rfl) ?_
      refine vx_ret ?_
      have hP9 := hP.sub (ws' := [(h0, .inr (0, [.ref aN, .ref aL, .ref aK, .ref aC, .int (nI ld), .ref aT, .int (nI tb), .ref aO, .int (nI 64), .int (bI off), .int wl, .long wd])), (aN, .inl (cJ, 9504, .inr (.inl now))), (aK, .inl (cI, 1056, .inl (fun i9 => nI (kd i9)))), (aO, .inl (cJ, 8, .inr (.inl (va_cpy now outw ((di * 66 + ce) * 9) 0 8))))]) [0, 1, 2, 3] rfl
      have hD9 := hD.sub (ws' := [(h0, .inr (0, [.ref aN, .ref aL, .ref aK, .ref aC, .int (nI ld), .ref aT, .int (nI tb), .ref aO, .int (nI 64), .int (bI off), .int wl, .long wd])), (aN, .inl (cJ, 9504, .inr (.inl now))), (aK, .inl (cI, 1056, .inl (fun i9 => nI (kd i9)))), (aO, .inl (cJ, 8, .inr (.inl (va_cpy now outw ((di * 66 + ce) * 9) 0 8))))]) [0, 1, 2, 3] (by decide) rfl
      exact W.zret (v := nI 1) hx hb hr (by decide) (fun t ht hW => ⟨⟨nI 1, (va_cpy now outw ((di * 66 + ce) * 9) 0 8, 64), rfl, ⟨di, ce, hdi, hce9, rfl, rfl, Or.inl ⟨c18, rfl, rfl, rfl⟩⟩, by rw [ht]; exact hP9, va_K.moved hW.alike hK, hD9⟩, hS.F ht⟩) hS.2.2 dX0_read_68
set_option maxHeartbeats 4000000 in
set_option maxRecDepth 100000 in
theorem c_X0_fail (l : Launch) (hl9 : l.stackTraces = false) (dC : Nat → ClassId) (dI : Nat → Nat → Nat) (sz : Nat) (h0 aN aL aK aC aT aO : Nat) (ld tb ob : Nat) (off : Bool) (wl : Int32) (wd : Int64) (cI : ClassId) (kd cn : Nat → Nat) (x : Int32) (hk : kdOK kd) (hc : cnOK kd cn) (hld : ∀ di, di < 16 → ¬ kd (di * 66) = 0 → 1 ≤ ld) : vx_Met l yX0_fail wsX0_fail ({ frames := 7, cells := 1, slots := 6, locals := 102 }) (va_Pc [.ref h0, .int x] (fun U => U.heap.size = sz ∧ va_P (dC, dI) vwCl [(h0, .inr (0, [.ref aN, .ref aL, .ref aK, .ref aC, .int (nI ld), .ref aT, .int (nI tb), .ref aO, .int (nI ob), .int (bI off), .int wl, .long wd])), (aK, .inl (cI, 1056, .inl (fun i9 => nI (kd i9)))), (aC, .inl (cI, 4, .inl (fun i9 => nI (cn i9))))] U.heap ∧ va_K (dC, dI) vwCl [(cI, .int)] U ∧ va_D (fun _ => True) [(h0, .inr (0, [.ref aN, .ref aL, .ref aK, .ref aC, .int (nI ld), .ref aT, .int (nI tb), .ref aO, .int (nI ob), .int (bI off), .int wl, .long wd])), (aK, .inl (cI, 1056, .inl (fun i9 => nI (kd i9)))), (aC, .inl (cI, 4, .inl (fun i9 => nI (cn i9))))] ∧ xw U ∧ xz (va_A [(h0, .inr (0, [.ref aN, .ref aL, .ref aK, .ref aC, .int (nI ld), .ref aT, .int (nI tb), .ref aO, .int (nI ob), .int (bI off), .int wl, .long wd])), (aK, .inl (cI, 1056, .inl (fun i9 => nI (kd i9)))), (aC, .inl (cI, 4, .inl (fun i9 => nI (cn i9))))] sz) U U.heap)) (va_Qi (fun (r : Int32) (u : (Nat → Nat) × (Nat → Nat) × Nat) => match u with | (k2, c2, l2) => ∃ di : Nat, di < 16 ∧ x = nI di ∧ ((¬ kd (di * 66) = 0 ∧ r = bI true ∧ k2 = skK kd di 0 66 ∧ c2 = skN kd cn di 0 66 ∧ l2 = ld - 1) ∨ (kd (di * 66) = 0 ∧ r = bI false ∧ k2 = kd ∧ c2 = cn ∧ l2 = ld))) (fun (u : (Nat → Nat) × (Nat → Nat) × Nat) t => match u with | (k2, c2, l2) => va_P (dC, dI) vwCl [(h0, .inr (0, [.ref aN, .ref aL, .ref aK, .ref aC, .int (nI l2), .ref aT, .int (nI tb), .ref aO, .int (nI ob), .int (bI off), .int wl, .long wd])), (aK, .inl (cI, 1056, .inl (fun i9 => nI (k2 i9)))), (aC, .inl (cI, 4, .inl (fun i9 => nI (c2 i9))))] t.heap ∧ va_K (dC, dI) vwCl [(cI, .int)] t ∧ va_D (va_A [(h0, .inr (0, [.ref aN, .ref aL, .ref aK, .ref aC, .int (nI ld), .ref aT, .int (nI tb), .ref aO, .int (nI ob), .int (bI off), .int wl, .long wd])), (aK, .inl (cI, 1056, .inl (fun i9 => nI (kd i9)))), (aC, .inl (cI, 4, .inl (fun i9 => nI (cn i9))))] sz) [(h0, .inr (0, [.ref aN, .ref aL, .ref aK, .ref aC, .int (nI l2), .ref aT, .int (nI tb), .ref aO, .int (nI ob), .int (bI off), .int wl, .long wd])), (aK, .inl (cI, 1056, .inl (fun i9 => nI (k2 i9)))), (aC, .inl (cI, 4, .inl (fun i9 => nI (c2 i9))))]) (va_A [(h0, .inr (0, [.ref aN, .ref aL, .ref aK, .ref aC, .int (nI ld), .ref aT, .int (nI tb), .ref aO, .int (nI ob), .int (bI off), .int wl, .long wd])), (aK, .inl (cI, 1056, .inl (fun i9 => nI (kd i9)))), (aC, .inl (cI, 4, .inl (fun i9 => nI (cn i9))))] sz)) (vx_X (fun (_ : Unit) => True) (fun E (_ : Unit) t => (E = "java/lang/IllegalArgumentException" ∧ okI x 16 = false) ∧ va_P (dC, dI) vwCl [(h0, .inr (0, [.ref aN, .ref aL, .ref aK, .ref aC, .int (nI ld), .ref aT, .int (nI tb), .ref aO, .int (nI ob), .int (bI off), .int wl, .long wd])), (aK, .inl (cI, 1056, .inl (fun i9 => nI (kd i9)))), (aC, .inl (cI, 4, .inl (fun i9 => nI (cn i9))))] t.heap ∧ va_K (dC, dI) vwCl [(cI, .int)] t ∧ va_D (va_A [(h0, .inr (0, [.ref aN, .ref aL, .ref aK, .ref aC, .int (nI ld), .ref aT, .int (nI tb), .ref aO, .int (nI ob), .int (bI off), .int wl, .long wd])), (aK, .inl (cI, 1056, .inl (fun i9 => nI (kd i9)))), (aC, .inl (cI, 4, .inl (fun i9 => nI (cn i9))))] sz) [(h0, .inr (0, [.ref aN, .ref aL, .ref aK, .ref aC, .int (nI ld), .ref aT, .int (nI tb), .ref aO, .int (nI ob), .int (bI off), .int wl, .long wd])), (aK, .inl (cI, 1056, .inl (fun i9 => nI (kd i9)))), (aC, .inl (cI, 4, .inl (fun i9 => nI (cn i9))))]) (va_A [(h0, .inr (0, [.ref aN, .ref aL, .ref aK, .ref aC, .int (nI ld), .ref aT, .int (nI tb), .ref aO, .int (nI ob), .int (bI off), .int wl, .long wd])), (aK, .inl (cI, 1056, .inl (fun i9 => nI (kd i9)))), (aC, .inl (cI, 4, .inl (fun i9 => nI (cn i9))))] sz)) 1 6 (va_A [(h0, .inr (0, [.ref aN, .ref aL, .ref aK, .ref aC, .int (nI ld), .ref aT, .int (nI tb), .ref aO, .int (nI ob), .int (bI off), .int wl, .long wd])), (aK, .inl (cI, 1056, .inl (fun i9 => nI (kd i9)))), (aC, .inl (cI, 4, .inl (fun i9 => nI (cn i9))))] sz) := by
  refine vx_ofW (cc := cX0_fail) (maxL := 2) (ret := some .boolean) (by decide) rfl ?_
  intro p e s m args below meth c s₁ B hml hno hv
  obtain ⟨rfl, hsz, hP, hK, hD0, hxw, hxz⟩ := hv
  have hx := B.exec
  have hb := B.bytes
  have hr := B.returns
  have hts := atoms_spec (ws := wsX0_fail) B.pre
  have hown : s.vm.findClass RX0 = some m.cls := findClass_of_methodNamed B.named
  have hlocks := B.notSynchronized
  subst hsz
  have hD := hD0.self (sz := s.heap.size)
  generalize hAe : va_A [(h0, .inr (0, [.ref aN, .ref aL, .ref aK, .ref aC, .int (nI ld), .ref aT, .int (nI tb), .ref aO, .int (nI ob), .int (bI off), .int wl, .long wd])), (aK, .inl (cI, 1056, .inl (fun i9 => nI (kd i9)))), (aC, .inl (cI, 4, .inl (fun i9 => nI (cn i9))))] s.heap.size = A at hD hxz ⊢
  have hA : ∀ q : Nat, s.heap.size ≤ q → A q := fun q h => by rw [← hAe]; exact Or.inr h
  generalize hH : s.heap = H at hP ⊢
  have hS : va_S A s.heap H [] := by rw [hH]; exact va_S.rf
  have hP : va_P (dC, dI) vwCl [(h0, .inr (0, [.ref aN, .ref aL, .ref aK, .ref aC, .int (nI ld), .ref aT, .int (nI tb), .ref aO, .int (nI ob), .int (bI off), .int wl, .long wd])), (aK, .inl (cI, 1056, .inl (fun i9 => nI (kd i9)))), (aC, .inl (cI, 4, .inl (fun i9 => nI (cn i9))))] H := hP
  have hl := lv_entry ([.ref h0, .int x]) (n := 2) (Nat.le_of_ble_eq_true rfl)
  rw [lg_entry_eq]
  generalize (lg_sl ([.ref h0, .int x]) ++ List.replicate (2 - (lg_sl ([.ref h0, .int x])).length) Slot.unset).toArray = ls at hl ⊢
  have hl : lv_has ls 2 [(0, .ref h0), (1, .int x)] := hl
  have hi0 : ∀ w ∈ u_ws RX0 TX0 12, w ∈ wsX0_fail := by decide +kernel
  refine lv_iload_n hx hb dX0_fail_0 rfl (lv_at hl 1 rfl) ?_
  have hPc := hP.sub (ws' := []) [] rfl
  have hDc := hD.sub (ws' := []) [] (by decide) rfl
  have hKc := hK.sub (tys' := []) [] rfl
  have hFc := va_free (wc := []) hD hS hA [] rfl
  refine vx_callv (vx_runS (As := [.int x]) (rest := []) ⟨hx, hb, hml, hown, hts⟩ (c_X0_needDisk l hl9 dC dI H.size x) (va_cwS 1 hts gX0_fail_X0_needDisk rfl rfl rfl (by decide +kernel) ⟨Nat.le_of_ble_eq_true rfl, Nat.le_of_ble_eq_true rfl⟩) ⟨fun a U g mk q => by obtain ⟨q0, q1, qP, qK, qD, qw, qz⟩ := q; exact ⟨q0, q1, qP, va_K.moved (u := U) (U := U.calling g mk a) (Vm.Alike.refl U.vm) qK, qD, xw.same (u := U) rfl qw, xz.moved (u := U) (U := U.calling g mk a) (Vm.Alike.refl U.vm) qz⟩, fun U hU hW => ⟨rfl, by rw [hU], by rw [hU]; exact hPc, va_K.moved hW.alike hKc, hDc.weaken (fun _ _ _ _ => trivial), xw.warm hW hxw, xz.go hxz hS hW.alike hU hFc⟩⟩ rfl rfl hl.1 rfl (lv_room (Nat.le_of_ble_eq_true rfl)) dX0_fail_1 ⟨Nat.le_of_ble_eq_true rfl, Nat.le_of_ble_eq_true rfl⟩) hS (fun q _ h => hFc q h) hFc (fun q _ h => hFc q h) (fun E ce q9 u t H1 locs ht hvm _hu hB hz1 hk1 hS hce hcv hcl => ?_) (fun u t H1 locs ht hvm hw hB hz1 hk1 hS => ?_)
  · obtain ⟨hxp, hP1, hK1, hD1⟩ := hB
    rw [ht] at hP1
    obtain ⟨hP, hD⟩ := va_join (wr := [(h0, .inr (0, [.ref aN, .ref aL, .ref aK, .ref aC, .int (nI ld), .ref aT, .int (nI tb), .ref aO, .int (nI ob), .int (bI off), .int wl, .long wd])), (aK, .inl (cI, 1056, .inl (fun i9 => nI (kd i9)))), (aC, .inl (cI, 4, .inl (fun i9 => nI (cn i9))))]) (w1 := []) hP hD [] [0, 1, 2] rfl rfl (by decide) (by decide) hk1 hFc hP1 hD1
    clear hP1 hD1 hK1 hPc hDc hKc hFc hk1 hz1 hvm ht
    generalize H1 = H at hP hS hce ⊢
    have hP : va_P (dC, dI) vwCl [(h0, .inr (0, [.ref aN, .ref aL, .ref aK, .ref aC, .int (nI ld), .ref aT, .int (nI tb), .ref aO, .int (nI ob), .int (bI off), .int wl, .long wd])), (aK, .inl (cI, 1056, .inl (fun i9 => nI (kd i9)))), (aC, .inl (cI, 4, .inl (fun i9 => nI (cn i9))))] H := hP
    have hD : va_D A [(h0, .inr (0, [.ref aN, .ref aL, .ref aK, .ref aC, .int (nI ld), .ref aT, .int (nI tb), .ref aO, .int (nI ob), .int (bI off), .int wl, .long wd])), (aK, .inl (cI, 1056, .inl (fun i9 => nI (kd i9)))), (aC, .inl (cI, 4, .inl (fun i9 => nI (cn i9))))] := hD
    refine vx_widen (k := 1) (n := 6) (Nat.le_refl _) (Nat.le_refl _) ?_
    have hP9 := hP.sub (ws' := [(h0, .inr (0, [.ref aN, .ref aL, .ref aK, .ref aC, .int (nI ld), .ref aT, .int (nI tb), .ref aO, .int (nI ob), .int (bI off), .int wl, .long wd])), (aK, .inl (cI, 1056, .inl (fun i9 => nI (kd i9)))), (aC, .inl (cI, 4, .inl (fun i9 => nI (cn i9))))]) [0, 1, 2] rfl
    have hD9 := hD.sub (ws' := [(h0, .inr (0, [.ref aN, .ref aL, .ref aK, .ref aC, .int (nI ld), .ref aT, .int (nI tb), .ref aO, .int (nI ob), .int (bI off), .int wl, .long wd])), (aK, .inl (cI, 1056, .inl (fun i9 => nI (kd i9)))), (aC, .inl (cI, 4, .inl (fun i9 => nI (cn i9))))]) [0, 1, 2] (by decide) rfl
    exact vx_out (fun x hx => (hno x hx).elim) hlocks hce hcv hcl (fun t ht ha => ⟨(), trivial, ⟨hxp, by rw [ht]; exact hP9, va_K.moved ha hK, hD9⟩, hS.F ht⟩) hS.2.2 (Nat.le_of_ble_eq_true rfl) (Nat.le_of_ble_eq_true rfl)
  · obtain ⟨hP1, hK1, hD1⟩ := hB
    rw [ht] at hP1
    obtain ⟨hP, hD⟩ := va_join (wr := [(h0, .inr (0, [.ref aN, .ref aL, .ref aK, .ref aC, .int (nI ld), .ref aT, .int (nI tb), .ref aO, .int (nI ob), .int (bI off), .int wl, .long wd])), (aK, .inl (cI, 1056, .inl (fun i9 => nI (kd i9)))), (aC, .inl (cI, 4, .inl (fun i9 => nI (cn i9))))]) (w1 := []) hP hD [] [0, 1, 2] rfl rfl (by decide) (by decide) hk1 hFc hP1 hD1
    clear hP1 hD1 hK1 hPc hDc hKc hFc hk1 hz1 hvm ht
    generalize H1 = H at hP hS ⊢
    have hP : va_P (dC, dI) vwCl [(h0, .inr (0, [.ref aN, .ref aL, .ref aK, .ref aC, .int (nI ld), .ref aT, .int (nI tb), .ref aO, .int (nI ob), .int (bI off), .int wl, .long wd])), (aK, .inl (cI, 1056, .inl (fun i9 => nI (kd i9)))), (aC, .inl (cI, 4, .inl (fun i9 => nI (cn i9))))] H := hP
    have hD : va_D A [(h0, .inr (0, [.ref aN, .ref aL, .ref aK, .ref aC, .int (nI ld), .ref aT, .int (nI tb), .ref aO, .int (nI ob), .int (bI off), .int wl, .long wd])), (aK, .inl (cI, 1056, .inl (fun i9 => nI (kd i9)))), (aC, .inl (cI, 4, .inl (fun i9 => nI (cn i9))))] := hD
    refine W.widen (k := 1) (n := 6) (Nat.le_refl _) (Nat.le_refl _) ?_
    have hdisk := hw
    obtain ⟨di, hdi, rfl⟩ := okI_get (by decide) hdisk
    refine lv_aload_n hx hb dX0_fail_4 rfl (lv_at hl 0 rfl) ?_
    refine lv_iload_n hx hb dX0_fail_5 rfl (lv_at hl 1 rfl) ?_
    have hPc := hP.sub (ws' := [(h0, .inr (0, [.ref aN, .ref aL, .ref aK, .ref aC, .int (nI ld), .ref aT, .int (nI tb), .ref aO, .int (nI ob), .int (bI off), .int wl, .long wd])), (aK, .inl (cI, 1056, .inl (fun i9 => nI (kd i9))))]) [0, 1] rfl
    have hDc := hD.sub (ws' := [(h0, .inr (0, [.ref aN, .ref aL, .ref aK, .ref aC, .int (nI ld), .ref aT, .int (nI tb), .ref aO, .int (nI ob), .int (bI off), .int wl, .long wd])), (aK, .inl (cI, 1056, .inl (fun i9 => nI (kd i9))))]) [0, 1] (by decide) rfl
    have hKc := hK.sub (tys' := [(cI, .int)]) [0] rfl
    have hFc := va_free (wc := [(h0, .inr (0, [.ref aN, .ref aL, .ref aK, .ref aC, .int (nI ld), .ref aT, .int (nI tb), .ref aO, .int (nI ob), .int (bI off), .int wl, .long wd])), (aK, .inl (cI, 1056, .inl (fun i9 => nI (kd i9))))]) hD hS hA [0, 1] rfl
    refine va_calli (va_runV (As := [.int (nI di)]) (rest := []) ⟨hx, hb, hml, hown, hts⟩ (c_X0_isLive l dC dI H.size h0 aN aL aK aC aT aO ld tb ob off wl wd cI kd di hdi hk) (cwV 1 hts gX0_fail_X0_isLive rfl rfl rfl (by decide +kernel) ⟨Nat.le_of_ble_eq_true rfl, Nat.le_of_ble_eq_true rfl⟩) ⟨fun a U g mk q => by obtain ⟨q0, q1, qP, qK, qD⟩ := q; exact ⟨q0, q1, qP, va_K.moved (u := U) (U := U.calling g mk a) (Vm.Alike.refl U.vm) qK, qD⟩, va_recv hKc hPc (ci := 0) (q0 := 0) rfl rfl, fun U hU hW => ⟨rfl, by rw [hU], by rw [hU]; exact hPc, va_K.moved hW.alike hKc, hDc.weaken (fun _ _ _ _ => trivial)⟩⟩ rfl rfl hl.1 rfl (lv_room (Nat.le_of_ble_eq_true rfl)) dX0_fail_6 ⟨Nat.le_of_ble_eq_true rfl, Nat.le_of_ble_eq_true rfl⟩) hS (fun q _ h => hFc q h) hFc (fun r_2 u t H1 locs ht hvm hw hB hz1 hk1 hS => ?_)
    obtain ⟨hP1, hK1, hD1⟩ := hB
    rw [ht] at hP1
    obtain ⟨hP, hD⟩ := va_join (wr := [(aC, .inl (cI, 4, .inl (fun i9 => nI (cn i9))))]) (w1 := [(h0, .inr (0, [.ref aN, .ref aL, .ref aK, .ref aC, .int (nI ld), .ref aT, .int (nI tb), .ref aO, .int (nI ob), .int (bI off), .int wl, .long wd])), (aK, .inl (cI, 1056, .inl (fun i9 => nI (kd i9))))]) hP hD [0, 1] [2] rfl rfl (by decide) (by decide) hk1 hFc hP1 hD1
    clear hP1 hD1 hK1 hPc hDc hKc hFc hk1 hz1 hvm ht
    generalize H1 = H at hP hS ⊢
    have hP : va_P (dC, dI) vwCl [(aC, .inl (cI, 4, .inl (fun i9 => nI (cn i9)))), (h0, .inr (0, [.ref aN, .ref aL, .ref aK, .ref aC, .int (nI ld), .ref aT, .int (nI tb), .ref aO, .int (nI ob), .int (bI off), .int wl, .long wd])), (aK, .inl (cI, 1056, .inl (fun i9 => nI (kd i9))))] H := hP
    have hD : va_D A [(aC, .inl (cI, 4, .inl (fun i9 => nI (cn i9)))), (h0, .inr (0, [.ref aN, .ref aL, .ref aK, .ref aC, .int (nI ld), .ref aT, .int (nI tb), .ref aO, .int (nI ob), .int (bI off), .int wl, .long wd])), (aK, .inl (cI, 1056, .inl (fun i9 => nI (kd i9))))] := hD
    refine W.widen (k := 1) (n := 6) (Nat.le_refl _) (Nat.le_refl _) ?_
    obtain rfl := hw
    refine zr_ifb_ne (tgt := 14) hx hb dX0_fail_9 (by decide) (fun c9 => ?_) (fun c9 => ?_)
    · have q9 : ¬ kd (di * 66) = 0 := by simpa using c9
      have q8 := hld di hdi q9
      refine lv_aload_n hx hb dX0_fail_14 rfl (lv_at hl 0 rfl) ?_
      refine lv_iload_n hx hb dX0_fail_15 rfl (lv_at hl 1 rfl) ?_
      refine lv_iconst (v := nI 0) hx hb dX0_fail_16 (by decide) ?_
      have hPc := hP.sub (ws' := [(h0, .inr (0, [.ref aN, .ref aL, .ref aK, .ref aC, .int (nI ld), .ref aT, .int (nI tb), .ref aO, .int (nI ob), .int (bI off), .int wl, .long wd])), (aK, .inl (cI, 1056, .inl (fun i9 => nI (kd i9)))), (aC, .inl (cI, 4, .inl (fun i9 => nI (cn i9))))]) [1, 2, 0] rfl
      have hDc := hD.sub (ws' := [(h0, .inr (0, [.ref aN, .ref aL, .ref aK, .ref aC, .int (nI ld), .ref aT, .int (nI tb), .ref aO, .int (nI ob), .int (bI off), .int wl, .long wd])), (aK, .inl (cI, 1056, .inl (fun i9 => nI (kd i9)))), (aC, .inl (cI, 4, .inl (fun i9 => nI (cn i9))))]) [1, 2, 0] (by decide) rfl
      have hKc := hK.sub (tys' := [(cI, .int)]) [0] rfl
      have hFc := va_free (wc := [(h0, .inr (0, [.ref aN, .ref aL, .ref aK, .ref aC, .int (nI ld), .ref aT, .int (nI tb), .ref aO, .int (nI ob), .int (bI off), .int wl, .long wd])), (aK, .inl (cI, 1056, .inl (fun i9 => nI (kd i9)))), (aC, .inl (cI, 4, .inl (fun i9 => nI (cn i9))))]) hD hS hA [1, 2, 0] rfl
      refine va_callv (va_runV (As := [.int (nI di), .int (nI 0)]) (rest := []) ⟨hx, hb, hml, hown, hts⟩ (c_X0_setKindOfAll l dC dI H.size h0 aN aL aK aC aT aO ld tb ob off wl wd cI kd cn di 0 hdi (by decide) hk hc) (cwV 2 hts gX0_fail_X0_setKindOfAll rfl rfl rfl (by decide +kernel) ⟨Nat.le_of_ble_eq_true rfl, Nat.le_of_ble_eq_true rfl⟩) ⟨fun a U g mk q => by obtain ⟨q0, q1, qP, qK, qD⟩ := q; exact ⟨q0, q1, qP, va_K.moved (u := U) (U := U.calling g mk a) (Vm.Alike.refl U.vm) qK, qD⟩, va_recv hKc hPc (ci := 0) (q0 := 0) rfl rfl, fun U hU hW => ⟨rfl, by rw [hU], by rw [hU]; exact hPc, va_K.moved hW.alike hKc, hDc.weaken (fun _ _ _ _ => trivial)⟩⟩ rfl rfl hl.1 rfl (lv_room (Nat.le_of_ble_eq_true rfl)) dX0_fail_17 ⟨Nat.le_of_ble_eq_true rfl, Nat.le_of_ble_eq_true rfl⟩) hS (fun q _ h => hFc q h) hFc (fun u t H1 locs ht hvm hw hB hz1 hk1 hS => ?_)
      obtain ⟨hP1, hK1, hD1⟩ := hB
      rw [ht] at hP1
      obtain ⟨hP, hD⟩ := va_join (wr := []) (w1 := [(h0, .inr (0, [.ref aN, .ref aL, .ref aK, .ref aC, .int (nI ld), .ref aT, .int (nI tb), .ref aO, .int (nI ob), .int (bI off), .int wl, .long wd])), (aK, .inl (cI, 1056, .inl (fun i9 => nI ((skK kd di 0 66) i9)))), (aC, .inl (cI, 4, .inl (fun i9 => nI ((skN kd cn di 0 66) i9))))]) hP hD [1, 2, 0] [] rfl rfl (by decide) (by decide) hk1 hFc hP1 hD1
      clear hP1 hD1 hK1 hPc hDc hKc hFc hk1 hz1 hvm ht
      generalize H1 = H at hP hS ⊢
      have hP : va_P (dC, dI) vwCl [(h0, .inr (0, [.ref aN, .ref aL, .ref aK, .ref aC, .int (nI ld), .ref aT, .int (nI tb), .ref aO, .int (nI ob), .int (bI off), .int wl, .long wd])), (aK, .inl (cI, 1056, .inl (fun i9 => nI ((skK kd di 0 66) i9)))), (aC, .inl (cI, 4, .inl (fun i9 => nI ((skN kd cn di 0 66) i9))))] H := hP
      have hD : va_D A [(h0, .inr (0, [.ref aN, .ref aL, .ref aK, .ref aC, .int (nI ld), .ref aT, .int (nI tb), .ref aO, .int (nI ob), .int (bI off), .int wl, .long wd])), (aK, .inl (cI, 1056, .inl (fun i9 => nI ((skK kd di 0 66) i9)))), (aC, .inl (cI, 4, .inl (fun i9 => nI ((skN kd cn di 0 66) i9))))] := hD
      refine W.widen (k := 1) (n := 6) (Nat.le_refl _) (Nat.le_refl _) ?_
      refine lv_aload_n hx hb dX0_fail_20 rfl (lv_at hl 0 rfl) ?_
      refine lv_dup hx hb dX0_fail_21 rfl ?_
      refine va_get (D := (dC, dI)) (ci := 0) (v := .int (nI ld)) (C := RX0) (T := TX0) (N := 12) hx hb hts hi0 hown hK hP 0 rfl rfl 4 (by decide) (hts (.fieldLink RX0 29 "CellRack" "liveDisks" "I") (by decide +kernel)) (fun _ h9 => h9) rfl dX0_fail_22 ?_
      refine lv_iconst (v := nI 1) hx hb dX0_fail_25 (by decide) ?_
      refine zr_isub hx hb (by omega) dX0_fail_26 ?_
      refine va_put (D := (dC, dI)) (ci := 0) (v := .int (nI (ld - 1))) (ty := .int) (C := RX0) (T := TX0) (N := 12) hx hb hts hi0 tyX0 tyX0_ok nmX0 hown hK hP hD hS 0 rfl rfl 4 (by decide) (hts (.fieldLink RX0 29 "CellRack" "liveDisks" "I") (by decide +kernel)) (fun _ h9 => h9) rfl (by decide +kernel) (rfl) (rfl) (Nat.le_of_ble_eq_true rfl) dX0_fail_27 (fun H locs hP hD hS => ?_)
      have hP : va_P (dC, dI) vwCl [(h0, .inr (0, [.ref aN, .ref aL, .ref aK, .ref aC, .int (nI (ld - 1)), .ref aT, .int (nI tb), .ref aO, .int (nI ob), .int (bI off), .int wl, .long wd])), (aK, .inl (cI, 1056, .inl (fun i9 => nI ((skK kd di 0 66) i9)))), (aC, .inl (cI, 4, .inl (fun i9 => nI ((skN kd cn di 0 66) i9))))] H := hP
      have hD : va_D A [(h0, .inr (0, [.ref aN, .ref aL, .ref aK, .ref aC, .int (nI (ld - 1)), .ref aT, .int (nI tb), .ref aO, .int (nI ob), .int (bI off), .int wl, .long wd])), (aK, .inl (cI, 1056, .inl (fun i9 => nI ((skK kd di 0 66) i9)))), (aC, .inl (cI, 4, .inl (fun i9 => nI ((skN kd cn di 0 66) i9))))] := hD
      refine lv_iconst (v := nI 1) hx hb dX0_fail_30 (by decide) ?_
      refine vx_ret ?_
      have hP9 := hP.sub (ws' := [(h0, .inr (0, [.ref aN, .ref aL, .ref aK, .ref aC, .int (nI (ld - 1)), .ref aT, .int (nI tb), .ref aO, .int (nI ob), .int (bI off), .int wl, .long wd])), (aK, .inl (cI, 1056, .inl (fun i9 => nI ((skK kd di 0 66) i9)))), (aC, .inl (cI, 4, .inl (fun i9 => nI ((skN kd cn di 0 66) i9))))]) [0, 1, 2] rfl
      have hD9 := hD.sub (ws' := [(h0, .inr (0, [.ref aN, .ref aL, .ref aK, .ref aC, .int (nI (ld - 1)), .ref aT, .int (nI tb), .ref aO, .int (nI ob), .int (bI off), .int wl, .long wd])), (aK, .inl (cI, 1056, .inl (fun i9 => nI ((skK kd di 0 66) i9)))), (aC, .inl (cI, 4, .inl (fun i9 => nI ((skN kd cn di 0 66) i9))))]) [0, 1, 2] (by decide) rfl
      exact W.zret (v := nI 1) hx hb hr (by decide) (fun t ht hW => ⟨⟨nI 1, (skK kd di 0 66, skN kd cn di 0 66, ld - 1), rfl, ⟨di, hdi, rfl, Or.inl ⟨q9, rfl, rfl, rfl, rfl⟩⟩, by rw [ht]; exact hP9, va_K.moved hW.alike hK, hD9⟩, hS.F ht⟩) hS.2.2 dX0_fail_31
    · have q9 : kd (di * 66) = 0 := by simpa using c9
      refine lv_iconst (v := nI 0) hx hb dX0_fail_12 (by decide) ?_
      refine vx_ret ?_
      have hP9 := hP.sub (ws' := [(h0, .inr (0, [.ref aN, .ref aL, .ref aK, .ref aC, .int (nI ld), .ref aT, .int (nI tb), .ref aO, .int (nI ob), .int (bI off), .int wl, .long wd])), (aK, .inl (cI, 1056, .inl (fun i9 => nI (kd i9)))), (aC, .inl (cI, 4, .inl (fun i9 => nI (cn i9))))]) [1, 2, 0] rfl
      have hD9 := hD.sub (ws' := [(h0, .inr (0, [.ref aN, .ref aL, .ref aK, .ref aC, .int (nI ld), .ref aT, .int (nI tb), .ref aO, .int (nI ob), .int (bI off), .int wl, .long wd])), (aK, .inl (cI, 1056, .inl (fun i9 => nI (kd i9)))), (aC, .inl (cI, 4, .inl (fun i9 => nI (cn i9))))]) [1, 2, 0] (by decide) rfl
      exact W.zret (v := nI 0) hx hb hr (by decide) (fun t ht hW => ⟨⟨nI 0, (kd, cn, ld), rfl, ⟨di, hdi, rfl, Or.inr ⟨q9, rfl, rfl, rfl, rfl⟩⟩, by rw [ht]; exact hP9, va_K.moved hW.alike hK, hD9⟩, hS.F ht⟩) hS.2.2 dX0_fail_13
set_option maxHeartbeats 4000000 in
set_option maxRecDepth 100000 in
theorem c_X0_replace (l : Launch) (hl9 : l.stackTraces = false) (dC : Nat → ClassId) (dI : Nat → Nat → Nat) (sz : Nat) (h0 aN aL aK aC aT aO : Nat) (ld tb ob : Nat) (off : Bool) (wl : Int32) (wd : Int64) (cI : ClassId) (kd cn : Nat → Nat) (x : Int32) (hk : kdOK kd) (hc : cnOK kd cn) : vx_Met l yX0_replace wsX0_replace ({ frames := 7, cells := 1, slots := 6, locals := 102 }) (va_Pc [.ref h0, .int x] (fun U => U.heap.size = sz ∧ va_P (dC, dI) vwCl [(h0, .inr (0, [.ref aN, .ref aL, .ref aK, .ref aC, .int (nI ld), .ref aT, .int (nI tb), .ref aO, .int (nI ob), .int (bI off), .int wl, .long wd])), (aK, .inl (cI, 1056, .inl (fun i9 => nI (kd i9)))), (aC, .inl (cI, 4, .inl (fun i9 => nI (cn i9))))] U.heap ∧ va_K (dC, dI) vwCl [(cI, .int)] U ∧ va_D (fun _ => True) [(h0, .inr (0, [.ref aN, .ref aL, .ref aK, .ref aC, .int (nI ld), .ref aT, .int (nI tb), .ref aO, .int (nI ob), .int (bI off), .int wl, .long wd])), (aK, .inl (cI, 1056, .inl (fun i9 => nI (kd i9)))), (aC, .inl (cI, 4, .inl (fun i9 => nI (cn i9))))] ∧ xw U ∧ xz (va_A [(h0, .inr (0, [.ref aN, .ref aL, .ref aK, .ref aC, .int (nI ld), .ref aT, .int (nI tb), .ref aO, .int (nI ob), .int (bI off), .int wl, .long wd])), (aK, .inl (cI, 1056, .inl (fun i9 => nI (kd i9)))), (aC, .inl (cI, 4, .inl (fun i9 => nI (cn i9))))] sz) U U.heap)) (va_Qi (fun (r : Int32) (u : (Nat → Nat) × (Nat → Nat) × Nat) => match u with | (k2, c2, l2) => ∃ di : Nat, di < 16 ∧ x = nI di ∧ ((kd (di * 66) = 0 ∧ r = bI true ∧ k2 = skK kd di 1 66 ∧ c2 = skN kd cn di 1 66 ∧ l2 = ld + 1) ∨ (¬ kd (di * 66) = 0 ∧ r = bI false ∧ k2 = kd ∧ c2 = cn ∧ l2 = ld))) (fun (u : (Nat → Nat) × (Nat → Nat) × Nat) t => match u with | (k2, c2, l2) => va_P (dC, dI) vwCl [(h0, .inr (0, [.ref aN, .ref aL, .ref aK, .ref aC, .int (nI l2), .ref aT, .int (nI tb), .ref aO, .int (nI ob), .int (bI off), .int wl, .long wd])), (aK, .inl (cI, 1056, .inl (fun i9 => nI (k2 i9)))), (aC, .inl (cI, 4, .inl (fun i9 => nI (c2 i9))))] t.heap ∧ va_K (dC, dI) vwCl [(cI, .int)] t ∧ va_D (va_A [(h0, .inr (0, [.ref aN, .ref aL, .ref aK, .ref aC, .int (nI ld), .ref aT, .int (nI tb), .ref aO, .int (nI ob), .int (bI off), .int wl, .long wd])), (aK, .inl (cI, 1056, .inl (fun i9 => nI (kd i9)))), (aC, .inl (cI, 4, .inl (fun i9 => nI (cn i9))))] sz) [(h0, .inr (0, [.ref aN, .ref aL, .ref aK, .ref aC, .int (nI l2), .ref aT, .int (nI tb), .ref aO, .int (nI ob), .int (bI off), .int wl, .long wd])), (aK, .inl (cI, 1056, .inl (fun i9 => nI (k2 i9)))), (aC, .inl (cI, 4, .inl (fun i9 => nI (c2 i9))))]) (va_A [(h0, .inr (0, [.ref aN, .ref aL, .ref aK, .ref aC, .int (nI ld), .ref aT, .int (nI tb), .ref aO, .int (nI ob), .int (bI off), .int wl, .long wd])), (aK, .inl (cI, 1056, .inl (fun i9 => nI (kd i9)))), (aC, .inl (cI, 4, .inl (fun i9 => nI (cn i9))))] sz)) (vx_X (fun (_ : Unit) => True) (fun E (_ : Unit) t => (E = "java/lang/IllegalArgumentException" ∧ okI x 16 = false) ∧ va_P (dC, dI) vwCl [(h0, .inr (0, [.ref aN, .ref aL, .ref aK, .ref aC, .int (nI ld), .ref aT, .int (nI tb), .ref aO, .int (nI ob), .int (bI off), .int wl, .long wd])), (aK, .inl (cI, 1056, .inl (fun i9 => nI (kd i9)))), (aC, .inl (cI, 4, .inl (fun i9 => nI (cn i9))))] t.heap ∧ va_K (dC, dI) vwCl [(cI, .int)] t ∧ va_D (va_A [(h0, .inr (0, [.ref aN, .ref aL, .ref aK, .ref aC, .int (nI ld), .ref aT, .int (nI tb), .ref aO, .int (nI ob), .int (bI off), .int wl, .long wd])), (aK, .inl (cI, 1056, .inl (fun i9 => nI (kd i9)))), (aC, .inl (cI, 4, .inl (fun i9 => nI (cn i9))))] sz) [(h0, .inr (0, [.ref aN, .ref aL, .ref aK, .ref aC, .int (nI ld), .ref aT, .int (nI tb), .ref aO, .int (nI ob), .int (bI off), .int wl, .long wd])), (aK, .inl (cI, 1056, .inl (fun i9 => nI (kd i9)))), (aC, .inl (cI, 4, .inl (fun i9 => nI (cn i9))))]) (va_A [(h0, .inr (0, [.ref aN, .ref aL, .ref aK, .ref aC, .int (nI ld), .ref aT, .int (nI tb), .ref aO, .int (nI ob), .int (bI off), .int wl, .long wd])), (aK, .inl (cI, 1056, .inl (fun i9 => nI (kd i9)))), (aC, .inl (cI, 4, .inl (fun i9 => nI (cn i9))))] sz)) 1 6 (va_A [(h0, .inr (0, [.ref aN, .ref aL, .ref aK, .ref aC, .int (nI ld), .ref aT, .int (nI tb), .ref aO, .int (nI ob), .int (bI off), .int wl, .long wd])), (aK, .inl (cI, 1056, .inl (fun i9 => nI (kd i9)))), (aC, .inl (cI, 4, .inl (fun i9 => nI (cn i9))))] sz) := by
  refine vx_ofW (cc := cX0_replace) (maxL := 2) (ret := some .boolean) (by decide) rfl ?_
  intro p e s m args below meth c s₁ B hml hno hv
  obtain ⟨rfl, hsz, hP, hK, hD0, hxw, hxz⟩ := hv
  have hx := B.exec
  have hb := B.bytes
  have hr := B.returns
  have hts := atoms_spec (ws := wsX0_replace) B.pre
  have hown : s.vm.findClass RX0 = some m.cls := findClass_of_methodNamed B.named
  have hlocks := B.notSynchronized
  subst hsz
  have hD := hD0.self (sz := s.heap.size)
  generalize hAe : va_A [(h0, .inr (0, [.ref aN, .ref aL, .ref aK, .ref aC, .int (nI ld), .ref aT, .int (nI tb), .ref aO, .int (nI ob), .int (bI off), .int wl, .long wd])), (aK, .inl (cI, 1056, .inl (fun i9 => nI (kd i9)))), (aC, .inl (cI, 4, .inl (fun i9 => nI (cn i9))))] s.heap.size = A at hD hxz ⊢
  have hA : ∀ q : Nat, s.heap.size ≤ q → A q := fun q h => by rw [← hAe]; exact Or.inr h
  generalize hH : s.heap = H at hP ⊢
  have hS : va_S A s.heap H [] := by rw [hH]; exact va_S.rf
  have hP : va_P (dC, dI) vwCl [(h0, .inr (0, [.ref aN, .ref aL, .ref aK, .ref aC, .int (nI ld), .ref aT, .int (nI tb), .ref aO, .int (nI ob), .int (bI off), .int wl, .long wd])), (aK, .inl (cI, 1056, .inl (fun i9 => nI (kd i9)))), (aC, .inl (cI, 4, .inl (fun i9 => nI (cn i9))))] H := hP
  have hl := lv_entry ([.ref h0, .int x]) (n := 2) (Nat.le_of_ble_eq_true rfl)
  rw [lg_entry_eq]
  generalize (lg_sl ([.ref h0, .int x]) ++ List.replicate (2 - (lg_sl ([.ref h0, .int x])).length) Slot.unset).toArray = ls at hl ⊢
  have hl : lv_has ls 2 [(0, .ref h0), (1, .int x)] := hl
  have hi0 : ∀ w ∈ u_ws RX0 TX0 12, w ∈ wsX0_replace := by decide +kernel
  refine lv_iload_n hx hb dX0_replace_0 rfl (lv_at hl 1 rfl) ?_
  have hPc := hP.sub (ws' := []) [] rfl
  have hDc := hD.sub (ws' := []) [] (by decide) rfl
  have hKc := hK.sub (tys' := []) [] rfl
  have hFc := va_free (wc := []) hD hS hA [] rfl
  refine vx_callv (vx_runS (As := [.int x]) (rest := []) ⟨hx, hb, hml, hown, hts⟩ (c_X0_needDisk l hl9 dC dI H.size x) (va_cwS 1 hts gX0_replace_X0_needDisk rfl rfl rfl (by decide +kernel) ⟨Nat.le_of_ble_eq_true rfl, Nat.le_of_ble_eq_true rfl⟩) ⟨fun a U g mk q => by obtain ⟨q0, q1, qP, qK, qD, qw, qz⟩ := q; exact ⟨q0, q1, qP, va_K.moved (u := U) (U := U.calling g mk a) (Vm.Alike.refl U.vm) qK, qD, xw.same (u := U) rfl qw, xz.moved (u := U) (U := U.calling g mk a) (Vm.Alike.refl U.vm) qz⟩, fun U hU hW => ⟨rfl, by rw [hU], by rw [hU]; exact hPc, va_K.moved hW.alike hKc, hDc.weaken (fun _ _ _ _ => trivial), xw.warm hW hxw, xz.go hxz hS hW.alike hU hFc⟩⟩ rfl rfl hl.1 rfl (lv_room (Nat.le_of_ble_eq_true rfl)) dX0_replace_1 ⟨Nat.le_of_ble_eq_true rfl, Nat.le_of_ble_eq_true rfl⟩) hS (fun q _ h => hFc q h) hFc (fun q _ h => hFc q h) (fun E ce q9 u t H1 locs ht hvm _hu hB hz1 hk1 hS hce hcv hcl => ?_) (fun u t H1 locs ht hvm hw hB hz1 hk1 hS => ?_)
  · obtain ⟨hxp, hP1, hK1, hD1⟩ := hB
    rw [ht] at hP1
    obtain ⟨hP, hD⟩ := va_join (wr := [(h0, .inr (0, [.ref aN, .ref aL, .ref aK, .ref aC, .int (nI ld), .ref aT, .int (nI tb), .ref aO, .int (nI ob), .int (bI off), .int wl, .long wd])), (aK, .inl (cI, 1056, .inl (fun i9 => nI (kd i9)))), (aC, .inl (cI, 4, .inl (fun i9 => nI (cn i9))))]) (w1 := []) hP hD [] [0, 1, 2] rfl rfl (by decide) (by decide) hk1 hFc hP1 hD1
    clear hP1 hD1 hK1 hPc hDc hKc hFc hk1 hz1 hvm ht
    generalize H1 = H at hP hS hce ⊢
    have hP : va_P (dC, dI) vwCl [(h0, .inr (0, [.ref aN, .ref aL, .ref aK, .ref aC, .int (nI ld), .ref aT, .int (nI tb), .ref aO, .int (nI ob), .int (bI off), .int wl, .long wd])), (aK, .inl (cI, 1056, .inl (fun i9 => nI (kd i9)))), (aC, .inl (cI, 4, .inl (fun i9 => nI (cn i9))))] H := hP
    have hD : va_D A [(h0, .inr (0, [.ref aN, .ref aL, .ref aK, .ref aC, .int (nI ld), .ref aT, .int (nI tb), .ref aO, .int (nI ob), .int (bI off), .int wl, .long wd])), (aK, .inl (cI, 1056, .inl (fun i9 => nI (kd i9)))), (aC, .inl (cI, 4, .inl (fun i9 => nI (cn i9))))] := hD
    refine vx_widen (k := 1) (n := 6) (Nat.le_refl _) (Nat.le_refl _) ?_
    have hP9 := hP.sub (ws' := [(h0, .inr (0, [.ref aN, .ref aL, .ref aK, .ref aC, .int (nI ld), .ref aT, .int (nI tb), .ref aO, .int (nI ob), .int (bI off), .int wl, .long wd])), (aK, .inl (cI, 1056, .inl (fun i9 => nI (kd i9)))), (aC, .inl (cI, 4, .inl (fun i9 => nI (cn i9))))]) [0, 1, 2] rfl
    have hD9 := hD.sub (ws' := [(h0, .inr (0, [.ref aN, .ref aL, .ref aK, .ref aC, .int (nI ld), .ref aT, .int (nI tb), .ref aO, .int (nI ob), .int (bI off), .int wl, .long wd])), (aK, .inl (cI, 1056, .inl (fun i9 => nI (kd i9)))), (aC, .inl (cI, 4, .inl (fun i9 => nI (cn i9))))]) [0, 1, 2] (by decide) rfl
    exact vx_out (fun x hx => (hno x hx).elim) hlocks hce hcv hcl (fun t ht ha => ⟨(), trivial, ⟨hxp, by rw [ht]; exact hP9, va_K.moved ha hK, hD9⟩, hS.F ht⟩) hS.2.2 (Nat.le_of_ble_eq_true rfl) (Nat.le_of_ble_eq_true rfl)
  · obtain ⟨hP1, hK1, hD1⟩ := hB
    rw [ht] at hP1
    obtain ⟨hP, hD⟩ := va_join (wr := [(h0, .inr (0, [.ref aN, .ref aL, .ref aK, .ref aC, .int (nI ld), .ref aT, .int (nI tb), .ref aO, .int (nI ob), .int (bI off), .int wl, .long wd])), (aK, .inl (cI, 1056, .inl (fun i9 => nI (kd i9)))), (aC, .inl (cI, 4, .inl (fun i9 => nI (cn i9))))]) (w1 := []) hP hD [] [0, 1, 2] rfl rfl (by decide) (by decide) hk1 hFc hP1 hD1
    clear hP1 hD1 hK1 hPc hDc hKc hFc hk1 hz1 hvm ht
    generalize H1 = H at hP hS ⊢
    have hP : va_P (dC, dI) vwCl [(h0, .inr (0, [.ref aN, .ref aL, .ref aK, .ref aC, .int (nI ld), .ref aT, .int (nI tb), .ref aO, .int (nI ob), .int (bI off), .int wl, .long wd])), (aK, .inl (cI, 1056, .inl (fun i9 => nI (kd i9)))), (aC, .inl (cI, 4, .inl (fun i9 => nI (cn i9))))] H := hP
    have hD : va_D A [(h0, .inr (0, [.ref aN, .ref aL, .ref aK, .ref aC, .int (nI ld), .ref aT, .int (nI tb), .ref aO, .int (nI ob), .int (bI off), .int wl, .long wd])), (aK, .inl (cI, 1056, .inl (fun i9 => nI (kd i9)))), (aC, .inl (cI, 4, .inl (fun i9 => nI (cn i9))))] := hD
    refine W.widen (k := 1) (n := 6) (Nat.le_refl _) (Nat.le_refl _) ?_
    have hdisk := hw
    obtain ⟨di, hdi, rfl⟩ := okI_get (by decide) hdisk
    refine lv_aload_n hx hb dX0_replace_4 rfl (lv_at hl 0 rfl) ?_
    refine lv_iload_n hx hb dX0_replace_5 rfl (lv_at hl 1 rfl) ?_
    have hPc := hP.sub (ws' := [(h0, .inr (0, [.ref aN, .ref aL, .ref aK, .ref aC, .int (nI ld), .ref aT, .int (nI tb), .ref aO, .int (nI ob), .int (bI off), .int wl, .long wd])), (aK, .inl (cI, 1056, .inl (fun i9 => nI (kd i9))))]) [0, 1] rfl
    have hDc := hD.sub (ws' := [(h0, .inr (0, [.ref aN, .ref aL, .ref aK, .ref aC, .int (nI ld), .ref aT, .int (nI tb), .ref aO, .int (nI ob), .int (bI off), .int wl, .long wd])), (aK, .inl (cI, 1056, .inl (fun i9 => nI (kd i9))))]) [0, 1] (by decide) rfl
    have hKc := hK.sub (tys' := [(cI, .int)]) [0] rfl
    have hFc := va_free (wc := [(h0, .inr (0, [.ref aN, .ref aL, .ref aK, .ref aC, .int (nI ld), .ref aT, .int (nI tb), .ref aO, .int (nI ob), .int (bI off), .int wl, .long wd])), (aK, .inl (cI, 1056, .inl (fun i9 => nI (kd i9))))]) hD hS hA [0, 1] rfl
    refine va_calli (va_runV (As := [.int (nI di)]) (rest := []) ⟨hx, hb, hml, hown, hts⟩ (c_X0_isLive l dC dI H.size h0 aN aL aK aC aT aO ld tb ob off wl wd cI kd di hdi hk) (cwV 1 hts gX0_replace_X0_isLive rfl rfl rfl (by decide +kernel) ⟨Nat.le_of_ble_eq_true rfl, Nat.le_of_ble_eq_true rfl⟩) ⟨fun a U g mk q => by obtain ⟨q0, q1, qP, qK, qD⟩ := q; exact ⟨q0, q1, qP, va_K.moved (u := U) (U := U.calling g mk a) (Vm.Alike.refl U.vm) qK, qD⟩, va_recv hKc hPc (ci := 0) (q0 := 0) rfl rfl, fun U hU hW => ⟨rfl, by rw [hU], by rw [hU]; exact hPc, va_K.moved hW.alike hKc, hDc.weaken (fun _ _ _ _ => trivial)⟩⟩ rfl rfl hl.1 rfl (lv_room (Nat.le_of_ble_eq_true rfl)) dX0_replace_6 ⟨Nat.le_of_ble_eq_true rfl, Nat.le_of_ble_eq_true rfl⟩) hS (fun q _ h => hFc q h) hFc (fun r_2 u t H1 locs ht hvm hw hB hz1 hk1 hS => ?_)
    obtain ⟨hP1, hK1, hD1⟩ := hB
    rw [ht] at hP1
    obtain ⟨hP, hD⟩ := va_join (wr := [(aC, .inl (cI, 4, .inl (fun i9 => nI (cn i9))))]) (w1 := [(h0, .inr (0, [.ref aN, .ref aL, .ref aK, .ref aC, .int (nI ld), .ref aT, .int (nI tb), .ref aO, .int (nI ob), .int (bI off), .int wl, .long wd])), (aK, .inl (cI, 1056, .inl (fun i9 => nI (kd i9))))]) hP hD [0, 1] [2] rfl rfl (by decide) (by decide) hk1 hFc hP1 hD1
    clear hP1 hD1 hK1 hPc hDc hKc hFc hk1 hz1 hvm ht
    generalize H1 = H at hP hS ⊢
    have hP : va_P (dC, dI) vwCl [(aC, .inl (cI, 4, .inl (fun i9 => nI (cn i9)))), (h0, .inr (0, [.ref aN, .ref aL, .ref aK, .ref aC, .int (nI ld), .ref aT, .int (nI tb), .ref aO, .int (nI ob), .int (bI off), .int wl, .long wd])), (aK, .inl (cI, 1056, .inl (fun i9 => nI (kd i9))))] H := hP
    have hD : va_D A [(aC, .inl (cI, 4, .inl (fun i9 => nI (cn i9)))), (h0, .inr (0, [.ref aN, .ref aL, .ref aK, .ref aC, .int (nI ld), .ref aT, .int (nI tb), .ref aO, .int (nI ob), .int (bI off), .int wl, .long wd])), (aK, .inl (cI, 1056, .inl (fun i9 => nI (kd i9))))] := hD
    refine W.widen (k := 1) (n := 6) (Nat.le_refl _) (Nat.le_refl _) ?_
    obtain rfl := hw
    refine zr_ifb_eq (tgt := 14) hx hb dX0_replace_9 (by decide) (fun c9 => ?_) (fun c9 => ?_)
    · have q9 : kd (di * 66) = 0 := by simpa using c9
      refine lv_aload_n hx hb dX0_replace_14 rfl (lv_at hl 0 rfl) ?_
      refine lv_iload_n hx hb dX0_replace_15 rfl (lv_at hl 1 rfl) ?_
      refine lv_iconst (v := nI 1) hx hb dX0_replace_16 (by decide) ?_
      have hPc := hP.sub (ws' := [(h0, .inr (0, [.ref aN, .ref aL, .ref aK, .ref aC, .int (nI ld), .ref aT, .int (nI tb), .ref aO, .int (nI ob), .int (bI off), .int wl, .long wd])), (aK, .inl (cI, 1056, .inl (fun i9 => nI (kd i9)))), (aC, .inl (cI, 4, .inl (fun i9 => nI (cn i9))))]) [1, 2, 0] rfl
      have hDc := hD.sub (ws' := [(h0, .inr (0, [.ref aN, .ref aL, .ref aK, .ref aC, .int (nI ld), .ref aT, .int (nI tb), .ref aO, .int (nI ob), .int (bI off), .int wl, .long wd])), (aK, .inl (cI, 1056, .inl (fun i9 => nI (kd i9)))), (aC, .inl (cI, 4, .inl (fun i9 => nI (cn i9))))]) [1, 2, 0] (by decide) rfl
      have hKc := hK.sub (tys' := [(cI, .int)]) [0] rfl
      have hFc := va_free (wc := [(h0, .inr (0, [.ref aN, .ref aL, .ref aK, .ref aC, .int (nI ld), .ref aT, .int (nI tb), .ref aO, .int (nI ob), .int (bI off), .int wl, .long wd])), (aK, .inl (cI, 1056, .inl (fun i9 => nI (kd i9)))), (aC, .inl (cI, 4, .inl (fun i9 => nI (cn i9))))]) hD hS hA [1, 2, 0] rfl
      refine va_callv (va_runV (As := [.int (nI di), .int (nI 1)]) (rest := []) ⟨hx, hb, hml, hown, hts⟩ (c_X0_setKindOfAll l dC dI H.size h0 aN aL aK aC aT aO ld tb ob off wl wd cI kd cn di 1 hdi (by decide) hk hc) (cwV 2 hts gX0_replace_X0_setKindOfAll rfl rfl rfl (by decide +kernel) ⟨Nat.le_of_ble_eq_true rfl, Nat.le_of_ble_eq_true rfl⟩) ⟨fun a U g mk q => by obtain ⟨q0, q1, qP, qK, qD⟩ := q; exact ⟨q0, q1, qP, va_K.moved (u := U) (U := U.calling g mk a) (Vm.Alike.refl U.vm) qK, qD⟩, va_recv hKc hPc (ci := 0) (q0 := 0) rfl rfl, fun U hU hW => ⟨rfl, by rw [hU], by rw [hU]; exact hPc, va_K.moved hW.alike hKc, hDc.weaken (fun _ _ _ _ => trivial)⟩⟩ rfl rfl hl.1 rfl (lv_room (Nat.le_of_ble_eq_true rfl)) dX0_replace_17 ⟨Nat.le_of_ble_eq_true rfl, Nat.le_of_ble_eq_true rfl⟩) hS (fun q _ h => hFc q h) hFc (fun u t H1 locs ht hvm hw hB hz1 hk1 hS => ?_)
      obtain ⟨hP1, hK1, hD1⟩ := hB
      rw [ht] at hP1
      obtain ⟨hP, hD⟩ := va_join (wr := []) (w1 := [(h0, .inr (0, [.ref aN, .ref aL, .ref aK, .ref aC, .int (nI ld), .ref aT, .int (nI tb), .ref aO, .int (nI ob), .int (bI off), .int wl, .long wd])), (aK, .inl (cI, 1056, .inl (fun i9 => nI ((skK kd di 1 66) i9)))), (aC, .inl (cI, 4, .inl (fun i9 => nI ((skN kd cn di 1 66) i9))))]) hP hD [1, 2, 0] [] rfl rfl (by decide) (by decide) hk1 hFc hP1 hD1
      clear hP1 hD1 hK1 hPc hDc hKc hFc hk1 hz1 hvm ht
      generalize H1 = H at hP hS ⊢
      have hP : va_P (dC, dI) vwCl [(h0, .inr (0, [.ref aN, .ref aL, .ref aK, .ref aC, .int (nI ld), .ref aT, .int (nI tb), .ref aO, .int (nI ob), .int (bI off), .int wl, .long wd])), (aK, .inl (cI, 1056, .inl (fun i9 => nI ((skK kd di 1 66) i9)))), (aC, .inl (cI, 4, .inl (fun i9 => nI ((skN kd cn di 1 66) i9))))] H := hP
      have hD : va_D A [(h0, .inr (0, [.ref aN, .ref aL, .ref aK, .ref aC, .int (nI ld), .ref aT, .int (nI tb), .ref aO, .int (nI ob), .int (bI off), .int wl, .long wd])), (aK, .inl (cI, 1056, .inl (fun i9 => nI ((skK kd di 1 66) i9)))), (aC, .inl (cI, 4, .inl (fun i9 => nI ((skN kd cn di 1 66) i9))))] := hD
      refine W.widen (k := 1) (n := 6) (Nat.le_refl _) (Nat.le_refl _) ?_
      refine lv_aload_n hx hb dX0_replace_20 rfl (lv_at hl 0 rfl) ?_
      refine lv_dup hx hb dX0_replace_21 rfl ?_
      refine va_get (D := (dC, dI)) (ci := 0) (v := .int (nI ld)) (C := RX0) (T := TX0) (N := 12) hx hb hts hi0 hown hK hP 0 rfl rfl 4 (by decide) (hts (.fieldLink RX0 29 "CellRack" "liveDisks" "I") (by decide +kernel)) (fun _ h9 => h9) rfl dX0_replace_22 ?_
      refine lv_iconst (v := nI 1) hx hb dX0_replace_25 (by decide) ?_
      refine zr_iadd hx hb dX0_replace_26 ?_
      refine va_put (D := (dC, dI)) (ci := 0) (v := .int (nI (ld + 1))) (ty := .int) (C := RX0) (T := TX0) (N := 12) hx hb hts hi0 tyX0 tyX0_ok nmX0 hown hK hP hD hS 0 rfl rfl 4 (by decide) (hts (.fieldLink RX0 29 "CellRack" "liveDisks" "I") (by decide +kernel)) (fun _ h9 => h9) rfl (by decide +kernel) (rfl) (rfl) (Nat.le_of_ble_eq_true rfl) dX0_replace_27 (fun H locs hP hD hS => ?_)
      have hP : va_P (dC, dI) vwCl [(h0, .inr (0, [.ref aN, .ref aL, .ref aK, .ref aC, .int (nI (ld + 1)), .ref aT, .int (nI tb), .ref aO, .int (nI ob), .int (bI off), .int wl, .long wd])), (aK, .inl (cI, 1056, .inl (fun i9 => nI ((skK kd di 1 66) i9)))), (aC, .inl (cI, 4, .inl (fun i9 => nI ((skN kd cn di 1 66) i9))))] H := hP
      have hD : va_D A [(h0, .inr (0, [.ref aN, .ref aL, .ref aK, .ref aC, .int (nI (ld + 1)), .ref aT, .int (nI tb), .ref aO, .int (nI ob), .int (bI off), .int wl, .long wd])), (aK, .inl (cI, 1056, .inl (fun i9 => nI ((skK kd di 1 66) i9)))), (aC, .inl (cI, 4, .inl (fun i9 => nI ((skN kd cn di 1 66) i9))))] := hD
      refine lv_iconst (v := nI 1) hx hb dX0_replace_30 (by decide) ?_
      refine vx_ret ?_
      have hP9 := hP.sub (ws' := [(h0, .inr (0, [.ref aN, .ref aL, .ref aK, .ref aC, .int (nI (ld + 1)), .ref aT, .int (nI tb), .ref aO, .int (nI ob), .int (bI off), .int wl, .long wd])), (aK, .inl (cI, 1056, .inl (fun i9 => nI ((skK kd di 1 66) i9)))), (aC, .inl (cI, 4, .inl (fun i9 => nI ((skN kd cn di 1 66) i9))))]) [0, 1, 2] rfl
      have hD9 := hD.sub (ws' := [(h0, .inr (0, [.ref aN, .ref aL, .ref aK, .ref aC, .int (nI (ld + 1)), .ref aT, .int (nI tb), .ref aO, .int (nI ob), .int (bI off), .int wl, .long wd])), (aK, .inl (cI, 1056, .inl (fun i9 => nI ((skK kd di 1 66) i9)))), (aC, .inl (cI, 4, .inl (fun i9 => nI ((skN kd cn di 1 66) i9))))]) [0, 1, 2] (by decide) rfl
      exact W.zret (v := nI 1) hx hb hr (by decide) (fun t ht hW => ⟨⟨nI 1, (skK kd di 1 66, skN kd cn di 1 66, ld + 1), rfl, ⟨di, hdi, rfl, Or.inl ⟨q9, rfl, rfl, rfl, rfl⟩⟩, by rw [ht]; exact hP9, va_K.moved hW.alike hK, hD9⟩, hS.F ht⟩) hS.2.2 dX0_replace_31
    · have q9 : ¬ kd (di * 66) = 0 := by simpa using c9
      refine lv_iconst (v := nI 0) hx hb dX0_replace_12 (by decide) ?_
      refine vx_ret ?_
      have hP9 := hP.sub (ws' := [(h0, .inr (0, [.ref aN, .ref aL, .ref aK, .ref aC, .int (nI ld), .ref aT, .int (nI tb), .ref aO, .int (nI ob), .int (bI off), .int wl, .long wd])), (aK, .inl (cI, 1056, .inl (fun i9 => nI (kd i9)))), (aC, .inl (cI, 4, .inl (fun i9 => nI (cn i9))))]) [1, 2, 0] rfl
      have hD9 := hD.sub (ws' := [(h0, .inr (0, [.ref aN, .ref aL, .ref aK, .ref aC, .int (nI ld), .ref aT, .int (nI tb), .ref aO, .int (nI ob), .int (bI off), .int wl, .long wd])), (aK, .inl (cI, 1056, .inl (fun i9 => nI (kd i9)))), (aC, .inl (cI, 4, .inl (fun i9 => nI (cn i9))))]) [1, 2, 0] (by decide) rfl
      exact W.zret (v := nI 0) hx hb hr (by decide) (fun t ht hW => ⟨⟨nI 0, (kd, cn, ld), rfl, ⟨di, hdi, rfl, Or.inr ⟨q9, rfl, rfl, rfl, rfl⟩⟩, by rw [ht]; exact hP9, va_K.moved hW.alike hK, hD9⟩, hS.F ht⟩) hS.2.2 dX0_replace_13
end
