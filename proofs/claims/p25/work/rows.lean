section
-- ===== PART A: goes FIRST, ahead of the names: the tables' words, and 'selects' of the private methods out of them =====
/-- a private method of a class that the tables say can be made, by its rows of tables_1 -/
def lw_okq (q : MethodName × Nat) : Prop := (q.1.cls ≠ "java/lang/invoke/MethodHandle" ∧ q.1.cls ≠ "java/lang/invoke/VarHandle") ∧ Cond.instantiable q.1.cls q.2 ∈ tables_1 ∧ Cond.privateMethod q.1 ∈ tables_1 ∧ Cond.instanceMethod q.1 ∈ tables_1
theorem lw_p0 : lw_okq (⟨"CoveSignals", "requireBoat", "(I)V"⟩, 2) := ⟨⟨by decide +kernel, by decide +kernel⟩, List.mem_of_getElem? (i := 16) (by decide +kernel), List.mem_of_getElem? (i := 181) (by decide +kernel), List.mem_of_getElem? (i := 182) (by decide +kernel)⟩
theorem lw_p1 : lw_okq (⟨"java/lang/Throwable", "fillInStackTrace", "(I)Ljava/lang/Throwable;"⟩, 6) := ⟨⟨by decide +kernel, by decide +kernel⟩, List.mem_of_getElem? (i := 223) (by decide +kernel), List.mem_of_getElem? (i := 221) (by decide +kernel), List.mem_of_getElem? (i := 222) (by decide +kernel)⟩
theorem lw_p2 : lw_okq (⟨"CoveSignals", "digestOfLanterns", "(J)J"⟩, 2) := ⟨⟨by decide +kernel, by decide +kernel⟩, List.mem_of_getElem? (i := 16) (by decide +kernel), List.mem_of_getElem? (i := 490) (by decide +kernel), List.mem_of_getElem? (i := 491) (by decide +kernel)⟩
theorem lw_p3 : lw_okq (⟨"CoveSignals", "requireLantern", "(I)V"⟩, 2) := ⟨⟨by decide +kernel, by decide +kernel⟩, List.mem_of_getElem? (i := 16) (by decide +kernel), List.mem_of_getElem? (i := 498) (by decide +kernel), List.mem_of_getElem? (i := 499) (by decide +kernel)⟩
theorem lw_p4 : lw_okq (⟨"CoveSignals", "digestOfWatchmen", "(J)J"⟩, 2) := ⟨⟨by decide +kernel, by decide +kernel⟩, List.mem_of_getElem? (i := 16) (by decide +kernel), List.mem_of_getElem? (i := 507) (by decide +kernel), List.mem_of_getElem? (i := 508) (by decide +kernel)⟩
theorem lw_p5 : lw_okq (⟨"CoveSignals", "digestOfBoats", "(J)J"⟩, 2) := ⟨⟨by decide +kernel, by decide +kernel⟩, List.mem_of_getElem? (i := 16) (by decide +kernel), List.mem_of_getElem? (i := 512) (by decide +kernel), List.mem_of_getElem? (i := 513) (by decide +kernel)⟩
theorem lw_p6 : lw_okq (⟨"CoveSignalsLaw$Sim", "leads", "([I)I"⟩, 10) := ⟨⟨by decide +kernel, by decide +kernel⟩, List.mem_of_getElem? (i := 542) (by decide +kernel), List.mem_of_getElem? (i := 540) (by decide +kernel), List.mem_of_getElem? (i := 541) (by decide +kernel)⟩
theorem lw_p7 : lw_okq (⟨"CoveSignals", "requireAtSea", "(I)V"⟩, 2) := ⟨⟨by decide +kernel, by decide +kernel⟩, List.mem_of_getElem? (i := 16) (by decide +kernel), List.mem_of_getElem? (i := 672) (by decide +kernel), List.mem_of_getElem? (i := 673) (by decide +kernel)⟩
def lw_privs_1 : List (MethodName × Nat) := [(⟨"CoveSignals", "requireBoat", "(I)V"⟩, 2), (⟨"java/lang/Throwable", "fillInStackTrace", "(I)Ljava/lang/Throwable;"⟩, 6), (⟨"CoveSignals", "digestOfLanterns", "(J)J"⟩, 2), (⟨"CoveSignals", "requireLantern", "(I)V"⟩, 2), (⟨"CoveSignals", "digestOfWatchmen", "(J)J"⟩, 2), (⟨"CoveSignals", "digestOfBoats", "(J)J"⟩, 2), (⟨"CoveSignalsLaw$Sim", "leads", "([I)I"⟩, 10), (⟨"CoveSignals", "requireAtSea", "(I)V"⟩, 2)]
theorem lw_r1 : ∀ q ∈ lw_privs_1, lw_okq q := List.forall_mem_cons.mpr ⟨lw_p0, List.forall_mem_cons.mpr ⟨lw_p1, List.forall_mem_cons.mpr ⟨lw_p2, List.forall_mem_cons.mpr ⟨lw_p3, List.forall_mem_cons.mpr ⟨lw_p4, List.forall_mem_cons.mpr ⟨lw_p5, List.forall_mem_cons.mpr ⟨lw_p6, List.forall_mem_cons.mpr ⟨lw_p7, fun _ h => absurd h List.not_mem_nil⟩⟩⟩⟩⟩⟩⟩⟩
def lw_privs : List (MethodName × Nat) := lw_privs_1
def lw_tbl : List Cond := k2_sels lw_privs ++ tables_1
theorem lw_privs_ok : ∀ q ∈ lw_privs, lw_okq q := lw_r1
/-- the streams that the claim lets the run draw from -/
abbrev lw_cs : List Choice := [Jvm.Choice.named "NaN.bits"]
theorem lw_bits : nanBits ∈ lw_cs := by first | decide | exact List.mem_cons_self | simp [lw_cs, nanBits]
-- ===== end of PART A; then your names; then what follows =====
end
section
/-! ===== BEGIN words of one list among another's, by their places ===== -/
theorem goodIn_r {big : List Cond} (ws : List Cond) (ps : List Nat) (hp : ws = ps.filterMap (fun i => big[i]?)) (h : ws.all goodWord = true) : GoodIn big ws := by
  intro w hw
  have h1 := List.all_eq_true.mp h w hw
  rw [hp] at hw
  obtain ⟨i, -, hi⟩ := List.mem_filterMap.mp hw
  have hm : w ∈ big := by first | exact List.mem_of_getElem? hi | exact List.getElem?_mem hi
  exact ⟨hm, good_of_word h1⟩
theorem goodIn_app {big a b : List Cond} (ha : GoodIn big a) (hb : GoodIn big b) : GoodIn big (a ++ b) := fun w h => (List.mem_append.mp h).elim (ha w) (hb w)
theorem goodIn_ca {big a b : List Cond} {c : Cond} (ha : GoodIn big (c :: a)) (hb : GoodIn big b) : GoodIn big (c :: (a ++ b)) := fun w h => (List.mem_cons.mp h).elim (fun e => ha w (List.mem_cons.mpr (Or.inl e))) (fun h => (List.mem_append.mp h).elim (fun h => ha w (List.mem_cons.mpr (Or.inr h))) (hb w))
theorem goodIn_sub {big ws : List Cond} (hm : ∀ w ∈ ws, w ∈ big) (h : ws.all goodWord = true) : GoodIn big ws := fun w hw => ⟨hm w hw, good_of_word (List.all_eq_true.mp h w hw)⟩
/-! ===== END ===== -/

/-! ===== BEGIN exceptions that leave a method, and their catching by the caller (launches without stack traces) ===== -/
section VXA
/-! The laws vx_back, vx_callV, vx_callS, vx_callSW, vx_throw0, vx_throwS follow proofs of the library, with one case more: JvmDerived/Free/Laws.lean (Back.of_free), Shelf42/LK1.lean (callV, callS), Shelf/KitTraced.lean (throwNew0V, throwNewS). -/
/-- where a method has thrown q: the class by its name, the cell, what was written, the world -/
def vx_T (XC : String → State → State → Prop) (st : State) (q : Addr) (t : State) (mc ms : Nat) (free : Addr → Prop) : Prop :=
  ∃ (E : String) (ce : Cell) (L : List Loc), XC E st t ∧ t.heap[q]? = some ce ∧ ce.vm = .none ∧ st.vm.findClass E = some ce.cls ∧ st.WarmedH t.vm ∧ st.sameButNew ({ t with vm := st.vm } : State) L mc ms ∧ ∀ z ∈ L, free z.base
def vx_Q (Qc : Array Value → State → Outcome → State → Prop) (XC : String → State → State → Prop) (mc ms : Nat) (free : Addr → Prop) : Array Value → State → Outcome → State → Prop := fun a st o t =>
  (Qc a st o t ∧ ∃ L, FrameEnd st o t L mc ms ∧ ∀ q ∈ L, free q.base) ∨ ∃ q, o = .threw q ∧ vx_T XC st q t mc ms free
/-- a callee that returns or throws -/
def vx_Met (l : Launch) (y : MethodName) (ws : List Cond) (rm : Room) (Pc : Array Value → State → Prop) (Qc : Array Value → State → Outcome → State → Prop) (XC : String → State → State → Prop) (mc ms : Nat) (free : Addr → Prop) : Prop :=
  MetFree l y (headSpec ws rm) Pc (fun _ _ _ _ _ => True) (vx_Q Qc XC mc ms free)
def vx_Post (XC : String → State → State → Prop) (mc ms : Nat) (free : Addr → Prop) : Pt → Array Value → Addr → Pt → Prop := fun A a q B =>
  ∃ (g : JFrame) (mk : MethodId) (t : State) (L : List Loc) (E : String) (ce : Cell), B.U.heap = t.heap ∧ B.U.vm = t.vm ∧ XC E (A.U.calling g mk a) t ∧ t.heap[q]? = some ce ∧ ce.vm = .none ∧ A.U.vm.findClass E = some ce.cls ∧ B.locs = A.locs ++ L ∧ (∀ z ∈ L, free z.base) ∧ B.cells = A.cells + mc ∧ B.slots = A.slots + ms
def vx_Back (l : Launch) (R : Room) (p : Program) (e : Env) (below : List Frame) (s : State) (sargs : Array Value) (y : MethodName) (len W9 : Nat)
    (Pre : Pt → Array Value → Prop) (Post : Pt → Array Value → Option Value → Pt → Prop) (PostX : Pt → Array Value → Addr → Pt → Prop) : Prop :=
  ∀ (m : MethodId) (meth : Method) (c : Code) (A : Pt) (g : JFrame) (ig : Instr) (mk : MethodId) (a : Array Value),
    Stand p l e R s m sargs below meth c A.U A.locs A.cells A.slots → g.method = m → g.locals.size = c.maxLocals → decode c.code g.pc = .ok (ig, len) →
    2 * g.monitorRoom + (g.stack.map fun v => v.category).sum ≤ W9 → A.U.methodNamed? y = some mk → Pre A a →
    (∃ (v : Option Value) (B : Pt), Stand p l e R s m sargs below meth c B.U B.locs B.cells B.slots ∧ Post A a v B ∧
      Steps p.tables e below (doInvoke e (A.U.setTop g) [] mk a).1 (B.U.setTop { g with pc := g.pc + len, stack := v.toList ++ g.stack })) ∨
    (∃ (q : Addr) (B : Pt), Stand p l e R s m sargs below meth c B.U B.locs B.cells B.slots ∧ PostX A a q B ∧
      Steps p.tables e below (doInvoke e (A.U.setTop g) [] mk a).1 ((B.U.setTop g).pushFrame (.throwing q)))
section Payer
variable {l : Launch} {R : Room} {p : Program} {e : Env} {below : List Frame} {s : State} {sargs : Array Value} {y : MethodName} {len W9 : Nat}
theorem vx_back {ws : List Cond} {rm : Room} {Pc : Array Value → State → Prop} {Qc : Array Value → State → Outcome → State → Prop} {XC : String → State → State → Prop} {mc ms : Nat} {free : Addr → Prop} {bytes : ByteArray} {maxL : Nat} {ret : Option FieldType}
    (hM : vx_Met l y ws rm Pc Qc XC mc ms free) (hblind : FrameBlind Pc) (hrc : rm.cells = mc) (hrs : rm.slots = ms)
    (hframes : rm.frames + 1 ≤ R.frames) (hlocals : W9 + (maxL + 11) + rm.locals ≤ R.locals)
    (hws : ∀ w ∈ ws, ∀ a' U, s.WarmedH U.vm → w.before a' U = true) (hcode : Cond.code y bytes maxL ret ∈ ws) (hinit : ∀ a' U, s.WarmedH U.vm → (Cond.initialized y.cls).before a' U = true) :
    vx_Back l R p e below s sargs y len W9 (PreOf R mc ms Pc) (PostOf Qc mc ms free) (vx_Post XC mc ms free) := by
  intro m meth c A g ig mk a X hg hsize hdg hW hn hp
  have h1 : (headSpec ws rm).pre.before a A.U = true := atoms_intro fun w hw => hws w hw _ _ X.warmed
  have h2 : (Cond.code y bytes maxL ret).before a A.U = true := hws _ hcode _ _ X.warmed
  have h3 : (Cond.initialized y.cls).before a A.U = true := hinit _ _ X.warmed
  have h4 : A.cells + (headSpec ws rm).room.cells ≤ R.cells := by rw [show (headSpec ws rm).room.cells = mc from hrc]; exact hp.1
  have h5 : A.slots + (headSpec ws rm).room.slots ≤ R.slots := by rw [show (headSpec ws rm).room.slots = ms from hrs]; exact hp.2.1
  have hPc : Pc a (A.U.calling g mk a) := hblind _ _ _ _ hp.2.2
  obtain ⟨U, Ls, c0, s0⟩ := A
  dsimp only [Pt.U, Pt.locs, Pt.cells, Pt.slots] at h1 h2 h3 h4 h5 X hn hPc ⊢
  obtain ⟨methY, cY, hmY, hcY, -, hlY, -, -, -, -⟩ := Cond.code_spec hn h2
  obtain ⟨kY, hkY, -⟩ := className_of_methodNamed hn
  have hinitY : kY.init = .initialized := Cond.initialized_spec (findClass_of_methodNamed hn) hkY h3
  have h : At U g.method c below := by rw [hg]; exact X.here
  have hlocals9 : W9 + (maxL + 11) + (headSpec ws rm).room.locals ≤ R.locals := hlocals
  have happ : (headSpec ws rm).appliesLoose y e.platform (U.calling g mk a) = true :=
    Spec.appliesLoose_calling (g := g) h hdg hn hkY hinitY
      (X.room_calling (g := g) (R' := (headSpec ws rm).room) hsize hmY hcY hframes (by rw [hlY]; omega) h4 h5) h1
  obtain ⟨mid, hmid⟩ := h.above
  have hfr : (U.setTop g).frames = (.java g :: mid) ++ below := by rw [State.frames_setTop' g h.top, hmid]; rfl
  obtain ⟨o, s₂, hsteps, -, hend, hq⟩ := Steps.callFree hM p X.admits X.cas X.clock (acts := []) hfr happ hPc trivial
  have hq' : vx_Q Qc XC mc ms free a (U.calling g mk a) o s₂ := hq
  rw [State.frames_setTop' g h.top] at hend
  obtain ⟨g₀, hg0⟩ := Option.isSome_iff_exists.mp h.top
  obtain ⟨r, hr⟩ := State.topJava?_eq_some.mp hg0
  have hr' : (({ U with heap := s₂.heap, slotsUsed := s₂.slotsUsed } : State).setVm s₂.vm).frames = .java g₀ :: r := hr
  rcases hq' with ⟨hqc, L, hfe, hL⟩ | ⟨q, rfl, E, ce, L, hx, hce, hcv, hcl, hW₂, hsm, hL⟩
  · obtain ⟨⟨v, rfl⟩, hW₂, e2, q2, q3, q4, q5, q6⟩ := id hfe
    have e3 : s₂ = ({ (U.calling g mk a).setFrames s₂.frames with heap := s₂.heap, slotsUsed := s₂.slotsUsed } : State).setVm s₂.vm := by
      have : s₂ = ({ s₂ with vm := (U.calling g mk a).vm } : State).setVm s₂.vm := rfl
      rw [e2] at this
      exact this
    obtain ⟨c₂, i₂, len₂, hc₂, hd₂, hf₂⟩ := hend
    have hW' : U.WarmedH s₂.vm := hW₂
    have hcc : c₂ = c := by
      have h1 : s₂.code? g.method = U.code? g.method := by
        rw [State.code?_eq, State.code?_eq, hW'.alike.method?]
      exact Option.some.inj (hc₂.symm.trans (h1.trans h.code))
    subst hcc
    have hlen : len₂ = len := by rw [hdg] at hd₂; cases hd₂; rfl
    subst hlen
    have hs₂ : s₂ = (({ U with heap := s₂.heap, slotsUsed := s₂.slotsUsed } : State).setVm s₂.vm).setTop { g with pc := g.pc + len₂, stack := v.toList ++ g.stack } := by
      refine e3.trans ?_
      rw [hf₂, State.calling_eq h.top, State.setFrames_setFrames, State.setTop_of_frames _ hr', hr]
      rfl
    have hsame : U.sameButNew ({ U with heap := s₂.heap, slotsUsed := s₂.slotsUsed } : State) L mc ms := by
      refine ⟨?_, q2, q3, q4, q5, q6⟩
      obtain ⟨t, ht, -⟩ := State.frames_cons hr
      show ({ U with heap := s₂.heap, slotsUsed := s₂.slotsUsed } : State) = { U.setFrames U.frames with heap := s₂.heap, slotsUsed := s₂.slotsUsed }
      rw [State.setFrames_self ht]
    subst hg
    refine Or.inl ⟨v, ⟨(({ U with heap := s₂.heap, slotsUsed := s₂.slotsUsed } : State).setVm s₂.vm), Ls ++ L, c0 + mc, s0 + ms⟩,
      ⟨X.admits, X.cas, X.clock, X.frames, X.room, X.hears, X.method, X.code, (X.here.setHeapUsed s₂.heap s₂.slotsUsed).setVm hW'.alike, X.tail, State.WarmedH.trans X.warmed hW', X.limits, X.bytes, X.same.trans (hsame.setVm s.vm)⟩,
      ⟨g, mk, s₂, L, rfl, rfl, hqc, rfl, hL, rfl, rfl⟩, ?_⟩
    show Steps p.tables e below _ ((({ U with heap := s₂.heap, slotsUsed := s₂.slotsUsed } : State).setVm s₂.vm).setTop { g with pc := g.pc + len₂, stack := v.toList ++ g.stack })
    rw [← hs₂]
    exact hsteps
  · obtain ⟨e2, q2, q3, q4, q5, q6⟩ := id hsm
    have e3 : s₂ = ({ (U.calling g mk a).setFrames s₂.frames with heap := s₂.heap, slotsUsed := s₂.slotsUsed } : State).setVm s₂.vm := by
      have : s₂ = ({ s₂ with vm := (U.calling g mk a).vm } : State).setVm s₂.vm := rfl
      rw [e2] at this
      exact this
    have hf₂ : s₂.frames = .throwing q :: .java g :: U.frames.tail := hend
    have hW' : U.WarmedH s₂.vm := hW₂
    have hs₂ : s₂ = ((({ U with heap := s₂.heap, slotsUsed := s₂.slotsUsed } : State).setVm s₂.vm).setTop g).pushFrame (.throwing q) := by
      refine e3.trans ?_
      rw [hf₂, State.calling_eq h.top, State.setFrames_setFrames, State.pushFrame, State.frames_setTop _ hr', State.setTop_of_frames _ hr', State.setFrames_setFrames, hr]
      rfl
    have hsame : U.sameButNew ({ U with heap := s₂.heap, slotsUsed := s₂.slotsUsed } : State) L mc ms := by
      refine ⟨?_, q2, q3, q4, q5, q6⟩
      obtain ⟨t, ht, -⟩ := State.frames_cons hr
      show ({ U with heap := s₂.heap, slotsUsed := s₂.slotsUsed } : State) = { U.setFrames U.frames with heap := s₂.heap, slotsUsed := s₂.slotsUsed }
      rw [State.setFrames_self ht]
    subst hg
    refine Or.inr ⟨q, ⟨(({ U with heap := s₂.heap, slotsUsed := s₂.slotsUsed } : State).setVm s₂.vm), Ls ++ L, c0 + mc, s0 + ms⟩,
      ⟨X.admits, X.cas, X.clock, X.frames, X.room, X.hears, X.method, X.code, (X.here.setHeapUsed s₂.heap s₂.slotsUsed).setVm hW'.alike, X.tail, State.WarmedH.trans X.warmed hW', X.limits, X.bytes, X.same.trans (hsame.setVm s.vm)⟩,
      ⟨g, mk, s₂, L, E, ce, rfl, rfl, hx, hce, hcv, hcl, rfl, hL, rfl, rfl⟩, ?_⟩
    show Steps p.tables e below _ (((({ U with heap := s₂.heap, slotsUsed := s₂.slotsUsed } : State).setVm s₂.vm).setTop g).pushFrame (.throwing q))
    rw [← hs₂]
    exact hsteps
end Payer
section Calls
variable {p : Program} {l : Launch} {e : Env} {R : Room} {s : State} {m : MethodId} {args : Array Value} {below : List Frame} {meth : Method} {c : Code} {T : State} {locs : List Loc} {cells slots : Nat}
theorem vx_callV (X : Stand p l e R s m args below meth c T locs cells slots) (hexec : p.tables.exec = Jvm.exec) {own C : String} {index : Nat} {y : MethodName} {bytes : ByteArray} {maxL : Nat} {ret : Option FieldType}
    (hown : s.vm.findClass own = some m.cls) (hlink : (Cond.methodLink own index y).before args s = true) (hinst : (Cond.instanceMethod y).before args s = true) (hsel : (Cond.selects C y y).before args s = true)
    (hcode : (Cond.code y bytes maxL ret).before args s = true) (hy : y.cls ≠ "java/lang/invoke/MethodHandle" ∧ y.cls ≠ "java/lang/invoke/VarHandle")
    {W9 : Nat} {Pre : Pt → Array Value → Prop} {Post : Pt → Array Value → Option Value → Pt → Prop} {PostX : Pt → Array Value → Addr → Pt → Prop} (hK : vx_Back l R p e below s args y 3 W9 Pre Post PostX)
    {b : Addr} {cellB : Cell} (hcell : T.heap[b]? = some cellB) (hobj : cellB.vm.isStatics = false) (hcls : s.vm.findClass C = some cellB.cls)
    {g : JFrame} (hg : g.method = m) (hsize : g.locals.size = c.maxLocals) {argsL rest : List Value} (hlen : ∀ sig, parseMethodDescriptor y.desc = some sig → argsL.length = sig.parameters.length)
    (hstack : g.stack = argsL.reverse ++ .ref b :: rest) (hW : 2 * g.monitorRoom + (rest.map fun v => v.category).sum ≤ W9) (hdg : decode c.code g.pc = .ok (.invokevirtual index, 3))
    (hpre : ∀ vm₁, s.WarmedH vm₁ → Pre ⟨T.setVm vm₁, locs, cells, slots⟩ (Value.ref b :: argsL).toArray) :
    (∃ (v : Option Value) (vm₁ : Vm) (B : Pt), s.WarmedH vm₁ ∧ Stand p l e R s m args below meth c B.U B.locs B.cells B.slots ∧ Post ⟨T.setVm vm₁, locs, cells, slots⟩ (Value.ref b :: argsL).toArray v B ∧
      ∀ target, Steps p.tables e below (B.U.setTop { g with pc := g.pc + 3, stack := v.toList ++ rest }) target → Steps p.tables e below (T.setTop g) target) ∨
    (∃ (q : Addr) (vm₁ : Vm) (B : Pt), s.WarmedH vm₁ ∧ Stand p l e R s m args below meth c B.U B.locs B.cells B.slots ∧ PostX ⟨T.setVm vm₁, locs, cells, slots⟩ (Value.ref b :: argsL).toArray q B ∧
      Steps p.tables e below (T.setTop g) ((B.U.setTop { g with stack := rest }).pushFrame (.throwing q))) := by
  obtain ⟨mk, methM, hnamed, hmethM, hstM, habM⟩ := Cond.instanceMethod_spec hinst
  obtain ⟨methM', cM, hmethM', -, -, -, -, -, -, hsigM⟩ := Cond.code_spec hnamed hcode
  cases hmethM.symm.trans hmethM'
  obtain ⟨c2, r2, m2, q1, q2, q3, q4, kP, hkP, hkPi⟩ := Cond.selects_spec hsel
  cases hcls.symm.trans q1
  cases (State.methodFound?_of_named hnamed hy).symm.trans q2
  cases hnamed.symm.trans q3
  have hselP : selectMethod e.platform s.vm cellB.cls mk = .method mk := by rw [Launch.admits_selectMethod X.admits]; exact q4
  obtain ⟨vm₁, X₁, hstep₁⟩ := X.invokevirtual hexec hown hlink hnamed hmethM hstM hkP hkPi hy (a := b) (cell := cellB) hcell
    (fun z h => by rw [h] at hobj; cases hobj) hselP hmethM habM hkP hkPi (g := g) hg (argsL := argsL) (rest := rest) (hlen _ hsigM) hstack hdg
  rcases hK m meth c ⟨T.setVm vm₁, locs, cells, slots⟩ { g with stack := rest } (.invokevirtual index) mk (Value.ref b :: argsL).toArray X₁ hg hsize hdg hW (X₁.named hnamed) (hpre vm₁ X₁.warmed) with ⟨v, B, X', hpost, hsteps⟩ | ⟨q, B, X', hpost, hsteps⟩
  · exact Or.inl ⟨v, vm₁, B, X₁.warmed, X', hpost, fun target h => hstep₁ _ fun acts => by rw [doInvoke_state]; exact hsteps.trans h⟩
  · exact Or.inr ⟨q, vm₁, B, X₁.warmed, X', hpost, hstep₁ _ fun acts => by rw [doInvoke_state]; exact hsteps⟩
theorem vx_callS (X : Stand p l e R s m args below meth c T locs cells slots) (hexec : p.tables.exec = Jvm.exec) {own : String} {index : Nat} {y : MethodName} {bytes : ByteArray} {maxL : Nat} {ret : Option FieldType}
    (hown : s.vm.findClass own = some m.cls) (hlink : (Cond.methodLink own index y).before args s = true) (hstat : (Cond.static y).before args s = true) (hinit : (Cond.initialized y.cls).before args s = true)
    (hcode : (Cond.code y bytes maxL ret).before args s = true) (hy : y.cls ≠ "java/lang/invoke/MethodHandle" ∧ y.cls ≠ "java/lang/invoke/VarHandle")
    {W9 : Nat} {Pre : Pt → Array Value → Prop} {Post : Pt → Array Value → Option Value → Pt → Prop} {PostX : Pt → Array Value → Addr → Pt → Prop} (hK : vx_Back l R p e below s args y 3 W9 Pre Post PostX)
    {g : JFrame} (hg : g.method = m) (hsize : g.locals.size = c.maxLocals) {argsL rest : List Value} (hlen : ∀ sig, parseMethodDescriptor y.desc = some sig → argsL.length = sig.parameters.length)
    (hstack : g.stack = argsL.reverse ++ rest) (hW : 2 * g.monitorRoom + (rest.map fun v => v.category).sum ≤ W9) (hdg : decode c.code g.pc = .ok (.invokestatic index, 3))
    (hpre : ∀ vm₁, s.WarmedH vm₁ → Pre ⟨T.setVm vm₁, locs, cells, slots⟩ argsL.toArray) :
    (∃ (v : Option Value) (vm₁ : Vm) (B : Pt), s.WarmedH vm₁ ∧ Stand p l e R s m args below meth c B.U B.locs B.cells B.slots ∧ Post ⟨T.setVm vm₁, locs, cells, slots⟩ argsL.toArray v B ∧
      ∀ target, Steps p.tables e below (B.U.setTop { g with pc := g.pc + 3, stack := v.toList ++ rest }) target → Steps p.tables e below (T.setTop g) target) ∨
    (∃ (q : Addr) (vm₁ : Vm) (B : Pt), s.WarmedH vm₁ ∧ Stand p l e R s m args below meth c B.U B.locs B.cells B.slots ∧ PostX ⟨T.setVm vm₁, locs, cells, slots⟩ argsL.toArray q B ∧
      Steps p.tables e below (T.setTop g) ((B.U.setTop { g with stack := rest }).pushFrame (.throwing q))) := by
  obtain ⟨mk, hnamed⟩ := Cond.code_named hcode
  obtain ⟨methM, cM, hmethM, -, -, -, -, -, -, hsigM⟩ := Cond.code_spec hnamed hcode
  have hstatic : methM.isStatic = true := Cond.static_spec hnamed hmethM hstat
  obtain ⟨kP, hkP, -⟩ := className_of_methodNamed hnamed
  have hinitP : kP.init = .initialized := Cond.initialized_spec (findClass_of_methodNamed hnamed) hkP hinit
  obtain ⟨vm₁, X₁, hstep₁⟩ := X.invokestatic hexec hown hlink hnamed hmethM hstatic hkP hinitP hy (g := g) hg (argsL := argsL) (rest := rest) (hlen _ hsigM) hstack hdg
  rcases hK m meth c ⟨T.setVm vm₁, locs, cells, slots⟩ { g with stack := rest } (.invokestatic index) mk argsL.toArray X₁ hg hsize hdg hW (X₁.named hnamed) (hpre vm₁ X₁.warmed) with ⟨v, B, X', hpost, hsteps⟩ | ⟨q, B, X', hpost, hsteps⟩
  · exact Or.inl ⟨v, vm₁, B, X₁.warmed, X', hpost, fun target h => hstep₁ _ fun acts => by rw [doInvoke_state]; exact hsteps.trans h⟩
  · exact Or.inr ⟨q, vm₁, B, X₁.warmed, X', hpost, hstep₁ _ fun acts => by rw [doInvoke_state]; exact hsteps⟩
end Calls
theorem vx_cls {s : State} {T : State} {vm₁ : Vm} {E : String} {k : ClassId} (hW : s.WarmedH vm₁) (h : (T.setVm vm₁).vm.findClass E = some k) : s.vm.findClass E = some k := by
  have h1 : vm₁.findClass E = some k := h
  rw [hW.alike.findClass] at h1
  exact h1
/-- the method's frame g, with q thrown over it -/
def vx_W (p : Program) (l : Launch) (e : Env) (R : Room) (s : State) (m : MethodId) (args : Array Value) (below : List Frame) (meth : Method) (c : Code) (H : Heap) (locs : List Loc) (cells slots : Nat) (Q : State → Prop) (g : JFrame) (q : Addr) : Prop :=
  ∀ T : State, T.heap = H → Stand p l e R s m args below meth c T locs cells slots → ∃ t, Steps p.tables e below ((T.setTop g).pushFrame (.throwing q)) t ∧ Q t
def vx_Run (p : Program) (l : Launch) (e : Env) (R : Room) (s : State) (m : MethodId) (args : Array Value) (below : List Frame) (meth : Method) (c : Code) (H : Heap) (locs : List Loc) (cells slots mc ms : Nat) (g : JFrame) (rest : List Value) (Qa : State → Outcome → State → Prop) (XC : String → State → State → Prop) (free : Addr → Prop) : Prop :=
  ∀ T : State, T.heap = H → Stand p l e R s m args below meth c T locs cells slots →
    (∃ (v : Option Value) (st₀ t T' : State) (L : List Loc), st₀.heap = H ∧ Stand p l e R s m args below meth c T' (locs ++ L) (cells + mc) (slots + ms) ∧ (∀ q ∈ L, free q.base) ∧ T'.heap = t.heap ∧ T'.vm = t.vm ∧ Qa st₀ (.returned v) t ∧
      Goes p e below T g T' { g with pc := g.pc + 3, stack := v.toList ++ rest }) ∨
    (∃ (q : Addr) (st₀ t T' : State) (L : List Loc) (E : String) (ce : Cell), st₀.heap = H ∧ Stand p l e R s m args below meth c T' (locs ++ L) (cells + mc) (slots + ms) ∧ (∀ z ∈ L, free z.base) ∧ T'.heap = t.heap ∧ T'.vm = t.vm ∧ XC E st₀ t ∧ t.heap[q]? = some ce ∧ ce.vm = .none ∧ s.vm.findClass E = some ce.cls ∧
      Steps p.tables e below (T.setTop g) ((T'.setTop { g with stack := rest }).pushFrame (.throwing q)))
def vx_X {S : Type} (px : S → Prop) (B : String → S → State → Prop) (A : Nat → Prop) : String → State → State → Prop := fun E st t => ∃ u : S, px u ∧ B E u t ∧ va_F A st t
section Runs
variable {p : Program} {l : Launch} {e : Env} {R : Room} {s : State} {m : MethodId} {args : Array Value} {below : List Frame} {meth : Method} {c : Code} {H : Heap} {locs : List Loc} {cells slots : Nat}
variable {y : MethodName} {bytes cc : ByteArray} {maxL nL mc ms n index : Nat} {ret : Option FieldType} {ws : List Cond} {rm : Room} {Pc : Array Value → State → Prop} {Qc : Array Value → State → Outcome → State → Prop} {XC : String → State → State → Prop} {free : Addr → Prop} {Ts : List Cond} {own C : String} {b : Addr} {As rest : List Value} {g : JFrame}
theorem vx_callBack (cb : CallB R s args own index y bytes maxL ret ws rm mc ms n) (hM : vx_Met l y ws rm Pc Qc XC mc ms free) (hbl : FrameBlind Pc) : vx_Back l R p e below s args y 3 8 (PreOf R mc ms Pc) (PostOf Qc mc ms free) (vx_Post XC mc ms free) := by
  obtain ⟨hrc, hrs, hfr, hlo, hws, hcw, -, hini, -⟩ := cb
  exact vx_back (bytes := bytes) (maxL := maxL) (ret := ret) hM hbl hrc hrs hfr hlo hws hcw (fun a' U hW => word_at hW (Or.inl (by first | rfl | simp [Cond.onTables, Cond.keeps, Cond.steady])) hini)
theorem vx_runV (S : CallFix p m c cc nL s args Ts own) (hM : vx_Met l y ws rm Pc Qc XC mc ms free) (cw : CallW R s args own C index y bytes maxL ret ws rm mc ms n) (hp : PreV s H C b Pc As)
    (hg : g.method = m) (hn : As.length = n) (hsize : g.locals.size = nL) (hstack : g.stack = As.reverse ++ .ref b :: rest) (hW : 2 * g.monitorRoom + (rest.map fun v => v.category).sum ≤ 8) (hdg : decode cc g.pc = .ok (.invokevirtual index, 3)) (hf : cells + mc ≤ R.cells ∧ slots + ms ≤ R.slots) :
    vx_Run p l e R s m args below meth c H locs cells slots mc ms g rest (Qc (Value.ref b :: As).toArray) XC free := by
  have hK : vx_Back l R p e below s args y 3 8 (PreOf R mc ms Pc) (PostOf Qc mc ms free) (vx_Post XC mc ms free) := vx_callBack cw.1 hM hp.1
  obtain ⟨⟨-, -, -, -, -, -, hcode, -, hy, hlen, hl⟩, hin, hse⟩ := cw
  obtain ⟨hx, hb, hml, ho, -⟩ := S
  obtain ⟨-, ⟨cellB, hcB, hoB, hclB⟩, hPc⟩ := hp
  intro T hT X
  rcases vx_callV X hx (C := C) (bytes := bytes) (maxL := maxL) (ret := ret) ho hl hin hse hcode hy hK (by rw [hT]; exact hcB) hoB hclB hg (hsize.trans hml.symm) (argsL := As) (rest := rest) (fun sig h => hn.trans (hlen sig h)) hstack hW (by rw [hb]; exact hdg)
    (fun vm₁ hW₁ => ⟨hf.1, hf.2, hPc (T.setVm vm₁) hT hW₁⟩) with ⟨v, vm₁, ⟨U', l2, c2, s2⟩, hW₁, X', ⟨g', mk, t, L, e1, e2, hq, h1, hL, h2, h3⟩, st⟩ | ⟨q, vm₁, ⟨U', l2, c2, s2⟩, hW₁, X', ⟨g', mk, t, L, E, ce, e1, e2, hq, hce, hcv, hcl, h1, hL, h2, h3⟩, st⟩
  · dsimp only [Pt.U, Pt.locs, Pt.cells, Pt.slots] at X' e1 e2 h1 h2 h3 st
    subst h1; subst h2; subst h3
    exact Or.inl ⟨v, (T.setVm vm₁).calling g' mk (Value.ref b :: As).toArray, t, U', L, hT, X', hL, e1, e2, hq, st⟩
  · dsimp only [Pt.U, Pt.locs, Pt.cells, Pt.slots] at X' e1 e2 h1 h2 h3 st hcl
    subst h1; subst h2; subst h3
    exact Or.inr ⟨q, (T.setVm vm₁).calling g' mk (Value.ref b :: As).toArray, t, U', L, E, ce, hT, X', hL, e1, e2, hq, hce, hcv, vx_cls hW₁ hcl, st⟩
theorem vx_runS (S : CallFix p m c cc nL s args Ts own) (hM : vx_Met l y ws rm Pc Qc XC mc ms free) (cw : CallB R s args own index y bytes maxL ret ws rm mc ms n ∧ (Cond.static y).before args s = true) (hp : PreS s H Pc As)
    (hg : g.method = m) (hn : As.length = n) (hsize : g.locals.size = nL) (hstack : g.stack = As.reverse ++ rest) (hW : 2 * g.monitorRoom + (rest.map fun v => v.category).sum ≤ 8) (hdg : decode cc g.pc = .ok (.invokestatic index, 3)) (hf : cells + mc ≤ R.cells ∧ slots + ms ≤ R.slots) :
    vx_Run p l e R s m args below meth c H locs cells slots mc ms g rest (Qc As.toArray) XC free := by
  have hK : vx_Back l R p e below s args y 3 8 (PreOf R mc ms Pc) (PostOf Qc mc ms free) (vx_Post XC mc ms free) := vx_callBack cw.1 hM hp.1
  obtain ⟨⟨-, -, -, -, -, -, hcode, hini, hy, hlen, hl⟩, hstt⟩ := cw
  obtain ⟨hx, hb, hml, ho, -⟩ := S
  intro T hT X
  rcases vx_callS X hx (bytes := bytes) (maxL := maxL) (ret := ret) ho hl hstt hini hcode hy hK hg (hsize.trans hml.symm) (argsL := As) (rest := rest) (fun sig h => hn.trans (hlen sig h)) hstack hW (by rw [hb]; exact hdg)
    (fun vm₁ hW₁ => ⟨hf.1, hf.2, hp.2 (T.setVm vm₁) hT hW₁⟩) with ⟨v, vm₁, ⟨U', l2, c2, s2⟩, hW₁, X', ⟨g', mk, t, L, e1, e2, hq, h1, hL, h2, h3⟩, st⟩ | ⟨q, vm₁, ⟨U', l2, c2, s2⟩, hW₁, X', ⟨g', mk, t, L, E, ce, e1, e2, hq, hce, hcv, hcl, h1, hL, h2, h3⟩, st⟩
  · dsimp only [Pt.U, Pt.locs, Pt.cells, Pt.slots] at X' e1 e2 h1 h2 h3 st
    subst h1; subst h2; subst h3
    exact Or.inl ⟨v, (T.setVm vm₁).calling g' mk As.toArray, t, U', L, hT, X', hL, e1, e2, hq, st⟩
  · dsimp only [Pt.U, Pt.locs, Pt.cells, Pt.slots] at X' e1 e2 h1 h2 h3 st hcl
    subst h1; subst h2; subst h3
    exact Or.inr ⟨q, (T.setVm vm₁).calling g' mk As.toArray, t, U', L, E, ce, hT, X', hL, e1, e2, hq, hce, hcv, vx_cls hW₁ hcl, st⟩
end Runs
section Rows
variable {p : Program} {l : Launch} {e : Env} {R : Room} {s : State} {m : MethodId} {args : Array Value} {below : List Frame} {meth : Method} {c : Code} {H : Heap} {locs : List Loc} {cells slots : Nat} {Q : State → Prop}
variable {mc ms : Nat} {free : Addr → Prop} {A0 A1 : Nat → Prop} {H0 : Heap} {a : Array Value} {pc : Nat} {ls : Array Slot} {st0 rest : List Value}
theorem vx_keep {st₀ t T' : State} {L : List Loc} (h0 : st₀.heap = H) (e1 : T'.heap = t.heap) (hS : va_S A0 H0 H locs) (hA : ∀ q, q < H.size → A1 q → A0 q) (hf : ∀ q, free q → A0 q) (hL : ∀ q ∈ L, free q.base) (hF : va_F A1 st₀ t) :
    H.size ≤ T'.heap.size ∧ (∀ q : Nat, q < H.size → ¬ A1 q → T'.heap[q]? = H[q]?) ∧ va_S A0 H0 T'.heap (locs ++ L) := by
  obtain ⟨hz, hk⟩ := hF
  rw [h0] at hz hk
  exact ⟨by rw [e1]; exact hz, fun q h1 h2 => by rw [e1]; exact hk q h1 h2,
    ⟨Nat.le_trans hS.1 (by rw [e1]; exact hz), fun q h1 h2 => by rw [e1, hk q (Nat.lt_of_lt_of_le h1 hS.1) (fun z => h2 (hA q (Nat.lt_of_lt_of_le h1 hS.1) z))]; exact hS.2.1 q h1 h2, fun q hq => by
      rcases List.mem_append.mp hq with h | h
      · exact hS.2.2 q h
      · exact hf _ (hL q h)⟩⟩
theorem vx_calli {S SX : Type} {post : Int32 → S → Prop} {px : SX → Prop} {B : S → State → Prop} {BX : String → SX → State → Prop} {AX : Nat → Prop} (hr : vx_Run p l e R s m args below meth c H locs cells slots mc ms (F0 m pc ls st0) rest (va_Qi post B A1 a) (vx_X px BX AX) free) (hS : va_S A0 H0 H locs) (hA : ∀ q, q < H.size → A1 q → A0 q) (hf : ∀ q, free q → A0 q) (hAX : ∀ q, q < H.size → AX q → A0 q)
    (kx : ∀ (E : String) (ce : Cell) (q9 : Addr) (u : SX) (t : State) (H1 : Heap) (locs1 : List Loc), t.heap = H1 → s.vm.Alike t.vm → px u → BX E u t → H.size ≤ H1.size → (∀ q : Nat, q < H.size → ¬ AX q → H1[q]? = H[q]?) → va_S A0 H0 H1 locs1 → H1[q9]? = some ce → ce.vm = .none → s.vm.findClass E = some ce.cls → vx_W p l e R s m args below meth c H1 locs1 (cells + mc) (slots + ms) Q (F0 m pc ls rest) q9)
    (kk : ∀ (r : Int32) (u : S) (t : State) (H1 : Heap) (locs1 : List Loc), t.heap = H1 → s.vm.Alike t.vm → post r u → B u t → H.size ≤ H1.size → (∀ q : Nat, q < H.size → ¬ A1 q → H1[q]? = H[q]?) → va_S A0 H0 H1 locs1 → W p l e R s m args below meth c H1 locs1 (cells + mc) (slots + ms) Q (F0 m (pc + 3) ls (.int r :: rest))) : W p l e R s m args below meth c H locs cells slots Q (F0 m pc ls st0) := by
  intro T hT X
  rcases hr T hT X with ⟨v, st₀, t, T', L, h0, X', hL, e1, e2, ⟨⟨r, u, hv, hp, hb⟩, hF⟩, st⟩ | ⟨q, st₀, t, T', L, E, ce, h0, X', hL, e1, e2, ⟨u, hp, hb, hF⟩, hce, hcv, hcl, st⟩
  · cases hv
    obtain ⟨k1, k2, k3⟩ := vx_keep h0 e1 hS hA hf hL hF
    obtain ⟨t2, a1, b1⟩ := kk r u t T'.heap (locs ++ L) e1.symm (by rw [← e2]; exact X'.warmed.alike) hp hb k1 k2 k3 T' rfl X'
    exact ⟨t2, st t2 a1, b1⟩
  · obtain ⟨k1, k2, k3⟩ := vx_keep h0 e1 hS hAX hf hL hF
    obtain ⟨t2, a1, b1⟩ := kx E ce q u t T'.heap (locs ++ L) e1.symm (by rw [← e2]; exact X'.warmed.alike) hp hb k1 k2 k3 (by rw [e1]; exact hce) hcv hcl T' rfl X'
    exact ⟨t2, st.trans a1, b1⟩
theorem vx_calll {S SX : Type} {post : Int64 → S → Prop} {px : SX → Prop} {B : S → State → Prop} {BX : String → SX → State → Prop} {AX : Nat → Prop} (hr : vx_Run p l e R s m args below meth c H locs cells slots mc ms (F0 m pc ls st0) rest (va_Ql post B A1 a) (vx_X px BX AX) free) (hS : va_S A0 H0 H locs) (hA : ∀ q, q < H.size → A1 q → A0 q) (hf : ∀ q, free q → A0 q) (hAX : ∀ q, q < H.size → AX q → A0 q)
    (kx : ∀ (E : String) (ce : Cell) (q9 : Addr) (u : SX) (t : State) (H1 : Heap) (locs1 : List Loc), t.heap = H1 → s.vm.Alike t.vm → px u → BX E u t → H.size ≤ H1.size → (∀ q : Nat, q < H.size → ¬ AX q → H1[q]? = H[q]?) → va_S A0 H0 H1 locs1 → H1[q9]? = some ce → ce.vm = .none → s.vm.findClass E = some ce.cls → vx_W p l e R s m args below meth c H1 locs1 (cells + mc) (slots + ms) Q (F0 m pc ls rest) q9)
    (kk : ∀ (r : Int64) (u : S) (t : State) (H1 : Heap) (locs1 : List Loc), t.heap = H1 → s.vm.Alike t.vm → post r u → B u t → H.size ≤ H1.size → (∀ q : Nat, q < H.size → ¬ A1 q → H1[q]? = H[q]?) → va_S A0 H0 H1 locs1 → W p l e R s m args below meth c H1 locs1 (cells + mc) (slots + ms) Q (F0 m (pc + 3) ls (.long r :: rest))) : W p l e R s m args below meth c H locs cells slots Q (F0 m pc ls st0) := by
  intro T hT X
  rcases hr T hT X with ⟨v, st₀, t, T', L, h0, X', hL, e1, e2, ⟨⟨r, u, hv, hp, hb⟩, hF⟩, st⟩ | ⟨q, st₀, t, T', L, E, ce, h0, X', hL, e1, e2, ⟨u, hp, hb, hF⟩, hce, hcv, hcl, st⟩
  · cases hv
    obtain ⟨k1, k2, k3⟩ := vx_keep h0 e1 hS hA hf hL hF
    obtain ⟨t2, a1, b1⟩ := kk r u t T'.heap (locs ++ L) e1.symm (by rw [← e2]; exact X'.warmed.alike) hp hb k1 k2 k3 T' rfl X'
    exact ⟨t2, st t2 a1, b1⟩
  · obtain ⟨k1, k2, k3⟩ := vx_keep h0 e1 hS hAX hf hL hF
    obtain ⟨t2, a1, b1⟩ := kx E ce q u t T'.heap (locs ++ L) e1.symm (by rw [← e2]; exact X'.warmed.alike) hp hb k1 k2 k3 (by rw [e1]; exact hce) hcv hcl T' rfl X'
    exact ⟨t2, st.trans a1, b1⟩
theorem vx_callf {S SX : Type} {post : UInt32 → S → Prop} {px : SX → Prop} {B : S → State → Prop} {BX : String → SX → State → Prop} {AX : Nat → Prop} (hr : vx_Run p l e R s m args below meth c H locs cells slots mc ms (F0 m pc ls st0) rest (va_Qf post B A1 a) (vx_X px BX AX) free) (hS : va_S A0 H0 H locs) (hA : ∀ q, q < H.size → A1 q → A0 q) (hf : ∀ q, free q → A0 q) (hAX : ∀ q, q < H.size → AX q → A0 q)
    (kx : ∀ (E : String) (ce : Cell) (q9 : Addr) (u : SX) (t : State) (H1 : Heap) (locs1 : List Loc), t.heap = H1 → s.vm.Alike t.vm → px u → BX E u t → H.size ≤ H1.size → (∀ q : Nat, q < H.size → ¬ AX q → H1[q]? = H[q]?) → va_S A0 H0 H1 locs1 → H1[q9]? = some ce → ce.vm = .none → s.vm.findClass E = some ce.cls → vx_W p l e R s m args below meth c H1 locs1 (cells + mc) (slots + ms) Q (F0 m pc ls rest) q9)
    (kk : ∀ (r : UInt32) (u : S) (t : State) (H1 : Heap) (locs1 : List Loc), t.heap = H1 → s.vm.Alike t.vm → post r u → B u t → H.size ≤ H1.size → (∀ q : Nat, q < H.size → ¬ A1 q → H1[q]? = H[q]?) → va_S A0 H0 H1 locs1 → W p l e R s m args below meth c H1 locs1 (cells + mc) (slots + ms) Q (F0 m (pc + 3) ls (.float r :: rest))) : W p l e R s m args below meth c H locs cells slots Q (F0 m pc ls st0) := by
  intro T hT X
  rcases hr T hT X with ⟨v, st₀, t, T', L, h0, X', hL, e1, e2, ⟨⟨r, u, hv, hp, hb⟩, hF⟩, st⟩ | ⟨q, st₀, t, T', L, E, ce, h0, X', hL, e1, e2, ⟨u, hp, hb, hF⟩, hce, hcv, hcl, st⟩
  · cases hv
    obtain ⟨k1, k2, k3⟩ := vx_keep h0 e1 hS hA hf hL hF
    obtain ⟨t2, a1, b1⟩ := kk r u t T'.heap (locs ++ L) e1.symm (by rw [← e2]; exact X'.warmed.alike) hp hb k1 k2 k3 T' rfl X'
    exact ⟨t2, st t2 a1, b1⟩
  · obtain ⟨k1, k2, k3⟩ := vx_keep h0 e1 hS hAX hf hL hF
    obtain ⟨t2, a1, b1⟩ := kx E ce q u t T'.heap (locs ++ L) e1.symm (by rw [← e2]; exact X'.warmed.alike) hp hb k1 k2 k3 (by rw [e1]; exact hce) hcv hcl T' rfl X'
    exact ⟨t2, st.trans a1, b1⟩
theorem vx_calld {S SX : Type} {post : UInt64 → S → Prop} {px : SX → Prop} {B : S → State → Prop} {BX : String → SX → State → Prop} {AX : Nat → Prop} (hr : vx_Run p l e R s m args below meth c H locs cells slots mc ms (F0 m pc ls st0) rest (va_Qd post B A1 a) (vx_X px BX AX) free) (hS : va_S A0 H0 H locs) (hA : ∀ q, q < H.size → A1 q → A0 q) (hf : ∀ q, free q → A0 q) (hAX : ∀ q, q < H.size → AX q → A0 q)
    (kx : ∀ (E : String) (ce : Cell) (q9 : Addr) (u : SX) (t : State) (H1 : Heap) (locs1 : List Loc), t.heap = H1 → s.vm.Alike t.vm → px u → BX E u t → H.size ≤ H1.size → (∀ q : Nat, q < H.size → ¬ AX q → H1[q]? = H[q]?) → va_S A0 H0 H1 locs1 → H1[q9]? = some ce → ce.vm = .none → s.vm.findClass E = some ce.cls → vx_W p l e R s m args below meth c H1 locs1 (cells + mc) (slots + ms) Q (F0 m pc ls rest) q9)
    (kk : ∀ (r : UInt64) (u : S) (t : State) (H1 : Heap) (locs1 : List Loc), t.heap = H1 → s.vm.Alike t.vm → post r u → B u t → H.size ≤ H1.size → (∀ q : Nat, q < H.size → ¬ A1 q → H1[q]? = H[q]?) → va_S A0 H0 H1 locs1 → W p l e R s m args below meth c H1 locs1 (cells + mc) (slots + ms) Q (F0 m (pc + 3) ls (.double r :: rest))) : W p l e R s m args below meth c H locs cells slots Q (F0 m pc ls st0) := by
  intro T hT X
  rcases hr T hT X with ⟨v, st₀, t, T', L, h0, X', hL, e1, e2, ⟨⟨r, u, hv, hp, hb⟩, hF⟩, st⟩ | ⟨q, st₀, t, T', L, E, ce, h0, X', hL, e1, e2, ⟨u, hp, hb, hF⟩, hce, hcv, hcl, st⟩
  · cases hv
    obtain ⟨k1, k2, k3⟩ := vx_keep h0 e1 hS hA hf hL hF
    obtain ⟨t2, a1, b1⟩ := kk r u t T'.heap (locs ++ L) e1.symm (by rw [← e2]; exact X'.warmed.alike) hp hb k1 k2 k3 T' rfl X'
    exact ⟨t2, st t2 a1, b1⟩
  · obtain ⟨k1, k2, k3⟩ := vx_keep h0 e1 hS hAX hf hL hF
    obtain ⟨t2, a1, b1⟩ := kx E ce q u t T'.heap (locs ++ L) e1.symm (by rw [← e2]; exact X'.warmed.alike) hp hb k1 k2 k3 (by rw [e1]; exact hce) hcv hcl T' rfl X'
    exact ⟨t2, st.trans a1, b1⟩
theorem vx_callv {S SX : Type} {post : S → Prop} {px : SX → Prop} {B : S → State → Prop} {BX : String → SX → State → Prop} {AX : Nat → Prop} (hr : vx_Run p l e R s m args below meth c H locs cells slots mc ms (F0 m pc ls st0) rest (va_Qv post B A1 a) (vx_X px BX AX) free) (hS : va_S A0 H0 H locs) (hA : ∀ q, q < H.size → A1 q → A0 q) (hf : ∀ q, free q → A0 q) (hAX : ∀ q, q < H.size → AX q → A0 q)
    (kx : ∀ (E : String) (ce : Cell) (q9 : Addr) (u : SX) (t : State) (H1 : Heap) (locs1 : List Loc), t.heap = H1 → s.vm.Alike t.vm → px u → BX E u t → H.size ≤ H1.size → (∀ q : Nat, q < H.size → ¬ AX q → H1[q]? = H[q]?) → va_S A0 H0 H1 locs1 → H1[q9]? = some ce → ce.vm = .none → s.vm.findClass E = some ce.cls → vx_W p l e R s m args below meth c H1 locs1 (cells + mc) (slots + ms) Q (F0 m pc ls rest) q9)
    (kk : ∀ (u : S) (t : State) (H1 : Heap) (locs1 : List Loc), t.heap = H1 → s.vm.Alike t.vm → post u → B u t → H.size ≤ H1.size → (∀ q : Nat, q < H.size → ¬ A1 q → H1[q]? = H[q]?) → va_S A0 H0 H1 locs1 → W p l e R s m args below meth c H1 locs1 (cells + mc) (slots + ms) Q (F0 m (pc + 3) ls (rest))) : W p l e R s m args below meth c H locs cells slots Q (F0 m pc ls st0) := by
  intro T hT X
  rcases hr T hT X with ⟨v, st₀, t, T', L, h0, X', hL, e1, e2, ⟨⟨u, hv, hp, hb⟩, hF⟩, st⟩ | ⟨q, st₀, t, T', L, E, ce, h0, X', hL, e1, e2, ⟨u, hp, hb, hF⟩, hce, hcv, hcl, st⟩
  · cases hv
    obtain ⟨k1, k2, k3⟩ := vx_keep h0 e1 hS hA hf hL hF
    obtain ⟨t2, a1, b1⟩ := kk u t T'.heap (locs ++ L) e1.symm (by rw [← e2]; exact X'.warmed.alike) hp hb k1 k2 k3 T' rfl X'
    exact ⟨t2, st t2 a1, b1⟩
  · obtain ⟨k1, k2, k3⟩ := vx_keep h0 e1 hS hAX hf hL hF
    obtain ⟨t2, a1, b1⟩ := kx E ce q u t T'.heap (locs ++ L) e1.symm (by rw [← e2]; exact X'.warmed.alike) hp hb k1 k2 k3 (by rw [e1]; exact hce) hcv hcl T' rfl X'
    exact ⟨t2, st.trans a1, b1⟩
/-- caught by the row x of this method's table; the rows ahead don't take it -/
theorem vx_catch {own name : String} {E : String} {ce : Cell} {q : Addr} (hown : s.vm.findClass own = some m.cls) (pre : List ExceptionTableEntry) (x : ExceptionTableEntry) (suf : List ExceptionTableEntry) (hsplit : c.exceptionTable.toList = pre ++ x :: suf)
    (hpass : ∀ z ∈ pre, covers z pc = false ∨ (z.catchType ≠ 0 ∧ ∃ nm : String, (Cond.classLink own z.catchType nm).before args s = true ∧ va_Nc E nm s)) (hx : covers x pc = true) (h0 : x.catchType ≠ 0)
    (hlink : (Cond.classLink own x.catchType name).before args s = true) (hcast : (Cond.castable E name).before args s = true) (hcell : H[q]? = some ce) (hv : ce.vm = .none) (hcl : s.vm.findClass E = some ce.cls)
    (kk : W p l e R s m args below meth c H locs cells slots Q (F0 m x.handlerPc ls [.ref q])) : vx_W p l e R s m args below meth c H locs cells slots Q (F0 m pc ls rest) q := by
  intro T hT X
  have hpl : e.platform.magicAccessors = ({} : Platform).magicAccessors := by rw [X.admits.platform]
  obtain ⟨c3, c4, hc3, hc4, hasg⟩ := Cond.castable_spec hcast
  cases Option.some.inj (hc3.symm.trans hcl)
  obtain ⟨c5, hc5, hcl5⟩ := Cond.classLink_spec hown hlink e.platform hpl
  cases Option.some.inj (hc4.symm.trans hc5)
  obtain ⟨vm', X', st⟩ := X.thenCaughtThrough q (g := F0 m pc ls rest) rfl (Steps.refl _) (by rw [hT]; exact hcell) (by rw [hv]; rfl) (by obtain ⟨k9, h9, -⟩ := Vm.findClass_spec hcl; exact ⟨k9, h9⟩) pre x suf hsplit
    (fun z hz => by
      rcases hpass z hz with h | ⟨hz0, nm, hl1, hn1⟩
      · exact Or.inl h
      · obtain ⟨c6, hc6, hcl6⟩ := Cond.classLink_spec hown hl1 e.platform hpl
        obtain ⟨a8, b8, h1, h2, h3⟩ := hn1
        cases Option.some.inj (h1.symm.trans hcl)
        cases Option.some.inj (h2.symm.trans hc6)
        exact Or.inr ⟨hz0, _, hcl6, h3⟩) hx (Or.inr ⟨h0, c4, hcl5, hasg⟩)
  obtain ⟨t, a1, b1⟩ := kk (T.setVm vm') hT X'
  exact ⟨t, st.trans a1, b1⟩
end Rows
section Ends
variable {p : Program} {l : Launch} {e : Env} {R : Room} {s : State} {m : MethodId} {args : Array Value} {below : List Frame} {meth : Method} {c : Code} {H : Heap} {locs : List Loc} {cells slots : Nat} {Q : State → Prop}
variable {mc ms : Nat} {free : Addr → Prop} {A0 A1 : Nat → Prop} {H0 : Heap} {a : Array Value} {ls : Array Slot} {st0 rest : List Value}
variable {Qc : Array Value → State → Outcome → State → Prop} {XC : String → State → State → Prop}
/-- what a body that may throw owes at its end -/
def vx_MQ (below : List Frame) (Qc : Array Value → State → Outcome → State → Prop) (XC : String → State → State → Prop) (a : Array Value) (s : State) (mc ms : Nat) (free : Addr → Prop) : State → Prop := fun t =>
  ∃ o, t.status = .running ∧ Ended t below o ∧ vx_Q Qc XC mc ms free a s o t
theorem vx_ret {g : JFrame} {mc ms : Nat} (k : W p l e R s m args below meth c H locs cells slots (MQ below Qc args s mc ms free) g) : W p l e R s m args below meth c H locs cells slots (vx_MQ below Qc XC args s mc ms free) g := by
  intro T hT X
  obtain ⟨t, a1, o, b1, b2, b3, b4⟩ := k T hT X
  exact ⟨t, a1, o, b1, b2, Or.inl ⟨b3, b4⟩⟩
/-- not caught here: it goes on to the caller -/
theorem vx_widen {g : JFrame} {q : Addr} {k n : Nat} (h1 : cells ≤ k) (h2 : slots ≤ n) (kk : vx_W p l e R s m args below meth c H locs k n Q g q) : vx_W p l e R s m args below meth c H locs cells slots Q g q := fun T hT X => kk T hT (stand_widen X h1 h2)
theorem vx_out {pc : Nat} {E : String} {ce : Cell} {q : Addr} {mc ms : Nat} (hout : ∀ x ∈ c.exceptionTable.toList, covers x pc = false) (hlocks : meth.locks = false) (hcell : H[q]? = some ce) (hv : ce.vm = .none) (hcl : s.vm.findClass E = some ce.cls)
    (hx : ∀ t : State, t.heap = H → s.vm.Alike t.vm → XC E s t) (hf : ∀ z ∈ locs, free z.base) (hc : cells ≤ mc) (hs : slots ≤ ms) :
    vx_W p l e R s m args below meth c H locs cells slots (vx_MQ below Qc XC args s mc ms free) (F0 m pc ls rest) q := by
  intro T hT X
  obtain ⟨st1, hrun, hend, hW, hsm⟩ := X.leaveThrown q (g := F0 m pc ls rest) rfl rfl rfl hout hlocks
  have hcell9 : (T.setFrames (.throwing q :: below)).heap[q]? = some ce := by
    show T.heap[q]? = some ce
    rw [hT]; exact hcell
  exact ⟨_, st1, .threw q, hrun, hend, Or.inr ⟨q, rfl, E, ce, locs, hx _ hT hW.alike, hcell9, hv, hcl, hW, hsm.mono hc hs, hf⟩⟩
theorem vx_frame {U : State} {k n : Nat} (h : s.sameButNew ({ U with vm := s.vm } : State) locs k n) : s.heap.size ≤ U.heap.size ∧ ∀ q : Nat, q < s.heap.size → (∀ z ∈ locs, z.base ≠ q) → U.heap[q]? = s.heap[q]? := by
  obtain ⟨-, h2, -, -, -, h6⟩ := h
  refine ⟨h2, fun q hq hz => ?_⟩
  obtain ⟨c9, e1, e2, e3, e4⟩ := h6 q _ (Array.getElem?_eq_getElem hq)
  have hs : c9.slots = (s.heap[q]).slots := Array.ext_getElem? fun i => e4 i fun hm => hz _ hm rfl
  have h9 : c9 = s.heap[q] := by
    rw [hs] at e2
    exact e2
  have e5 : U.heap[q]? = some c9 := e1
  rw [e5, h9, Array.getElem?_eq_getElem hq]
/-- the words of a throw but the four that speak of the heap -/
def vx_no (w : Cond) : Bool := decide (w ≠ .isRef (.static Bundle.tN "UNASSIGNED_STACK" Bundle.steD)) && decide (w ≠ .isRef (.static Bundle.tN "SUPPRESSED_SENTINEL" Bundle.listD)) && decide (w ≠ .laysStatic Bundle.tN "UNASSIGNED_STACK" Bundle.steD) && decide (w ≠ .laysStatic Bundle.tN "SUPPRESSED_SENTINEL" Bundle.listD)
def vx_at0 (own : String) (ic : Nat) (X : String) (names : List String) : List Cond := (Bundle.ownAtoms0 own ic X names).filter vx_no
def vx_atS (own : String) (ic : Nat) (X : String) (names : List String) : List Cond := (Bundle.ownAtoms own ic X names).filter vx_no
/-- a word that the tables alone decide, or a good one -/
def vx_ot (w : Cond) : Bool := w.onTables || goodWord w
theorem vx_ot_at {args a' : Array Value} {s U : State} {w : Cond} (hW : s.WarmedH U.vm) (hvm : s.vm = U.vm) (hg : vx_ot w = true) (h : w.before args s = true) : w.before a' U = true := by
  simp only [vx_ot, Bool.or_eq_true] at hg
  rcases hg with hg | hg
  · exact va_tabs hg hvm h
  · exact word_at hW (good_of_word hg) h
/-- a list's words: the good ones out of the method's own list, the others by premises of their own -/
theorem vx_hat {args : Array Value} {s : State} {L B : List Cond} (h1 : ∀ w ∈ L.filter goodWord, w.before args s = true) (h2 : ∀ w ∈ L.filter (fun w => !goodWord w), w ∈ B) (h3 : ∀ w ∈ B, w.before args s = true) : ∀ w ∈ L, w.before args s = true := by
  intro w hw
  by_cases g : goodWord w = true
  · exact h1 w (List.mem_filter.mpr ⟨hw, g⟩)
  · refine h3 w (h2 w (List.mem_filter.mpr ⟨hw, ?_⟩))
    show (!goodWord w) = true
    cases hgw : goodWord w
    · rfl
    · exact absurd hgw g
theorem vx_c {args : Array Value} {s : State} {w : Cond} {B : List Cond} (h : w.before args s = true) (t : ∀ w ∈ B, w.before args s = true) : ∀ w' ∈ w :: B, w'.before args s = true := fun w' h' => (List.mem_cons.mp h').elim (fun e => by rw [e]; exact h) (t w')
theorem vx_n {args : Array Value} {s : State} : ∀ w ∈ ([] : List Cond), w.before args s = true := fun _ h => nomatch h
theorem vx_own {args : Array Value} {s : State} {L : List Cond} (h1 : ∀ w ∈ L.filter vx_no, w.before args s = true)
    (hU : (Cond.isRef (.static Bundle.tN "UNASSIGNED_STACK" Bundle.steD)).before args s = true) (hN : (Cond.isRef (.static Bundle.tN "SUPPRESSED_SENTINEL" Bundle.listD)).before args s = true)
    (lU : (Cond.laysStatic Bundle.tN "UNASSIGNED_STACK" Bundle.steD).before args s = true) (lN : (Cond.laysStatic Bundle.tN "SUPPRESSED_SENTINEL" Bundle.listD).before args s = true) : ∀ w ∈ L, w.before args s = true := by
  intro w hw
  by_cases e1 : w = .isRef (.static Bundle.tN "UNASSIGNED_STACK" Bundle.steD)
  · rw [e1]; exact hU
  · by_cases e2 : w = .isRef (.static Bundle.tN "SUPPRESSED_SENTINEL" Bundle.listD)
    · rw [e2]; exact hN
    · by_cases e3 : w = .laysStatic Bundle.tN "UNASSIGNED_STACK" Bundle.steD
      · rw [e3]; exact lU
      · by_cases e4 : w = .laysStatic Bundle.tN "SUPPRESSED_SENTINEL" Bundle.listD
        · rw [e4]; exact lN
        · exact h1 w (List.mem_filter.mpr ⟨hw, by unfold vx_no; rw [decide_eq_true e1, decide_eq_true e2, decide_eq_true e3, decide_eq_true e4]; rfl⟩)
/-- where a static field lies, its class's statics cell in H -/
def vx_L (C n d : String) (A : Nat → Prop) (U : State) (H : Heap) : Prop := ∃ (c : ClassId) (k : Class) (i : Nat) (f : Field) (a : Nat) (cell : Cell), U.vm.findClass C = some c ∧ U.fieldFound? C n d = some (c, k, i, f) ∧ f.isStatic = true ∧ k.statics = some a ∧ H[a]? = some cell ∧ cell.vm.isStatics = true ∧ cell.cls = c ∧ f.slot < cell.slots.size ∧ k.staticTypes[f.slot]? = some f.type ∧ ¬ A a
theorem vx_L.moved {C n d : String} {A : Nat → Prop} {u U : State} {H : Heap} (hvm : u.vm.Alike U.vm) (h : vx_L C n d A u H) : vx_L C n d A U H := by
  obtain ⟨c, k, i, f, a, cell, h1, h2, h3, h4, h5, h6, h7, h8, h9, h10⟩ := h
  obtain ⟨k', hi', he⟩ := State.fieldFound?_setVm hvm h2
  exact ⟨c, k', i, f, a, cell, by rw [hvm.findClass]; exact h1, hi', h3, by rw [he]; exact h4, h5, h6, h7, h8, by rw [he]; exact h9, h10⟩
theorem vx_L.kept {C n d : String} {A : Nat → Prop} {U : State} {H H1 : Heap} (h : vx_L C n d A U H) (hq : ∀ a : Nat, a < H.size → ¬ A a → H1[a]? = H[a]?) : vx_L C n d A U H1 := by
  obtain ⟨c, k, i, f, a, cell, h1, h2, h3, h4, h5, h6, h7, h8, h9, h10⟩ := h
  exact ⟨c, k, i, f, a, cell, h1, h2, h3, h4, by rw [hq a (Array.getElem?_eq_some_iff.mp h5).1 h10]; exact h5, h6, h7, h8, h9, h10⟩
theorem vx_L.narrow {C n d : String} {A B : Nat → Prop} {U : State} {H : Heap} (h : vx_L C n d A U H) (hAB : ∀ q, B q → A q) : vx_L C n d B U H := by
  obtain ⟨c, k, i, f, a, cell, h1, h2, h3, h4, h5, h6, h7, h8, h9, h10⟩ := h
  exact ⟨c, k, i, f, a, cell, h1, h2, h3, h4, h5, h6, h7, h8, h9, fun z => h10 (hAB _ z)⟩
theorem vx_L.word {C n d : String} {A : Nat → Prop} {s : State} {args : Array Value} (h : vx_L C n d A s s.heap) : (Cond.laysStatic C n d).before args s = true := by
  obtain ⟨c, k, i, f, a, cell, h1, h2, h3, h4, h5, h6, h7, h8, h9, -⟩ := h
  show (Cond.laysStatic C n d).holds args s none s [] = true
  exact Cond.laysStatic_of h1 h2 h3 h4 h5 h6 h7 h8 h9
/-- .. and what it holds: null or some reference -/
def vx_Zq (C n d : String) (A : Nat → Prop) (U : State) (H : Heap) : Prop := va_Zq C n d A U H ∧ vx_L C n d A U H
theorem vx_Zq.moved {C n d : String} {A : Nat → Prop} {u U : State} {H : Heap} (hvm : u.vm.Alike U.vm) (h : vx_Zq C n d A u H) : vx_Zq C n d A U H := ⟨va_Zq.moved hvm h.1, vx_L.moved hvm h.2⟩
theorem vx_Zq.kept {C n d : String} {A : Nat → Prop} {U : State} {H H1 : Heap} (h : vx_Zq C n d A U H) (hq : ∀ a : Nat, a < H.size → ¬ A a → H1[a]? = H[a]?) : vx_Zq C n d A U H1 := ⟨va_Zq.kept h.1 hq, vx_L.kept h.2 hq⟩
theorem vx_Zq.narrow {C n d : String} {A B : Nat → Prop} {U : State} {H : Heap} (h : vx_Zq C n d A U H) (hAB : ∀ q, B q → A q) : vx_Zq C n d B U H := ⟨va_Zq.narrow h.1 hAB, vx_L.narrow h.2 hAB⟩
theorem vx_Zqof {args : Array Value} {s : State} {C n d : String} {A : Nat → Prop} (hl : (Cond.laysStatic C n d).before args s = true) (hini : (Cond.initialized C).before args s = true) (h : (Cond.isRef (.static C n d)).before args s = true) (hA : ∀ a : Nat, a < s.heap.size → ¬ A a) : vx_Zq C n d A s s.heap := by
  refine ⟨va_Zqof hl hini h hA, ?_⟩
  obtain ⟨c, k, i, f, a, cell, h1, h2, h3, h4, h5, h6, h7, h8, h9⟩ := Cond.laysStatic_spec hl
  exact ⟨c, k, i, f, a, cell, h1, h2, h3, h4, h5, h6, h7, h8, h9, hA a (Array.getElem?_eq_some_iff.mp h5).1⟩
theorem vx_isRef {C n d : String} {v : Value} {A : Nat → Prop} {s : State} {args : Array Value} (h : va_Z C n d v A s s.heap) (hv : v.isRef = true) : (Cond.isRef (.static C n d)).before args s = true := by
  obtain ⟨cf, kf, fi, f, a, cell, h1, h2, h3, h4, h5, h6, h7, -⟩ := h
  have he : (Term.static C n d).eval args s none [] s = some v := by
    simp [Term.eval, State.fieldNamed?, h1, h2, h4, h5, h6, h7]
  simp only [Cond.before, Cond.holds, Cond.value, he]
  cases v <;> simp_all [Value.isRef]
theorem vx_isRefq {C n d : String} {A : Nat → Prop} {s : State} {args : Array Value} (h : va_Zq C n d A s s.heap) : (Cond.isRef (.static C n d)).before args s = true := by
  rcases h with h | ⟨t, h⟩
  · exact vx_isRef h rfl
  · exact vx_isRef h rfl
/-- the same frame, seen from here: as if the method were called anew in this heap -/
theorem vx_rebase {T : State} (X : Stand p l e R s m args below meth c T locs cells slots) {R' : Room} (hf : R'.frames ≤ R.frames) (hl : R'.locals ≤ R.locals) (hc : cells + R'.cells ≤ R.cells) (hs : slots + R'.slots ≤ R.slots) :
    Stand p l e R' ((T.setVm s.vm).setFrames (.invoking m args :: below)) m args below meth c T [] 0 0 := by
  have htop : (T.setVm s.vm).topJava?.isSome := X.here.top
  have hF : ((T.setVm s.vm).setFrames (.invoking m args :: below)).frames = .invoking m args :: below := State.frames_setFrames _ (State.cur_lt_of_top htop)
  obtain ⟨g₀, hg0⟩ := Option.isSome_iff_exists.mp htop
  obtain ⟨r, hr⟩ := State.topJava?_eq_some.mp hg0
  have hl9 : e.platform.stackLimits (T.setVm s.vm).me = e.platform.stackLimits s.me := X.limits
  have hb9 : (T.setVm s.vm).me.stackBytes = s.me.stackBytes := X.bytes
  refine ⟨X.admits, X.cas, X.clock, hF, ?_, X.hears, X.method, X.code, X.here, X.tail, X.warmed, ?_, ?_, ?_⟩
  · have h := X.room
    have hU : ((T.setVm s.vm).setFrames (.invoking m args :: below)).localsInUse = s.localsInUse := by
      rw [State.localsInUse_invoking hF (meth := meth) (c := c) X.method X.code, State.localsInUse_invoking X.frames X.method X.code]
    simp only [State.hasRoom, Bool.and_eq_true, decide_eq_true_eq] at h ⊢
    obtain ⟨⟨⟨⟨h1, h2, h3, h4, h5, h6⟩, h7⟩, h8⟩, h9⟩ := h
    rw [X.frames, List.length_cons] at h2 h3
    have q1 := X.heapSize
    have q2 := X.used
    simp only [hF, hU, List.length_cons, State.stackLimits_setFrames, State.stackBytes_setFrames, hl9, hb9]
    refine ⟨⟨⟨⟨by omega, by omega, by omega, by omega, by omega, h6⟩, ?_⟩, ?_⟩, X.book⟩
    · show T.heap.size + R'.cells ≤ e.platform.maxCells
      omega
    · show T.slotsUsed + R'.slots ≤ e.platform.maxSlots
      omega
  · rw [State.stackLimits_setFrames]; rfl
  · rw [State.stackBytes_setFrames]; rfl
  · refine ⟨?_, Nat.le_refl _, Nat.le_refl _, ?_, ?_, fun a c9 h9 => ⟨c9, h9, rfl, rfl, fun _ _ => rfl⟩⟩
    · obtain ⟨t, ht, -⟩ := State.frames_cons hr
      show T.setVm s.vm = { ((T.setVm s.vm).setFrames (.invoking m args :: below)).setFrames (T.setVm s.vm).frames with heap := T.heap, slotsUsed := T.slotsUsed }
      rw [State.setFrames_setFrames, State.setFrames_self ht]
      rfl
    · show T.slotsUsed = T.slotsUsed + ((T.heap.toList.drop T.heap.size).map (·.slots.size)).sum
      rw [List.drop_eq_nil_of_le (Nat.le_of_eq Array.length_toList)]
      rfl
    · show ((T.heap.toList.drop T.heap.size).map (·.slots.size)).sum ≤ 0
      rw [List.drop_eq_nil_of_le (Nat.le_of_eq Array.length_toList)]
      exact Nat.le_refl _
/-- 'throw new E()': new; dup; invokespecial; athrow -/
theorem vx_throw0 {cc : ByteArray} {pc : Nat} (hexec : p.tables.exec = Jvm.exec) (hb : c.code = cc) (hl : l.stackTraces = false) {own cls : String} {names : List String} {ik ic mc ms : Nat} {A : Nat → Prop}
    (hown : s.vm.findClass own = some m.cls) (hcls : Bundle.fit cls = true) (hnames : ∀ n ∈ names, Bundle.fit n = true)
    (hk : (Cond.classLink own ik cls).before args s = true) (hini : (Cond.initialized cls).before args s = true) (hat : ∀ w ∈ vx_at0 own ic cls names, w.before args s = true)
    (hgood : ∀ w ∈ Cond.classLink own ik cls :: Cond.initialized cls :: vx_at0 own ic cls names, vx_ot w = true)
    (hU : vx_Zq Bundle.tN "UNASSIGNED_STACK" Bundle.steD A s s.heap) (hN : vx_Zq Bundle.tN "SUPPRESSED_SENTINEL" Bundle.listD A s s.heap) (hS : va_S A s.heap H locs) (hsize : ls.size = c.maxLocals)
    (d0 : decode cc pc = .ok (.new ik, 3)) (d3 : decode cc (pc + 3) = .ok (.dup, 1)) (d4 : decode cc (pc + 4) = .ok (.invokespecial ic, 3)) (d7 : decode cc (pc + 7) = .ok (.athrow, 1))
    (hout : ∀ x ∈ c.exceptionTable.toList, covers x (pc + 7) = false)
    (hRframes : names.length + 3 < R.frames) (hRlocals : (rest.map fun v => v.category).sum + (13 * (names.length + 1) + 42) ≤ R.locals) (hRcells : cells + 1 ≤ R.cells) (hRslots : slots + 6 ≤ R.slots) (hlocks : meth.locks = false)
    (hx : ∀ t : State, s.vm.Alike t.vm → H.size ≤ t.heap.size → (∀ q : Nat, q < H.size → t.heap[q]? = H[q]?) → XC cls s t)
    (hf : ∀ z ∈ locs, free z.base) (hc : cells + 1 ≤ mc) (hs : slots + 6 ≤ ms) :
    W p l e R s m args below meth c H locs cells slots (vx_MQ below Qc XC args s mc ms free) (F0 m pc ls rest) := by
  intro T hT X
  have htr : e.platform.stackTraces = false := (show e.platform.stackTraces = l.stackTraces by rw [X.admits.platform]).trans hl
  have Y := vx_rebase X (R' := { frames := R.frames, locals := R.locals, cells := 1, slots := 6 }) (Nat.le_refl _) (Nat.le_refl _) hRcells hRslots
  obtain ⟨s', hA⟩ : ∃ z, z = (T.setVm s.vm).setFrames (.invoking m args :: below) := ⟨_, rfl⟩
  rw [← hA] at Y
  have hvm : s'.vm = s.vm := by rw [hA]; rfl
  have hhp : s'.heap = H := by rw [hA]; exact hT
  have hW0 : s.WarmedH s'.vm := by rw [hvm]; exact State.WarmedH.refl s
  have hat' : ∀ w ∈ vx_at0 own ic cls names, w.before args s' = true := fun w hw => vx_ot_at hW0 hvm.symm (hgood w (List.mem_cons_of_mem _ (List.mem_cons_of_mem _ hw))) (hat w hw)
  have hk' : (Cond.classLink own ik cls).before args s' = true := vx_ot_at hW0 hvm.symm (hgood _ List.mem_cons_self) hk
  have hini' : (Cond.initialized cls).before args s' = true := vx_ot_at hW0 hvm.symm (hgood _ (List.mem_cons_of_mem _ List.mem_cons_self)) hini
  have hU' : vx_Zq Bundle.tN "UNASSIGNED_STACK" Bundle.steD A s' s'.heap := by rw [hhp]; exact vx_Zq.moved hW0.alike (hU.kept hS.2.1)
  have hN' : vx_Zq Bundle.tN "SUPPRESSED_SENTINEL" Bundle.listD A s' s'.heap := by rw [hhp]; exact vx_Zq.moved hW0.alike (hN.kept hS.2.1)
  have h : ∀ w ∈ Bundle.ownAtoms0 own ic cls names, w.before args s' = true := vx_own hat' (vx_isRefq hU'.1) (vx_isRefq hN'.1) hU'.2.word hN'.2.word
  have hown' : s'.vm.findClass own = some m.cls := by rw [hvm]; exact hown
  have hins : (Cond.instantiable cls 6).before args s' = true := h _ (by simp [Bundle.ownAtoms0])
  obtain ⟨vm₁, cX, kX, hfX, hkX, -, -, X₁, st1⟩ := Y.newCold hexec (own := own) (C := cls) (index := ik) (n := 6) hown' hk' hins hini'
    (g := F0 m pc ls rest) rfl (by rw [hb]; exact d0) (Nat.le_refl _) (Nat.le_refl _)
  generalize hT1 : (T.setVm vm₁).pushCell { cls := cX, slots := kX.instanceTypes.map defaultValue, vm := .none } = T1 at X₁ st1
  have hcat : (Value.ref T.heap.size).category = 1 := rfl
  have hcellA : T1.heap[T.heap.size]? = some (freshCell cX kX) := by rw [← hT1]; exact State.heap_pushCell_size _ _
  have d3' : decode c.code (pc + 3) = .ok (.dup, 1) := by rw [hb]; exact d3
  obtain ⟨U, hsteps, hrun, hend, hW, hsame, ce, hce, hO⟩ := X₁.ctorThrow0 hexec htr (own := own) (cls := cls) (names := names) (ic := ic) hown' hcls hnames h (fun x hx => nomatch hx) hfX hkX hcellA (by rw [hhp, hT]; exact Nat.le_refl _)
    (g := { method := m, pc := pc + 4, locals := ls, stack := .ref T.heap.size :: .ref T.heap.size :: rest, locked := none }) rfl hsize rfl rfl (rest := rest) rfl
    (by rw [hb]; exact d4) (by rw [hb]; exact d7) hout hRframes (by simp only [List.map_cons, List.sum_cons, hcat]; omega) hlocks
  obtain ⟨f1, f2⟩ := vx_frame hsame
  rw [hhp] at f1 f2
  have hWs : s.WarmedH U.vm := State.WarmedH.trans hW0 hW
  have hcl : s.vm.findClass cls = some ce.cls := by
    have h9 := hO.cls
    rw [hvm] at h9
    exact h9
  have hall : s.sameButNew ({ U with vm := s.vm } : State) locs mc ms := by
    subst hA
    obtain ⟨e1, e2⟩ := hsame
    rw [State.setFrames_setFrames] at e1
    have h2 : (T.setVm s.vm).sameButNew ({ U with vm := s.vm } : State) [] (0 + 1) (0 + 6) := ⟨e1, e2⟩
    have h3 := X.same.trans h2
    rw [List.append_nil] at h3
    exact h3.mono hc hs
  refine ⟨U, ?_, .threw T.heap.size, hrun, hend, Or.inr ⟨T.heap.size, rfl, cls, ce, locs, hx U hWs.alike f1 (fun q hq => f2 q hq (fun z hz => nomatch hz)), hce, hO.vm, hcl, hWs, hall, hf⟩⟩
  refine st1 _ ?_
  show Steps p.tables e below (T1.setTop { method := m, pc := pc + 3, locals := ls, stack := .ref T.heap.size :: rest, locked := none }) _
  jvm_step X₁.here [X₁.here.top, hexec, d3', Value.category]
  exact hsteps
/-- 'throw new E("text")': new; dup; ldc; invokespecial; athrow -/
theorem vx_throwS {cc : ByteArray} {pc : Nat} (hexec : p.tables.exec = Jvm.exec) (hb : c.code = cc) (hl : l.stackTraces = false) {own cls text : String} {names : List String} {ik is ic mc ms sa : Nat} {A : Nat → Prop}
    (hown : s.vm.findClass own = some m.cls) (hcls : Bundle.fit cls = true) (hnames : ∀ n ∈ names, Bundle.fit n = true)
    (hk : (Cond.classLink own ik cls).before args s = true) (hini : (Cond.initialized cls).before args s = true) (hstr : vk_R own is text sa s) (hat : ∀ w ∈ vx_atS own ic cls names, w.before args s = true)
    (hgood : ∀ w ∈ Cond.classLink own ik cls :: Cond.initialized cls :: vx_atS own ic cls names, vx_ot w = true)
    (hU : vx_Zq Bundle.tN "UNASSIGNED_STACK" Bundle.steD A s s.heap) (hN : vx_Zq Bundle.tN "SUPPRESSED_SENTINEL" Bundle.listD A s s.heap) (hS : va_S A s.heap H locs) (hsize : ls.size = c.maxLocals)
    (d0 : decode cc pc = .ok (.new ik, 3)) (d3 : decode cc (pc + 3) = .ok (.dup, 1)) (d4 : decode cc (pc + 4) = .ok (.ldc is, 2)) (d6 : decode cc (pc + 6) = .ok (.invokespecial ic, 3)) (d9 : decode cc (pc + 9) = .ok (.athrow, 1))
    (hout : ∀ x ∈ c.exceptionTable.toList, covers x (pc + 9) = false)
    (hRframes : names.length + 3 < R.frames) (hRlocals : (rest.map fun v => v.category).sum + (13 * (names.length + 1) + 43) ≤ R.locals) (hRcells : cells + 1 ≤ R.cells) (hRslots : slots + 6 ≤ R.slots) (hlocks : meth.locks = false)
    (hx : ∀ t : State, s.vm.Alike t.vm → H.size ≤ t.heap.size → (∀ q : Nat, q < H.size → t.heap[q]? = H[q]?) → XC cls s t)
    (hf : ∀ z ∈ locs, free z.base) (hc : cells + 1 ≤ mc) (hs : slots + 6 ≤ ms) :
    W p l e R s m args below meth c H locs cells slots (vx_MQ below Qc XC args s mc ms free) (F0 m pc ls rest) := by
  intro T hT X
  have htr : e.platform.stackTraces = false := (show e.platform.stackTraces = l.stackTraces by rw [X.admits.platform]).trans hl
  have Y := vx_rebase X (R' := { frames := R.frames, locals := R.locals, cells := 1, slots := 6 }) (Nat.le_refl _) (Nat.le_refl _) hRcells hRslots
  obtain ⟨s', hA⟩ : ∃ z, z = (T.setVm s.vm).setFrames (.invoking m args :: below) := ⟨_, rfl⟩
  rw [← hA] at Y
  have hvm : s'.vm = s.vm := by rw [hA]; rfl
  have hhp : s'.heap = H := by rw [hA]; exact hT
  have hW0 : s.WarmedH s'.vm := by rw [hvm]; exact State.WarmedH.refl s
  have hat' : ∀ w ∈ vx_atS own ic cls names, w.before args s' = true := fun w hw => vx_ot_at hW0 hvm.symm (hgood w (List.mem_cons_of_mem _ (List.mem_cons_of_mem _ hw))) (hat w hw)
  have hk' : (Cond.classLink own ik cls).before args s' = true := vx_ot_at hW0 hvm.symm (hgood _ List.mem_cons_self) hk
  have hini' : (Cond.initialized cls).before args s' = true := vx_ot_at hW0 hvm.symm (hgood _ (List.mem_cons_of_mem _ List.mem_cons_self)) hini
  have hU' : vx_Zq Bundle.tN "UNASSIGNED_STACK" Bundle.steD A s' s'.heap := by rw [hhp]; exact vx_Zq.moved hW0.alike (hU.kept hS.2.1)
  have hN' : vx_Zq Bundle.tN "SUPPRESSED_SENTINEL" Bundle.listD A s' s'.heap := by rw [hhp]; exact vx_Zq.moved hW0.alike (hN.kept hS.2.1)
  have h : ∀ w ∈ Bundle.ownAtoms own ic cls names, w.before args s' = true := vx_own hat' (vx_isRefq hU'.1) (vx_isRefq hN'.1) hU'.2.word hN'.2.word
  have hown' : s'.vm.findClass own = some m.cls := by rw [hvm]; exact hown
  have hins : (Cond.instantiable cls 6).before args s' = true := h _ (by simp [Bundle.ownAtoms])
  obtain ⟨vm₁, cX, kX, hfX, hkX, -, -, X₁, st1⟩ := Y.newCold hexec (own := own) (C := cls) (index := ik) (n := 6) hown' hk' hins hini'
    (g := F0 m pc ls rest) rfl (by rw [hb]; exact d0) (Nat.le_refl _) (Nat.le_refl _)
  generalize hT1 : (T.setVm vm₁).pushCell { cls := cX, slots := kX.instanceTypes.map defaultValue, vm := .none } = T1 at X₁ st1
  have hcat : (Value.ref T.heap.size).category = 1 := rfl
  have hcellA : T1.heap[T.heap.size]? = some (freshCell cX kX) := by rw [← hT1]; exact State.heap_pushCell_size _ _
  have d3' : decode c.code (pc + 3) = .ok (.dup, 1) := by rw [hb]; exact d3
  have d4' : decode c.code (pc + 4) = .ok (.ldc is, 2) := by rw [hb]; exact d4
  have hstr' : vk_R own is text sa s' := vk_R.warm hW0 hstr
  obtain ⟨U, hsteps, hrun, hend, hW, hsame, ce, hce, hO⟩ := X₁.ctorThrowS hexec htr (own := own) (cls := cls) (names := names) (ic := ic) hown' hcls hnames h (fun x hx => nomatch hx) hfX hkX hcellA (by rw [hhp, hT]; exact Nat.le_refl _) (msg := .ref sa) rfl
    (g := { method := m, pc := pc + 6, locals := ls, stack := .ref sa :: .ref T.heap.size :: .ref T.heap.size :: rest, locked := none }) rfl hsize rfl rfl (rest := rest) rfl
    (by rw [hb]; exact d6) (by rw [hb]; exact d9) hout hRframes (by simp only [List.map_cons, List.sum_cons, hcat]; omega) hlocks
  obtain ⟨f1, f2⟩ := vx_frame hsame
  rw [hhp] at f1 f2
  have hWs : s.WarmedH U.vm := State.WarmedH.trans hW0 hW
  have hcl : s.vm.findClass cls = some ce.cls := by
    have h9 := hO.cls
    rw [hvm] at h9
    exact h9
  have hall : s.sameButNew ({ U with vm := s.vm } : State) locs mc ms := by
    subst hA
    obtain ⟨e1, e2⟩ := hsame
    rw [State.setFrames_setFrames] at e1
    have h2 : (T.setVm s.vm).sameButNew ({ U with vm := s.vm } : State) [] (0 + 1) (0 + 6) := ⟨e1, e2⟩
    have h3 := X.same.trans h2
    rw [List.append_nil] at h3
    exact h3.mono hc hs
  refine ⟨U, ?_, .threw T.heap.size, hrun, hend, Or.inr ⟨T.heap.size, rfl, cls, ce, locs, hx U hWs.alike f1 (fun q hq => f2 q hq (fun z hz => nomatch hz)), hce, hO.vm, hcl, hWs, hall, hf⟩⟩
  refine st1 _ ?_
  show Steps p.tables e below (T1.setTop { method := m, pc := pc + 3, locals := ls, stack := .ref T.heap.size :: rest, locked := none }) _
  jvm_step X₁.here [X₁.here.top, hexec, d3', Value.category]
  exact X₁.ldcString hexec (own := own) (text := text) (index := is) (a := sa) hown' hstr'.1 hstr'.2
    (g := { method := m, pc := pc + 4, locals := ls, stack := .ref T.heap.size :: .ref T.heap.size :: rest, locked := none }) rfl d4' _ hsteps
/-- 'throw new E("text")', the text by a wide index -/
theorem vx_throwSW {cc : ByteArray} {pc : Nat} (hexec : p.tables.exec = Jvm.exec) (hb : c.code = cc) (hl : l.stackTraces = false) {own cls text : String} {names : List String} {ik is ic mc ms sa : Nat} {A : Nat → Prop}
    (hown : s.vm.findClass own = some m.cls) (hcls : Bundle.fit cls = true) (hnames : ∀ n ∈ names, Bundle.fit n = true)
    (hk : (Cond.classLink own ik cls).before args s = true) (hini : (Cond.initialized cls).before args s = true) (hstr : vk_R own is text sa s) (hat : ∀ w ∈ vx_atS own ic cls names, w.before args s = true)
    (hgood : ∀ w ∈ Cond.classLink own ik cls :: Cond.initialized cls :: vx_atS own ic cls names, vx_ot w = true)
    (hU : vx_Zq Bundle.tN "UNASSIGNED_STACK" Bundle.steD A s s.heap) (hN : vx_Zq Bundle.tN "SUPPRESSED_SENTINEL" Bundle.listD A s s.heap) (hS : va_S A s.heap H locs) (hsize : ls.size = c.maxLocals)
    (d0 : decode cc pc = .ok (.new ik, 3)) (d3 : decode cc (pc + 3) = .ok (.dup, 1)) (d4 : decode cc (pc + 4) = .ok (.ldc_w is, 3)) (d7 : decode cc (pc + 7) = .ok (.invokespecial ic, 3)) (d10 : decode cc (pc + 10) = .ok (.athrow, 1))
    (hout : ∀ x ∈ c.exceptionTable.toList, covers x (pc + 10) = false)
    (hRframes : names.length + 3 < R.frames) (hRlocals : (rest.map fun v => v.category).sum + (13 * (names.length + 1) + 43) ≤ R.locals) (hRcells : cells + 1 ≤ R.cells) (hRslots : slots + 6 ≤ R.slots) (hlocks : meth.locks = false)
    (hx : ∀ t : State, s.vm.Alike t.vm → H.size ≤ t.heap.size → (∀ q : Nat, q < H.size → t.heap[q]? = H[q]?) → XC cls s t)
    (hf : ∀ z ∈ locs, free z.base) (hc : cells + 1 ≤ mc) (hs : slots + 6 ≤ ms) :
    W p l e R s m args below meth c H locs cells slots (vx_MQ below Qc XC args s mc ms free) (F0 m pc ls rest) := by
  intro T hT X
  have htr : e.platform.stackTraces = false := (show e.platform.stackTraces = l.stackTraces by rw [X.admits.platform]).trans hl
  have Y := vx_rebase X (R' := { frames := R.frames, locals := R.locals, cells := 1, slots := 6 }) (Nat.le_refl _) (Nat.le_refl _) hRcells hRslots
  obtain ⟨s', hA⟩ : ∃ z, z = (T.setVm s.vm).setFrames (.invoking m args :: below) := ⟨_, rfl⟩
  rw [← hA] at Y
  have hvm : s'.vm = s.vm := by rw [hA]; rfl
  have hhp : s'.heap = H := by rw [hA]; exact hT
  have hW0 : s.WarmedH s'.vm := by rw [hvm]; exact State.WarmedH.refl s
  have hat' : ∀ w ∈ vx_atS own ic cls names, w.before args s' = true := fun w hw => vx_ot_at hW0 hvm.symm (hgood w (List.mem_cons_of_mem _ (List.mem_cons_of_mem _ hw))) (hat w hw)
  have hk' : (Cond.classLink own ik cls).before args s' = true := vx_ot_at hW0 hvm.symm (hgood _ List.mem_cons_self) hk
  have hini' : (Cond.initialized cls).before args s' = true := vx_ot_at hW0 hvm.symm (hgood _ (List.mem_cons_of_mem _ List.mem_cons_self)) hini
  have hU' : vx_Zq Bundle.tN "UNASSIGNED_STACK" Bundle.steD A s' s'.heap := by rw [hhp]; exact vx_Zq.moved hW0.alike (hU.kept hS.2.1)
  have hN' : vx_Zq Bundle.tN "SUPPRESSED_SENTINEL" Bundle.listD A s' s'.heap := by rw [hhp]; exact vx_Zq.moved hW0.alike (hN.kept hS.2.1)
  have h : ∀ w ∈ Bundle.ownAtoms own ic cls names, w.before args s' = true := vx_own hat' (vx_isRefq hU'.1) (vx_isRefq hN'.1) hU'.2.word hN'.2.word
  have hown' : s'.vm.findClass own = some m.cls := by rw [hvm]; exact hown
  have hins : (Cond.instantiable cls 6).before args s' = true := h _ (by simp [Bundle.ownAtoms])
  obtain ⟨vm₁, cX, kX, hfX, hkX, -, -, X₁, st1⟩ := Y.newCold hexec (own := own) (C := cls) (index := ik) (n := 6) hown' hk' hins hini'
    (g := F0 m pc ls rest) rfl (by rw [hb]; exact d0) (Nat.le_refl _) (Nat.le_refl _)
  generalize hT1 : (T.setVm vm₁).pushCell { cls := cX, slots := kX.instanceTypes.map defaultValue, vm := .none } = T1 at X₁ st1
  have hcat : (Value.ref T.heap.size).category = 1 := rfl
  have hcellA : T1.heap[T.heap.size]? = some (freshCell cX kX) := by rw [← hT1]; exact State.heap_pushCell_size _ _
  have d3' : decode c.code (pc + 3) = .ok (.dup, 1) := by rw [hb]; exact d3
  have d4' : decode c.code (pc + 4) = .ok (.ldc_w is, 3) := by rw [hb]; exact d4
  have hstr' : vk_R own is text sa s' := vk_R.warm hW0 hstr
  obtain ⟨U, hsteps, hrun, hend, hW, hsame, ce, hce, hO⟩ := X₁.ctorThrowS hexec htr (own := own) (cls := cls) (names := names) (ic := ic) hown' hcls hnames h (fun x hx => nomatch hx) hfX hkX hcellA (by rw [hhp, hT]; exact Nat.le_refl _) (msg := .ref sa) rfl
    (g := { method := m, pc := pc + 7, locals := ls, stack := .ref sa :: .ref T.heap.size :: .ref T.heap.size :: rest, locked := none }) rfl hsize rfl rfl (rest := rest) rfl
    (by rw [hb]; exact d7) (by rw [hb]; exact d10) hout hRframes (by simp only [List.map_cons, List.sum_cons, hcat]; omega) hlocks
  obtain ⟨f1, f2⟩ := vx_frame hsame
  rw [hhp] at f1 f2
  have hWs : s.WarmedH U.vm := State.WarmedH.trans hW0 hW
  have hcl : s.vm.findClass cls = some ce.cls := by
    have h9 := hO.cls
    rw [hvm] at h9
    exact h9
  have hall : s.sameButNew ({ U with vm := s.vm } : State) locs mc ms := by
    subst hA
    obtain ⟨e1, e2⟩ := hsame
    rw [State.setFrames_setFrames] at e1
    have h2 : (T.setVm s.vm).sameButNew ({ U with vm := s.vm } : State) [] (0 + 1) (0 + 6) := ⟨e1, e2⟩
    have h3 := X.same.trans h2
    rw [List.append_nil] at h3
    exact h3.mono hc hs
  refine ⟨U, ?_, .threw T.heap.size, hrun, hend, Or.inr ⟨T.heap.size, rfl, cls, ce, locs, hx U hWs.alike f1 (fun q hq => f2 q hq (fun z hz => nomatch hz)), hce, hO.vm, hcl, hWs, hall, hf⟩⟩
  refine st1 _ ?_
  show Steps p.tables e below (T1.setTop { method := m, pc := pc + 3, locals := ls, stack := .ref T.heap.size :: rest, locked := none }) _
  jvm_step X₁.here [X₁.here.top, hexec, d3', Value.category]
  exact X₁.ldcStringW hexec (own := own) (text := text) (index := is) (a := sa) hown' hstr'.1 hstr'.2
    (g := { method := m, pc := pc + 4, locals := ls, stack := .ref T.heap.size :: .ref T.heap.size :: rest, locked := none }) rfl d4' _ hsteps
end Ends
section Bodies
variable {l : Launch}
theorem vx_ofW {y : MethodName} {ws ws' : List Cond} {rm : Room} {Pc : Array Value → State → Prop} {Qc : Array Value → State → Outcome → State → Prop} {XC : String → State → State → Prop} {mc ms : Nat} {free : Addr → Prop} {cc : ByteArray} {maxL : Nat} {ret : Option FieldType}
    (hy : plainName y.cls = true) (hw : ws = Cond.code y cc maxL ret :: ws')
    (body : ∀ p e s m args below meth c s₁, BodyLoose p l y (headSpec ws rm) cc maxL ret e s m args below meth c s₁ → c.maxLocals = maxL → (∀ x ∈ c.exceptionTable.toList, False) → Pc args s →
      W p l e (headSpec ws rm).room s m args below meth c s.heap [] 0 0 (vx_MQ below Qc XC args s mc ms free) (entryFrame m args maxL)) : vx_Met l y ws rm Pc Qc XC mc ms free := by
  refine MetFree.of_bodyS (code := cc) (maxLocals := maxL) (ret := ret) hy ?_ ?_
  · intro args s m h hn
    obtain ⟨meth, c, h1, h2, h3, h4, h5, h6, -, -⟩ := Cond.code_spec hn (atoms_spec (ws := ws) h _ (by rw [hw]; exact List.mem_cons_self))
    exact ⟨meth, c, h1, h2, h3, h4, h5, h6⟩
  · intro p e s m args below meth c s₁ B hml hP _
    have hh0 : s₁.heap = s.heap := by rw [B.state]; rfl
    have ht : ∀ x ∈ c.exceptionTable.toList, False := by
      obtain ⟨meth9, c9, h1, h2, -, -, -, -, h7, -⟩ := Cond.code_spec B.named (atoms_spec (ws := ws) B.pre _ (by rw [hw]; exact List.mem_cons_self))
      cases Option.some.inj (h1.symm.trans B.method)
      cases Option.some.inj (h2.symm.trans (Stand.of_body B).code)
      intro x hx
      rw [Array.isEmpty_iff.mp h7] at hx
      cases hx
    obtain ⟨t, a1, o, b1, b2, b3⟩ := body p e s m args below meth c s₁ B hml ht hP s₁ hh0 (Stand.of_body B)
    exact ⟨t, o, a1, b1, b2, b3⟩
/-- the table of a body with handlers -/
theorem vx_table {p : Program} {x y : MethodName} {S : Spec} {cc bytes : ByteArray} {maxL maxL' : Nat} {ret ret' : Option FieldType} {e : Env} {s s₁ : State} {m : MethodId} {args : Array Value} {below : List Frame} {meth : Method} {c : Code} {hh : List (Nat × Nat × Nat × Nat)}
    (B : BodyLoose p l y S cc maxL ret e s m args below meth c s₁) (h : (Cond.codeWith y bytes maxL' ret' hh).before args s = true) : c.exceptionTable.toList = tableOf hh := by
  obtain ⟨m9, meth9, c9, hn9, h1, h2, -, -, h6, -⟩ := Cond.codeWith_spec h
  cases Option.some.inj (hn9.symm.trans B.named)
  cases Option.some.inj (h1.symm.trans B.method)
  cases Option.some.inj (h2.symm.trans (Stand.of_body B).code)
  rw [← h6, table_eq]
end Bodies
end VXA
/-! ===== END ===== -/
/-! ===== BEGIN a static call of a method with an exception table ===== -/
section VXS
variable {p : Program} {l : Launch} {e : Env} {R : Room} {s : State} {m : MethodId} {args : Array Value} {below : List Frame} {meth : Method} {c : Code} {T : State} {H : Heap} {locs : List Loc} {cells slots : Nat}
abbrev vx_CSW (R : Room) (s : State) (args : Array Value) (own : String) (index : Nat) (y : MethodName) (bytes : ByteArray) (maxL : Nat) (ret : Option FieldType) (hh : List (Nat × Nat × Nat × Nat)) (ws : List Cond) (rm : Room) (mc ms n : Nat) : Prop :=
  (rm.cells = mc ∧ rm.slots = ms ∧ rm.frames + 1 ≤ R.frames ∧ 8 + (maxL + 11) + rm.locals ≤ R.locals ∧ (∀ w ∈ ws, ∀ (a' : Array Value) (U : State), s.WarmedH U.vm → w.before a' U = true) ∧ Cond.codeWith y bytes maxL ret hh ∈ ws) ∧
  (Cond.codeWith y bytes maxL ret hh).before args s = true ∧ (Cond.initialized y.cls).before args s = true ∧ (y.cls ≠ "java/lang/invoke/MethodHandle" ∧ y.cls ≠ "java/lang/invoke/VarHandle") ∧
  (∀ sig, parseMethodDescriptor y.desc = some sig → n = sig.parameters.length) ∧ (Cond.methodLink own index y).before args s = true ∧ (Cond.static y).before args s = true
theorem vx_cwSW {own : String} {index maxL mc ms : Nat} {y : MethodName} {bytes : ByteArray} {ret : Option FieldType} {hh : List (Nat × Nat × Nat × Nat)} {Ts ws ws' : List Cond} {rm : Room} (n : Nat) (ht : ∀ w ∈ Ts, w.before args s = true) (hT : GoodIn Ts (va_wsS own index y ws)) (hw : ws = Cond.codeWith y bytes maxL ret hh :: ws') (hrc : rm.cells = mc) (hrs : rm.slots = ms)
    (hd : y.cls ≠ "java/lang/invoke/MethodHandle" ∧ y.cls ≠ "java/lang/invoke/VarHandle" ∧ (parseMethodDescriptor y.desc).map (fun d => d.parameters.length) = some n) (hR : rm.frames + 1 ≤ R.frames ∧ 8 + (maxL + 11) + rm.locals ≤ R.locals) :
    vx_CSW R s args own index y bytes maxL ret hh ws rm mc ms n := by
  have ok : ∀ w ∈ va_wsS own index y ws, w.before args s = true := fun w h => ht w (hT w h).1
  have hG : GoodIn Ts ws := fun w h => hT w (by unfold va_wsS; exact List.mem_append_right _ h)
  have hc : Cond.codeWith y bytes maxL ret hh ∈ ws := by rw [hw]; exact List.mem_cons_self
  refine ⟨⟨hrc, hrs, hR.1, hR.2, pay_in ht hG, hc⟩, ht _ (hG _ hc).1, ok _ (by simp [va_wsS]), ⟨hd.1, hd.2.1⟩, fun sig h => ?_, ok _ (by simp [va_wsS]), ok _ (by simp [va_wsS])⟩
  have h2 := hd.2.2
  rw [h] at h2
  exact (Option.some.inj h2).symm
theorem vx_callSW (X : Stand p l e R s m args below meth c T locs cells slots) (hexec : p.tables.exec = Jvm.exec) {own : String} {index : Nat} {y : MethodName} {bytes : ByteArray} {maxL : Nat} {ret : Option FieldType} {hh : List (Nat × Nat × Nat × Nat)}
    (hown : s.vm.findClass own = some m.cls) (hlink : (Cond.methodLink own index y).before args s = true) (hstat : (Cond.static y).before args s = true) (hinit : (Cond.initialized y.cls).before args s = true)
    (hcode : (Cond.codeWith y bytes maxL ret hh).before args s = true) (hy : y.cls ≠ "java/lang/invoke/MethodHandle" ∧ y.cls ≠ "java/lang/invoke/VarHandle")
    {W9 : Nat} {Pre : Pt → Array Value → Prop} {Post : Pt → Array Value → Option Value → Pt → Prop} (hK : Back l R p e below s args y 3 W9 Pre Post)
    {g : JFrame} (hg : g.method = m) (hsize : g.locals.size = c.maxLocals) {argsL rest : List Value} (hlen : ∀ sig, parseMethodDescriptor y.desc = some sig → argsL.length = sig.parameters.length)
    (hstack : g.stack = argsL.reverse ++ rest) (hW : 2 * g.monitorRoom + (rest.map fun v => v.category).sum ≤ W9) (hdg : decode c.code g.pc = .ok (.invokestatic index, 3))
    (hpre : ∀ vm₁, s.WarmedH vm₁ → Pre ⟨T.setVm vm₁, locs, cells, slots⟩ argsL.toArray) :
    ∃ (v : Option Value) (vm₁ : Vm) (B : Pt), s.WarmedH vm₁ ∧ Stand p l e R s m args below meth c B.U B.locs B.cells B.slots ∧ Post ⟨T.setVm vm₁, locs, cells, slots⟩ argsL.toArray v B ∧
      ∀ target, Steps p.tables e below (B.U.setTop { g with pc := g.pc + 3, stack := v.toList ++ rest }) target → Steps p.tables e below (T.setTop g) target := by
  obtain ⟨mk, methM, cM, hnamed, hmethM, -, -, -, -, -, -, hsigM⟩ := Cond.codeWith_spec hcode
  have hstatic : methM.isStatic = true := Cond.static_spec hnamed hmethM hstat
  obtain ⟨kP, hkP, -⟩ := className_of_methodNamed hnamed
  have hinitP : kP.init = .initialized := Cond.initialized_spec (findClass_of_methodNamed hnamed) hkP hinit
  obtain ⟨vm₁, X₁, hstep₁⟩ := X.invokestatic hexec hown hlink hnamed hmethM hstatic hkP hinitP hy (g := g) hg (argsL := argsL) (rest := rest) (hlen _ hsigM) hstack hdg
  obtain ⟨v, B, X', hpost, hsteps⟩ := hK m meth c ⟨T.setVm vm₁, locs, cells, slots⟩ { g with stack := rest } (.invokestatic index) mk argsL.toArray X₁ hg hsize hdg hW (X₁.named hnamed) (hpre vm₁ X₁.warmed)
  exact ⟨v, vm₁, B, X₁.warmed, X', hpost, fun target h => hstep₁ _ fun acts => by rw [doInvoke_state]; exact hsteps.trans h⟩
theorem vx_runSW {y : MethodName} {bytes cc : ByteArray} {maxL nL mc ms n index : Nat} {ret : Option FieldType} {hh : List (Nat × Nat × Nat × Nat)} {ws : List Cond} {rm : Room} {Pc : Array Value → State → Prop} {Qc : Array Value → State → Outcome → State → Prop} {free : Addr → Prop} {Ts : List Cond} {own : String} {As rest : List Value} {g : JFrame}
    (S : CallFix p m c cc nL s args Ts own) (hM : Met l y ws rm Pc Qc mc ms free) (cw : vx_CSW R s args own index y bytes maxL ret hh ws rm mc ms n) (hp : PreS s H Pc As)
    (hg : g.method = m) (hn : As.length = n) (hsize : g.locals.size = nL) (hstack : g.stack = As.reverse ++ rest) (hW : 2 * g.monitorRoom + (rest.map fun v => v.category).sum ≤ 8) (hdg : decode cc g.pc = .ok (.invokestatic index, 3)) (hf : cells + mc ≤ R.cells ∧ slots + ms ≤ R.slots) :
    va_Run p l e R s m args below meth c H locs cells slots mc ms g rest (Qc As.toArray) (free) := by
  obtain ⟨⟨hrc, hrs, hfr, hlo, hws, hcw⟩, hcode, hini, hy, hlen, hl, hstt⟩ := cw
  have hK : Back l R p e below s args y 3 8 (PreOf R mc ms Pc) (PostOf Qc mc ms free) := va_backW (hh := hh) (bytes := bytes) (maxL := maxL) (ret := ret) hM hp.1 hrc hrs hfr hlo hws hcw (fun a' U hW => word_at hW (Or.inl (by first | rfl | simp [Cond.onTables, Cond.keeps, Cond.steady])) hini)
  obtain ⟨hx, hb, hml, ho, -⟩ := S
  intro T hT X
  obtain ⟨v, vm₁, ⟨U', l2, c2, s2⟩, hW₁, X', ⟨g', mk, t, L, e1, e2, hq, h1, hL, h2, h3⟩, st⟩ := vx_callSW X hx (hh := hh) (bytes := bytes) (maxL := maxL) (ret := ret) ho hl hstt hini hcode hy hK hg (hsize.trans hml.symm) (argsL := As) (rest := rest) (fun sig h => hn.trans (hlen sig h)) hstack hW (by rw [hb]; exact hdg)
    (fun vm₁ hW₁ => ⟨hf.1, hf.2, hp.2 (T.setVm vm₁) hT hW₁⟩)
  dsimp only [Pt.U, Pt.locs, Pt.cells, Pt.slots] at X' e1 e2 h1 h2 h3 st
  subst h1; subst h2; subst h3
  exact ⟨v, (T.setVm vm₁).calling g' mk As.toArray, t, U', L, hT, X', hL, e1, e2, hq, st⟩
/-- not caught here, past rows that name other classes: it goes on to the caller -/
theorem vx_outP {p : Program} {l : Launch} {e : Env} {R : Room} {s : State} {m : MethodId} {args : Array Value} {below : List Frame} {meth : Method} {c : Code} {H : Heap} {locs : List Loc} {cells slots : Nat} {free : Addr → Prop} {ls : Array Slot} {rest : List Value} {Qc : Array Value → State → Outcome → State → Prop} {XC : String → State → State → Prop}
    {pc : Nat} {own E : String} {ce : Cell} {q : Addr} {mc ms : Nat} (hown : s.vm.findClass own = some m.cls) (hlocks : meth.locks = false)
    (hpass : ∀ z ∈ c.exceptionTable.toList, covers z pc = false ∨ (z.catchType ≠ 0 ∧ ∃ nm : String, (Cond.classLink own z.catchType nm).before args s = true ∧ va_Nc E nm s)) (hcell : H[q]? = some ce) (hv : ce.vm = .none) (hcl : s.vm.findClass E = some ce.cls)
    (hx : ∀ t : State, t.heap = H → s.vm.Alike t.vm → XC E s t) (hf : ∀ z ∈ locs, free z.base) (hc : cells ≤ mc) (hs : slots ≤ ms) :
    vx_W p l e R s m args below meth c H locs cells slots (vx_MQ below Qc XC args s mc ms free) (F0 m pc ls rest) q := by
  intro T hT X
  have hpl : e.platform.magicAccessors = ({} : Platform).magicAccessors := by rw [X.admits.platform]
  obtain ⟨vm', hW', X', st⟩ := X.outThrough hlocks q (g := F0 m pc ls rest) rfl rfl rfl (cell := ce) (by rw [hT]; exact hcell) (by rw [hv]; rfl)
    (by obtain ⟨k9, h9, -⟩ := Vm.findClass_spec hcl; exact ⟨k9, h9⟩) (fun z hz => by
      rcases hpass z hz with h | ⟨hz0, nm, hl1, hn1⟩
      · exact Or.inl h
      · obtain ⟨c6, hc6, hcl6⟩ := Cond.classLink_spec hown hl1 e.platform hpl
        obtain ⟨a8, b8, h1, h2, h3⟩ := hn1
        cases Option.some.inj (h1.symm.trans hcl)
        cases Option.some.inj (h2.symm.trans hc6)
        exact Or.inr ⟨hz0, _, hcl6, h3⟩)
  obtain ⟨g₀, hfr⟩ := X'.frames_eq
  have hcell9 : ((T.setVm vm').setFrames (.throwing q :: below)).heap[q]? = some ce := by
    show T.heap[q]? = some ce
    rw [hT]; exact hcell
  have hend : Ended ((T.setVm vm').setFrames (.throwing q :: below)) below (.threw q) := State.frames_setFrames _ (State.cur_lt_of_frames hfr)
  refine ⟨(T.setVm vm').setFrames (.throwing q :: below), ?_, .threw q, X'.here.running, hend, Or.inr ⟨q, rfl, E, ce, locs, hx _ hT (X'.ends _).1.alike, hcell9, hv, hcl, (X'.ends _).1, (X'.ends _).2.mono hc hs, hf⟩⟩
  rw [X.pushThrowing_eq]
  exact st
/-- a thing of a world lies in the heap -/
theorem vx_lt {D : va_G} {cl : List vw_C} {ws : va_W} {H1 : Heap} (h : va_P D cl ws H1) {k : Nat} {q : Nat × va_E} (hk : ws[k]? = some q) : q.1 < H1.size := (h k q hk).lt
end VXS
/-! ===== END ===== -/
/-! ===== BEGIN methods with a table of their own: called by a name, returning or throwing ===== -/
section VXH
/-! vx_backW, vx_callVX, vx_callSX, vx_callVW, vx_runVW, vx_runVX, vx_runSX, vx_ofWH follow the same proofs as their sisters above (Free/Laws.lean, Shelf42/LK1.lean); vx_outP calls Shelf42/NT130.lean (outThrough). -/
section
variable {l : Launch} {R : Room} {p : Program} {e : Env} {below : List Frame} {s : State} {sargs : Array Value} {y : MethodName} {len W9 : Nat}
theorem vx_backW {ws : List Cond} {rm : Room} {Pc : Array Value → State → Prop} {Qc : Array Value → State → Outcome → State → Prop} {XC : String → State → State → Prop} {mc ms : Nat} {free : Addr → Prop} {bytes : ByteArray} {maxL : Nat} {ret : Option FieldType} {hh : List (Nat × Nat × Nat × Nat)}
    (hM : vx_Met l y ws rm Pc Qc XC mc ms free) (hblind : FrameBlind Pc) (hrc : rm.cells = mc) (hrs : rm.slots = ms)
    (hframes : rm.frames + 1 ≤ R.frames) (hlocals : W9 + (maxL + 11) + rm.locals ≤ R.locals)
    (hws : ∀ w ∈ ws, ∀ a' U, s.WarmedH U.vm → w.before a' U = true) (hcode : Cond.codeWith y bytes maxL ret hh ∈ ws) (hinit : ∀ a' U, s.WarmedH U.vm → (Cond.initialized y.cls).before a' U = true) :
    vx_Back l R p e below s sargs y len W9 (PreOf R mc ms Pc) (PostOf Qc mc ms free) (vx_Post XC mc ms free) := by
  intro m meth c A g ig mk a X hg hsize hdg hW hn hp
  have h1 : (headSpec ws rm).pre.before a A.U = true := atoms_intro fun w hw => hws w hw _ _ X.warmed
  have h2 : (Cond.codeWith y bytes maxL ret hh).before a A.U = true := hws _ hcode _ _ X.warmed
  have h3 : (Cond.initialized y.cls).before a A.U = true := hinit _ _ X.warmed
  have h4 : A.cells + (headSpec ws rm).room.cells ≤ R.cells := by rw [show (headSpec ws rm).room.cells = mc from hrc]; exact hp.1
  have h5 : A.slots + (headSpec ws rm).room.slots ≤ R.slots := by rw [show (headSpec ws rm).room.slots = ms from hrs]; exact hp.2.1
  have hPc : Pc a (A.U.calling g mk a) := hblind _ _ _ _ hp.2.2
  obtain ⟨U, Ls, c0, s0⟩ := A
  dsimp only [Pt.U, Pt.locs, Pt.cells, Pt.slots] at h1 h2 h3 h4 h5 X hn hPc ⊢
  obtain ⟨m9, methY, cY, hn9, hmY, hcY, -, hlY, -⟩ := Cond.codeWith_spec h2
  cases Option.some.inj (hn9.symm.trans hn)
  obtain ⟨kY, hkY, -⟩ := className_of_methodNamed hn
  have hinitY : kY.init = .initialized := Cond.initialized_spec (findClass_of_methodNamed hn) hkY h3
  have h : At U g.method c below := by rw [hg]; exact X.here
  have hlocals9 : W9 + (maxL + 11) + (headSpec ws rm).room.locals ≤ R.locals := hlocals
  have happ : (headSpec ws rm).appliesLoose y e.platform (U.calling g mk a) = true :=
    Spec.appliesLoose_calling (g := g) h hdg hn hkY hinitY
      (X.room_calling (g := g) (R' := (headSpec ws rm).room) hsize hmY hcY hframes (by rw [hlY]; omega) h4 h5) h1
  obtain ⟨mid, hmid⟩ := h.above
  have hfr : (U.setTop g).frames = (.java g :: mid) ++ below := by rw [State.frames_setTop' g h.top, hmid]; rfl
  obtain ⟨o, s₂, hsteps, -, hend, hq⟩ := Steps.callFree hM p X.admits X.cas X.clock (acts := []) hfr happ hPc trivial
  have hq' : vx_Q Qc XC mc ms free a (U.calling g mk a) o s₂ := hq
  rw [State.frames_setTop' g h.top] at hend
  obtain ⟨g₀, hg0⟩ := Option.isSome_iff_exists.mp h.top
  obtain ⟨r, hr⟩ := State.topJava?_eq_some.mp hg0
  have hr' : (({ U with heap := s₂.heap, slotsUsed := s₂.slotsUsed } : State).setVm s₂.vm).frames = .java g₀ :: r := hr
  rcases hq' with ⟨hqc, L, hfe, hL⟩ | ⟨q, rfl, E, ce, L, hx, hce, hcv, hcl, hW₂, hsm, hL⟩
  · obtain ⟨⟨v, rfl⟩, hW₂, e2, q2, q3, q4, q5, q6⟩ := id hfe
    have e3 : s₂ = ({ (U.calling g mk a).setFrames s₂.frames with heap := s₂.heap, slotsUsed := s₂.slotsUsed } : State).setVm s₂.vm := by
      have : s₂ = ({ s₂ with vm := (U.calling g mk a).vm } : State).setVm s₂.vm := rfl
      rw [e2] at this
      exact this
    obtain ⟨c₂, i₂, len₂, hc₂, hd₂, hf₂⟩ := hend
    have hW' : U.WarmedH s₂.vm := hW₂
    have hcc : c₂ = c := by
      have h1 : s₂.code? g.method = U.code? g.method := by
        rw [State.code?_eq, State.code?_eq, hW'.alike.method?]
      exact Option.some.inj (hc₂.symm.trans (h1.trans h.code))
    subst hcc
    have hlen : len₂ = len := by rw [hdg] at hd₂; cases hd₂; rfl
    subst hlen
    have hs₂ : s₂ = (({ U with heap := s₂.heap, slotsUsed := s₂.slotsUsed } : State).setVm s₂.vm).setTop { g with pc := g.pc + len₂, stack := v.toList ++ g.stack } := by
      refine e3.trans ?_
      rw [hf₂, State.calling_eq h.top, State.setFrames_setFrames, State.setTop_of_frames _ hr', hr]
      rfl
    have hsame : U.sameButNew ({ U with heap := s₂.heap, slotsUsed := s₂.slotsUsed } : State) L mc ms := by
      refine ⟨?_, q2, q3, q4, q5, q6⟩
      obtain ⟨t, ht, -⟩ := State.frames_cons hr
      show ({ U with heap := s₂.heap, slotsUsed := s₂.slotsUsed } : State) = { U.setFrames U.frames with heap := s₂.heap, slotsUsed := s₂.slotsUsed }
      rw [State.setFrames_self ht]
    subst hg
    refine Or.inl ⟨v, ⟨(({ U with heap := s₂.heap, slotsUsed := s₂.slotsUsed } : State).setVm s₂.vm), Ls ++ L, c0 + mc, s0 + ms⟩,
      ⟨X.admits, X.cas, X.clock, X.frames, X.room, X.hears, X.method, X.code, (X.here.setHeapUsed s₂.heap s₂.slotsUsed).setVm hW'.alike, X.tail, State.WarmedH.trans X.warmed hW', X.limits, X.bytes, X.same.trans (hsame.setVm s.vm)⟩,
      ⟨g, mk, s₂, L, rfl, rfl, hqc, rfl, hL, rfl, rfl⟩, ?_⟩
    show Steps p.tables e below _ ((({ U with heap := s₂.heap, slotsUsed := s₂.slotsUsed } : State).setVm s₂.vm).setTop { g with pc := g.pc + len₂, stack := v.toList ++ g.stack })
    rw [← hs₂]
    exact hsteps
  · obtain ⟨e2, q2, q3, q4, q5, q6⟩ := id hsm
    have e3 : s₂ = ({ (U.calling g mk a).setFrames s₂.frames with heap := s₂.heap, slotsUsed := s₂.slotsUsed } : State).setVm s₂.vm := by
      have : s₂ = ({ s₂ with vm := (U.calling g mk a).vm } : State).setVm s₂.vm := rfl
      rw [e2] at this
      exact this
    have hf₂ : s₂.frames = .throwing q :: .java g :: U.frames.tail := hend
    have hW' : U.WarmedH s₂.vm := hW₂
    have hs₂ : s₂ = ((({ U with heap := s₂.heap, slotsUsed := s₂.slotsUsed } : State).setVm s₂.vm).setTop g).pushFrame (.throwing q) := by
      refine e3.trans ?_
      rw [hf₂, State.calling_eq h.top, State.setFrames_setFrames, State.pushFrame, State.frames_setTop _ hr', State.setTop_of_frames _ hr', State.setFrames_setFrames, hr]
      rfl
    have hsame : U.sameButNew ({ U with heap := s₂.heap, slotsUsed := s₂.slotsUsed } : State) L mc ms := by
      refine ⟨?_, q2, q3, q4, q5, q6⟩
      obtain ⟨t, ht, -⟩ := State.frames_cons hr
      show ({ U with heap := s₂.heap, slotsUsed := s₂.slotsUsed } : State) = { U.setFrames U.frames with heap := s₂.heap, slotsUsed := s₂.slotsUsed }
      rw [State.setFrames_self ht]
    subst hg
    refine Or.inr ⟨q, ⟨(({ U with heap := s₂.heap, slotsUsed := s₂.slotsUsed } : State).setVm s₂.vm), Ls ++ L, c0 + mc, s0 + ms⟩,
      ⟨X.admits, X.cas, X.clock, X.frames, X.room, X.hears, X.method, X.code, (X.here.setHeapUsed s₂.heap s₂.slotsUsed).setVm hW'.alike, X.tail, State.WarmedH.trans X.warmed hW', X.limits, X.bytes, X.same.trans (hsame.setVm s.vm)⟩,
      ⟨g, mk, s₂, L, E, ce, rfl, rfl, hx, hce, hcv, hcl, rfl, hL, rfl, rfl⟩, ?_⟩
    show Steps p.tables e below _ (((({ U with heap := s₂.heap, slotsUsed := s₂.slotsUsed } : State).setVm s₂.vm).setTop g).pushFrame (.throwing q))
    rw [← hs₂]
    exact hsteps
end
variable {p : Program} {l : Launch} {e : Env} {R : Room} {s : State} {m : MethodId} {args : Array Value} {below : List Frame} {meth : Method} {c : Code} {T : State} {H : Heap} {locs : List Loc} {cells slots : Nat}
theorem vx_callVX (X : Stand p l e R s m args below meth c T locs cells slots) (hexec : p.tables.exec = Jvm.exec) {own C : String} {index : Nat} {y : MethodName} {bytes : ByteArray} {maxL : Nat} {ret : Option FieldType} {hh : List (Nat × Nat × Nat × Nat)}
    (hown : s.vm.findClass own = some m.cls) (hlink : (Cond.methodLink own index y).before args s = true) (hinst : (Cond.instanceMethod y).before args s = true) (hsel : (Cond.selects C y y).before args s = true)
    (hcode : (Cond.codeWith y bytes maxL ret hh).before args s = true) (hy : y.cls ≠ "java/lang/invoke/MethodHandle" ∧ y.cls ≠ "java/lang/invoke/VarHandle")
    {W9 : Nat} {Pre : Pt → Array Value → Prop} {Post : Pt → Array Value → Option Value → Pt → Prop} {PostX : Pt → Array Value → Addr → Pt → Prop} (hK : vx_Back l R p e below s args y 3 W9 Pre Post PostX)
    {b : Addr} {cellB : Cell} (hcell : T.heap[b]? = some cellB) (hobj : cellB.vm.isStatics = false) (hcls : s.vm.findClass C = some cellB.cls)
    {g : JFrame} (hg : g.method = m) (hsize : g.locals.size = c.maxLocals) {argsL rest : List Value} (hlen : ∀ sig, parseMethodDescriptor y.desc = some sig → argsL.length = sig.parameters.length)
    (hstack : g.stack = argsL.reverse ++ .ref b :: rest) (hW : 2 * g.monitorRoom + (rest.map fun v => v.category).sum ≤ W9) (hdg : decode c.code g.pc = .ok (.invokevirtual index, 3))
    (hpre : ∀ vm₁, s.WarmedH vm₁ → Pre ⟨T.setVm vm₁, locs, cells, slots⟩ (Value.ref b :: argsL).toArray) :
    (∃ (v : Option Value) (vm₁ : Vm) (B : Pt), s.WarmedH vm₁ ∧ Stand p l e R s m args below meth c B.U B.locs B.cells B.slots ∧ Post ⟨T.setVm vm₁, locs, cells, slots⟩ (Value.ref b :: argsL).toArray v B ∧
      ∀ target, Steps p.tables e below (B.U.setTop { g with pc := g.pc + 3, stack := v.toList ++ rest }) target → Steps p.tables e below (T.setTop g) target) ∨
    (∃ (q : Addr) (vm₁ : Vm) (B : Pt), s.WarmedH vm₁ ∧ Stand p l e R s m args below meth c B.U B.locs B.cells B.slots ∧ PostX ⟨T.setVm vm₁, locs, cells, slots⟩ (Value.ref b :: argsL).toArray q B ∧
      Steps p.tables e below (T.setTop g) ((B.U.setTop { g with stack := rest }).pushFrame (.throwing q))) := by
  obtain ⟨mk, methM, hnamed, hmethM, hstM, habM⟩ := Cond.instanceMethod_spec hinst
  obtain ⟨m8, methM', cM, hn8, hmethM', -, -, -, -, -, -, hsigM⟩ := Cond.codeWith_spec hcode
  cases Option.some.inj (hn8.symm.trans hnamed)
  cases hmethM.symm.trans hmethM'
  obtain ⟨c2, r2, m2, q1, q2, q3, q4, kP, hkP, hkPi⟩ := Cond.selects_spec hsel
  cases hcls.symm.trans q1
  cases (State.methodFound?_of_named hnamed hy).symm.trans q2
  cases hnamed.symm.trans q3
  have hselP : selectMethod e.platform s.vm cellB.cls mk = .method mk := by rw [Launch.admits_selectMethod X.admits]; exact q4
  obtain ⟨vm₁, X₁, hstep₁⟩ := X.invokevirtual hexec hown hlink hnamed hmethM hstM hkP hkPi hy (a := b) (cell := cellB) hcell
    (fun z h => by rw [h] at hobj; cases hobj) hselP hmethM habM hkP hkPi (g := g) hg (argsL := argsL) (rest := rest) (hlen _ hsigM) hstack hdg
  rcases hK m meth c ⟨T.setVm vm₁, locs, cells, slots⟩ { g with stack := rest } (.invokevirtual index) mk (Value.ref b :: argsL).toArray X₁ hg hsize hdg hW (X₁.named hnamed) (hpre vm₁ X₁.warmed) with ⟨v, B, X', hpost, hsteps⟩ | ⟨q, B, X', hpost, hsteps⟩
  · exact Or.inl ⟨v, vm₁, B, X₁.warmed, X', hpost, fun target h => hstep₁ _ fun acts => by rw [doInvoke_state]; exact hsteps.trans h⟩
  · exact Or.inr ⟨q, vm₁, B, X₁.warmed, X', hpost, hstep₁ _ fun acts => by rw [doInvoke_state]; exact hsteps⟩
theorem vx_callSX (X : Stand p l e R s m args below meth c T locs cells slots) (hexec : p.tables.exec = Jvm.exec) {own : String} {index : Nat} {y : MethodName} {bytes : ByteArray} {maxL : Nat} {ret : Option FieldType} {hh : List (Nat × Nat × Nat × Nat)}
    (hown : s.vm.findClass own = some m.cls) (hlink : (Cond.methodLink own index y).before args s = true) (hstat : (Cond.static y).before args s = true) (hinit : (Cond.initialized y.cls).before args s = true)
    (hcode : (Cond.codeWith y bytes maxL ret hh).before args s = true) (hy : y.cls ≠ "java/lang/invoke/MethodHandle" ∧ y.cls ≠ "java/lang/invoke/VarHandle")
    {W9 : Nat} {Pre : Pt → Array Value → Prop} {Post : Pt → Array Value → Option Value → Pt → Prop} {PostX : Pt → Array Value → Addr → Pt → Prop} (hK : vx_Back l R p e below s args y 3 W9 Pre Post PostX)
    {g : JFrame} (hg : g.method = m) (hsize : g.locals.size = c.maxLocals) {argsL rest : List Value} (hlen : ∀ sig, parseMethodDescriptor y.desc = some sig → argsL.length = sig.parameters.length)
    (hstack : g.stack = argsL.reverse ++ rest) (hW : 2 * g.monitorRoom + (rest.map fun v => v.category).sum ≤ W9) (hdg : decode c.code g.pc = .ok (.invokestatic index, 3))
    (hpre : ∀ vm₁, s.WarmedH vm₁ → Pre ⟨T.setVm vm₁, locs, cells, slots⟩ argsL.toArray) :
    (∃ (v : Option Value) (vm₁ : Vm) (B : Pt), s.WarmedH vm₁ ∧ Stand p l e R s m args below meth c B.U B.locs B.cells B.slots ∧ Post ⟨T.setVm vm₁, locs, cells, slots⟩ argsL.toArray v B ∧
      ∀ target, Steps p.tables e below (B.U.setTop { g with pc := g.pc + 3, stack := v.toList ++ rest }) target → Steps p.tables e below (T.setTop g) target) ∨
    (∃ (q : Addr) (vm₁ : Vm) (B : Pt), s.WarmedH vm₁ ∧ Stand p l e R s m args below meth c B.U B.locs B.cells B.slots ∧ PostX ⟨T.setVm vm₁, locs, cells, slots⟩ argsL.toArray q B ∧
      Steps p.tables e below (T.setTop g) ((B.U.setTop { g with stack := rest }).pushFrame (.throwing q))) := by
  obtain ⟨mk, methM, cM, hnamed, hmethM, -, -, -, -, -, -, hsigM⟩ := Cond.codeWith_spec hcode
  have hstatic : methM.isStatic = true := Cond.static_spec hnamed hmethM hstat
  obtain ⟨kP, hkP, -⟩ := className_of_methodNamed hnamed
  have hinitP : kP.init = .initialized := Cond.initialized_spec (findClass_of_methodNamed hnamed) hkP hinit
  obtain ⟨vm₁, X₁, hstep₁⟩ := X.invokestatic hexec hown hlink hnamed hmethM hstatic hkP hinitP hy (g := g) hg (argsL := argsL) (rest := rest) (hlen _ hsigM) hstack hdg
  rcases hK m meth c ⟨T.setVm vm₁, locs, cells, slots⟩ { g with stack := rest } (.invokestatic index) mk argsL.toArray X₁ hg hsize hdg hW (X₁.named hnamed) (hpre vm₁ X₁.warmed) with ⟨v, B, X', hpost, hsteps⟩ | ⟨q, B, X', hpost, hsteps⟩
  · exact Or.inl ⟨v, vm₁, B, X₁.warmed, X', hpost, fun target h => hstep₁ _ fun acts => by rw [doInvoke_state]; exact hsteps.trans h⟩
  · exact Or.inr ⟨q, vm₁, B, X₁.warmed, X', hpost, hstep₁ _ fun acts => by rw [doInvoke_state]; exact hsteps⟩
theorem vx_callVW (X : Stand p l e R s m args below meth c T locs cells slots) (hexec : p.tables.exec = Jvm.exec) {own C : String} {index : Nat} {y : MethodName} {bytes : ByteArray} {maxL : Nat} {ret : Option FieldType} {hh : List (Nat × Nat × Nat × Nat)}
    (hown : s.vm.findClass own = some m.cls) (hlink : (Cond.methodLink own index y).before args s = true) (hinst : (Cond.instanceMethod y).before args s = true) (hsel : (Cond.selects C y y).before args s = true)
    (hcode : (Cond.codeWith y bytes maxL ret hh).before args s = true) (hy : y.cls ≠ "java/lang/invoke/MethodHandle" ∧ y.cls ≠ "java/lang/invoke/VarHandle")
    {W9 : Nat} {Pre : Pt → Array Value → Prop} {Post : Pt → Array Value → Option Value → Pt → Prop} (hK : Back l R p e below s args y 3 W9 Pre Post)
    {b : Addr} {cellB : Cell} (hcell : T.heap[b]? = some cellB) (hobj : cellB.vm.isStatics = false) (hcls : s.vm.findClass C = some cellB.cls)
    {g : JFrame} (hg : g.method = m) (hsize : g.locals.size = c.maxLocals) {argsL rest : List Value} (hlen : ∀ sig, parseMethodDescriptor y.desc = some sig → argsL.length = sig.parameters.length)
    (hstack : g.stack = argsL.reverse ++ .ref b :: rest) (hW : 2 * g.monitorRoom + (rest.map fun v => v.category).sum ≤ W9) (hdg : decode c.code g.pc = .ok (.invokevirtual index, 3))
    (hpre : ∀ vm₁, s.WarmedH vm₁ → Pre ⟨T.setVm vm₁, locs, cells, slots⟩ (Value.ref b :: argsL).toArray) :
    ∃ (v : Option Value) (vm₁ : Vm) (B : Pt), s.WarmedH vm₁ ∧ Stand p l e R s m args below meth c B.U B.locs B.cells B.slots ∧ Post ⟨T.setVm vm₁, locs, cells, slots⟩ (Value.ref b :: argsL).toArray v B ∧
      ∀ target, Steps p.tables e below (B.U.setTop { g with pc := g.pc + 3, stack := v.toList ++ rest }) target → Steps p.tables e below (T.setTop g) target := by
  obtain ⟨mk, methM, hnamed, hmethM, hstM, habM⟩ := Cond.instanceMethod_spec hinst
  obtain ⟨m8, methM', cM, hn8, hmethM', -, -, -, -, -, -, hsigM⟩ := Cond.codeWith_spec hcode
  cases Option.some.inj (hn8.symm.trans hnamed)
  cases hmethM.symm.trans hmethM'
  obtain ⟨c2, r2, m2, q1, q2, q3, q4, kP, hkP, hkPi⟩ := Cond.selects_spec hsel
  cases hcls.symm.trans q1
  cases (State.methodFound?_of_named hnamed hy).symm.trans q2
  cases hnamed.symm.trans q3
  have hselP : selectMethod e.platform s.vm cellB.cls mk = .method mk := by rw [Launch.admits_selectMethod X.admits]; exact q4
  obtain ⟨vm₁, X₁, hstep₁⟩ := X.invokevirtual hexec hown hlink hnamed hmethM hstM hkP hkPi hy (a := b) (cell := cellB) hcell
    (fun z h => by rw [h] at hobj; cases hobj) hselP hmethM habM hkP hkPi (g := g) hg (argsL := argsL) (rest := rest) (hlen _ hsigM) hstack hdg
  obtain ⟨v, B, X', hpost, hsteps⟩ := hK m meth c ⟨T.setVm vm₁, locs, cells, slots⟩ { g with stack := rest } (.invokevirtual index) mk (Value.ref b :: argsL).toArray X₁ hg hsize hdg hW (X₁.named hnamed) (hpre vm₁ X₁.warmed)
  exact ⟨v, vm₁, B, X₁.warmed, X', hpost, fun target h => hstep₁ _ fun acts => by rw [doInvoke_state]; exact hsteps.trans h⟩
abbrev vx_CVW (R : Room) (s : State) (args : Array Value) (own C : String) (index : Nat) (y : MethodName) (bytes : ByteArray) (maxL : Nat) (ret : Option FieldType) (hh : List (Nat × Nat × Nat × Nat)) (ws : List Cond) (rm : Room) (mc ms n : Nat) : Prop :=
  (rm.cells = mc ∧ rm.slots = ms ∧ rm.frames + 1 ≤ R.frames ∧ 8 + (maxL + 11) + rm.locals ≤ R.locals ∧ (∀ w ∈ ws, ∀ (a' : Array Value) (U : State), s.WarmedH U.vm → w.before a' U = true) ∧ Cond.codeWith y bytes maxL ret hh ∈ ws) ∧
  (Cond.codeWith y bytes maxL ret hh).before args s = true ∧ (Cond.initialized y.cls).before args s = true ∧ (y.cls ≠ "java/lang/invoke/MethodHandle" ∧ y.cls ≠ "java/lang/invoke/VarHandle") ∧
  (∀ sig, parseMethodDescriptor y.desc = some sig → n = sig.parameters.length) ∧ (Cond.methodLink own index y).before args s = true ∧ (Cond.instanceMethod y).before args s = true ∧ (Cond.selects C y y).before args s = true
theorem vx_cwVW {own C : String} {index maxL mc ms : Nat} {y : MethodName} {bytes : ByteArray} {ret : Option FieldType} {hh : List (Nat × Nat × Nat × Nat)} {Ts ws ws' : List Cond} {rm : Room} (n : Nat) (ht : ∀ w ∈ Ts, w.before args s = true) (hT : GoodIn Ts (wsV own index C y ws)) (hw : ws = Cond.codeWith y bytes maxL ret hh :: ws') (hrc : rm.cells = mc) (hrs : rm.slots = ms)
    (hd : y.cls = C ∧ y.cls ≠ "java/lang/invoke/MethodHandle" ∧ y.cls ≠ "java/lang/invoke/VarHandle" ∧ (parseMethodDescriptor y.desc).map (fun d => d.parameters.length) = some n) (hR : rm.frames + 1 ≤ R.frames ∧ 8 + (maxL + 11) + rm.locals ≤ R.locals) :
    vx_CVW R s args own C index y bytes maxL ret hh ws rm mc ms n := by
  obtain ⟨hC, hd⟩ := hd
  subst hC
  have ok : ∀ w ∈ wsV own index y.cls y ws, w.before args s = true := fun w h => ht w (hT w h).1
  have hG : GoodIn Ts ws := fun w h => hT w (by unfold wsV; exact List.mem_append_right _ h)
  have hc : Cond.codeWith y bytes maxL ret hh ∈ ws := by rw [hw]; exact List.mem_cons_self
  refine ⟨⟨hrc, hrs, hR.1, hR.2, pay_in ht hG, hc⟩, ht _ (hG _ hc).1, ok _ (by simp [wsV]), ⟨hd.1, hd.2.1⟩, fun sig h => ?_, ok _ (by simp [wsV]), ok _ (by simp [wsV]), ok _ (by simp [wsV])⟩
  have h2 := hd.2.2
  rw [h] at h2
  exact (Option.some.inj h2).symm
theorem vx_runVW {y : MethodName} {bytes cc : ByteArray} {maxL nL mc ms n index : Nat} {ret : Option FieldType} {hh : List (Nat × Nat × Nat × Nat)} {ws : List Cond} {rm : Room} {Pc : Array Value → State → Prop} {Qc : Array Value → State → Outcome → State → Prop} {free : Addr → Prop} {Ts : List Cond} {own C : String} {b : Addr} {As rest : List Value} {g : JFrame}
    (S : CallFix p m c cc nL s args Ts own) (hM : Met l y ws rm Pc Qc mc ms free) (cw : vx_CVW R s args own C index y bytes maxL ret hh ws rm mc ms n) (hp : PreV s H C b Pc As)
    (hg : g.method = m) (hn : As.length = n) (hsize : g.locals.size = nL) (hstack : g.stack = As.reverse ++ .ref b :: rest) (hW : 2 * g.monitorRoom + (rest.map fun v => v.category).sum ≤ 8) (hdg : decode cc g.pc = .ok (.invokevirtual index, 3)) (hf : cells + mc ≤ R.cells ∧ slots + ms ≤ R.slots) :
    va_Run p l e R s m args below meth c H locs cells slots mc ms g rest (Qc (Value.ref b :: As).toArray) free := by
  obtain ⟨⟨hrc, hrs, hfr, hlo, hws, hcw⟩, hcode, hini, hy, hlen, hl, hin, hse⟩ := cw
  have hK : Back l R p e below s args y 3 8 (PreOf R mc ms Pc) (PostOf Qc mc ms free) := va_backW (hh := hh) (bytes := bytes) (maxL := maxL) (ret := ret) hM hp.1 hrc hrs hfr hlo hws hcw (fun a' U hW => word_at hW (Or.inl (by first | rfl | simp [Cond.onTables, Cond.keeps, Cond.steady])) hini)
  obtain ⟨hx, hb, hml, ho, -⟩ := S
  obtain ⟨-, ⟨cellB, hcB, hoB, hclB⟩, hPc⟩ := hp
  intro T hT X
  obtain ⟨v, vm₁, ⟨U', l2, c2, s2⟩, hW₁, X', ⟨g', mk, t, L, e1, e2, hq, h1, hL, h2, h3⟩, st⟩ := vx_callVW X hx (C := C) (hh := hh) (bytes := bytes) (maxL := maxL) (ret := ret) ho hl hin hse hcode hy hK (by rw [hT]; exact hcB) hoB hclB hg (hsize.trans hml.symm) (argsL := As) (rest := rest) (fun sig h => hn.trans (hlen sig h)) hstack hW (by rw [hb]; exact hdg)
    (fun vm₁ hW₁ => ⟨hf.1, hf.2, hPc (T.setVm vm₁) hT hW₁⟩)
  dsimp only [Pt.U, Pt.locs, Pt.cells, Pt.slots] at X' e1 e2 h1 h2 h3 st
  subst h1; subst h2; subst h3
  exact ⟨v, (T.setVm vm₁).calling g' mk (Value.ref b :: As).toArray, t, U', L, hT, X', hL, e1, e2, hq, st⟩
section
variable {y : MethodName} {bytes cc : ByteArray} {maxL nL mc ms n index : Nat} {ret : Option FieldType} {ws : List Cond} {rm : Room} {Pc : Array Value → State → Prop} {Qc : Array Value → State → Outcome → State → Prop} {XC : String → State → State → Prop} {free : Addr → Prop} {Ts : List Cond} {own C : String} {b : Addr} {As rest : List Value} {g : JFrame}
theorem vx_runVX {hh : List (Nat × Nat × Nat × Nat)} (S : CallFix p m c cc nL s args Ts own) (hM : vx_Met l y ws rm Pc Qc XC mc ms free) (cw : vx_CVW R s args own C index y bytes maxL ret hh ws rm mc ms n) (hp : PreV s H C b Pc As)
    (hg : g.method = m) (hn : As.length = n) (hsize : g.locals.size = nL) (hstack : g.stack = As.reverse ++ .ref b :: rest) (hW : 2 * g.monitorRoom + (rest.map fun v => v.category).sum ≤ 8) (hdg : decode cc g.pc = .ok (.invokevirtual index, 3)) (hf : cells + mc ≤ R.cells ∧ slots + ms ≤ R.slots) :
    vx_Run p l e R s m args below meth c H locs cells slots mc ms g rest (Qc (Value.ref b :: As).toArray) XC free := by
  obtain ⟨⟨hrc, hrs, hfr, hlo, hws, hcw⟩, hcode, hini, hy, hlen, hl, hin, hse⟩ := cw
  have hK : vx_Back l R p e below s args y 3 8 (PreOf R mc ms Pc) (PostOf Qc mc ms free) (vx_Post XC mc ms free) := vx_backW (hh := hh) (bytes := bytes) (maxL := maxL) (ret := ret) hM hp.1 hrc hrs hfr hlo hws hcw (fun a' U hW => word_at hW (Or.inl (by first | rfl | simp [Cond.onTables, Cond.keeps, Cond.steady])) hini)
  obtain ⟨hx, hb, hml, ho, -⟩ := S
  obtain ⟨-, ⟨cellB, hcB, hoB, hclB⟩, hPc⟩ := hp
  intro T hT X
  rcases vx_callVX X hx (C := C) (hh := hh) (bytes := bytes) (maxL := maxL) (ret := ret) ho hl hin hse hcode hy hK (by rw [hT]; exact hcB) hoB hclB hg (hsize.trans hml.symm) (argsL := As) (rest := rest) (fun sig h => hn.trans (hlen sig h)) hstack hW (by rw [hb]; exact hdg)
    (fun vm₁ hW₁ => ⟨hf.1, hf.2, hPc (T.setVm vm₁) hT hW₁⟩) with ⟨v, vm₁, ⟨U', l2, c2, s2⟩, hW₁, X', ⟨g', mk, t, L, e1, e2, hq, h1, hL, h2, h3⟩, st⟩ | ⟨q, vm₁, ⟨U', l2, c2, s2⟩, hW₁, X', ⟨g', mk, t, L, E, ce, e1, e2, hq, hce, hcv, hcl, h1, hL, h2, h3⟩, st⟩
  · dsimp only [Pt.U, Pt.locs, Pt.cells, Pt.slots] at X' e1 e2 h1 h2 h3 st
    subst h1; subst h2; subst h3
    exact Or.inl ⟨v, (T.setVm vm₁).calling g' mk (Value.ref b :: As).toArray, t, U', L, hT, X', hL, e1, e2, hq, st⟩
  · dsimp only [Pt.U, Pt.locs, Pt.cells, Pt.slots] at X' e1 e2 h1 h2 h3 st hcl
    subst h1; subst h2; subst h3
    exact Or.inr ⟨q, (T.setVm vm₁).calling g' mk (Value.ref b :: As).toArray, t, U', L, E, ce, hT, X', hL, e1, e2, hq, hce, hcv, vx_cls hW₁ hcl, st⟩
theorem vx_runSX {hh : List (Nat × Nat × Nat × Nat)} (S : CallFix p m c cc nL s args Ts own) (hM : vx_Met l y ws rm Pc Qc XC mc ms free) (cw : vx_CSW R s args own index y bytes maxL ret hh ws rm mc ms n) (hp : PreS s H Pc As)
    (hg : g.method = m) (hn : As.length = n) (hsize : g.locals.size = nL) (hstack : g.stack = As.reverse ++ rest) (hW : 2 * g.monitorRoom + (rest.map fun v => v.category).sum ≤ 8) (hdg : decode cc g.pc = .ok (.invokestatic index, 3)) (hf : cells + mc ≤ R.cells ∧ slots + ms ≤ R.slots) :
    vx_Run p l e R s m args below meth c H locs cells slots mc ms g rest (Qc As.toArray) XC free := by
  obtain ⟨⟨hrc, hrs, hfr, hlo, hws, hcw⟩, hcode, hini, hy, hlen, hl, hstt⟩ := cw
  have hK : vx_Back l R p e below s args y 3 8 (PreOf R mc ms Pc) (PostOf Qc mc ms free) (vx_Post XC mc ms free) := vx_backW (hh := hh) (bytes := bytes) (maxL := maxL) (ret := ret) hM hp.1 hrc hrs hfr hlo hws hcw (fun a' U hW => word_at hW (Or.inl (by first | rfl | simp [Cond.onTables, Cond.keeps, Cond.steady])) hini)
  obtain ⟨hx, hb, hml, ho, -⟩ := S
  intro T hT X
  rcases vx_callSX X hx (hh := hh) (bytes := bytes) (maxL := maxL) (ret := ret) ho hl hstt hini hcode hy hK hg (hsize.trans hml.symm) (argsL := As) (rest := rest) (fun sig h => hn.trans (hlen sig h)) hstack hW (by rw [hb]; exact hdg)
    (fun vm₁ hW₁ => ⟨hf.1, hf.2, hp.2 (T.setVm vm₁) hT hW₁⟩) with ⟨v, vm₁, ⟨U', l2, c2, s2⟩, hW₁, X', ⟨g', mk, t, L, e1, e2, hq, h1, hL, h2, h3⟩, st⟩ | ⟨q, vm₁, ⟨U', l2, c2, s2⟩, hW₁, X', ⟨g', mk, t, L, E, ce, e1, e2, hq, hce, hcv, hcl, h1, hL, h2, h3⟩, st⟩
  · dsimp only [Pt.U, Pt.locs, Pt.cells, Pt.slots] at X' e1 e2 h1 h2 h3 st
    subst h1; subst h2; subst h3
    exact Or.inl ⟨v, (T.setVm vm₁).calling g' mk As.toArray, t, U', L, hT, X', hL, e1, e2, hq, st⟩
  · dsimp only [Pt.U, Pt.locs, Pt.cells, Pt.slots] at X' e1 e2 h1 h2 h3 st hcl
    subst h1; subst h2; subst h3
    exact Or.inr ⟨q, (T.setVm vm₁).calling g' mk As.toArray, t, U', L, E, ce, hT, X', hL, e1, e2, hq, hce, hcv, vx_cls hW₁ hcl, st⟩
end
end VXH
theorem vx_ofWH {l : Launch} {y : MethodName} {ws ws' : List Cond} {rm : Room} {Pc : Array Value → State → Prop} {Qc : Array Value → State → Outcome → State → Prop} {XC : String → State → State → Prop} {mc ms : Nat} {free : Addr → Prop} {cc : ByteArray} {maxL : Nat} {ret : Option FieldType} {hh : List (Nat × Nat × Nat × Nat)}
    (hy : plainName y.cls = true) (hw : ws = Cond.codeWith y cc maxL ret hh :: ws')
    (body : ∀ p e s m args below meth c s₁, BodyLoose p l y (headSpec ws rm) cc maxL ret e s m args below meth c s₁ → c.maxLocals = maxL → Pc args s →
      W p l e (headSpec ws rm).room s m args below meth c s.heap [] 0 0 (vx_MQ below Qc XC args s mc ms free) (entryFrame m args maxL)) : vx_Met l y ws rm Pc Qc XC mc ms free := by
  refine MetFree.of_bodyS (code := cc) (maxLocals := maxL) (ret := ret) hy ?_ ?_
  · intro args s m h hn
    obtain ⟨m9, meth, c, hn9, h1, h2, h3, h4, -, h5, h6, -⟩ := Cond.codeWith_spec (atoms_spec (ws := ws) h _ (by rw [hw]; exact List.mem_cons_self))
    cases hn.symm.trans hn9
    exact ⟨meth, c, h1, h2, h3, h4, h5, h6⟩
  · intro p e s m args below meth c s₁ B hml hP _
    have hh0 : s₁.heap = s.heap := by rw [B.state]; rfl
    obtain ⟨t, a1, o, b1, b2, b3⟩ := body p e s m args below meth c s₁ B hml hP s₁ hh0 (Stand.of_body B)
    exact ⟨t, o, a1, b1, b2, b3⟩
/-! ===== END ===== -/
end
section
def RX0 : String := "CoveSignals$Boat"
def TX0 : u_T := fun k => match k with
  | 0 => ("CoveSignals$Boat", "place", "I", false)
  | 1 => ("CoveSignals$Boat", "bales", "I", false)
  | 2 => ("CoveSignals$Boat", "goal", "I", false)
  | 3 => ("CoveSignals$Boat", "ledBy", "I", false)
  | 4 => ("CoveSignals$Boat", "minds", "Z", false)
  | 5 => ("CoveSignals$Boat", "fate", "I", false)
  | _ => ("CoveSignals$Boat", "unloaded", "I", false)
def tyX0 : Nat → FieldType := fun k => match k with
  | 0 => .int
  | 1 => .int
  | 2 => .int
  | 3 => .int
  | 4 => .boolean
  | 5 => .int
  | _ => .int
abbrev wsX00 : List Cond := u_ws RX0 TX0 7
theorem nmX0 : ∀ a, a < 7 → ∀ b, b < 7 → a ≠ b → (TX0 a).2.1 ≠ (TX0 b).2.1 := by decide +kernel
theorem tyX0_ok : ∀ k, k < 7 → parseFieldDescriptor (TX0 k).2.2.1 = some (tyX0 k) := by decide +kernel
abbrev cX0_init : ByteArray := prog_2_method_1_code
def yX0_init : MethodName := ⟨RX0, "<init>", "()V"⟩
abbrev cX0_begin : ByteArray := prog_2_method_2_code
def yX0_begin : MethodName := ⟨RX0, "begin", "(II)V"⟩
abbrev cX0_copyFrom : ByteArray := prog_2_method_3_code
def yX0_copyFrom : MethodName := ⟨RX0, "copyFrom", "(LCoveSignals$Boat;)V"⟩
abbrev cX0_sendTo : ByteArray := prog_2_method_4_code
def yX0_sendTo : MethodName := ⟨RX0, "sendTo", "(I)V"⟩
abbrev cX0_liesAtGoal : ByteArray := prog_2_method_5_code
def yX0_liesAtGoal : MethodName := ⟨RX0, "liesAtGoal", "()Z"⟩
abbrev cX0_sail : ByteArray := prog_2_method_6_code
def yX0_sail : MethodName := ⟨RX0, "sail", "()V"⟩
abbrev cX0_stage : ByteArray := prog_2_method_7_code
def yX0_stage : MethodName := ⟨RX0, "stage", "()I"⟩
abbrev cX0_tell : ByteArray := prog_2_method_8_code
def yX0_tell : MethodName := ⟨RX0, "tell", "(I)I"⟩
def RX1 : String := "CoveSignals$Coast"
def TX1 : u_T := fun k => match k with
  | 0 => ("CoveSignals$Coast", "room", "[I", true)
  | 1 => ("CoveSignals$Coast", "stored", "[I", true)
  | 2 => ("CoveSignals$Coast", "named", "[I", true)
  | 3 => ("CoveSignals$Coast", "seen", "[I", true)
  | 4 => ("CoveSignals$Coast", "lanterns", "[LCoveSignals$Lantern;", true)
  | 5 => ("CoveSignals$Coast", "watchmen", "[LCoveSignals$Watchman;", true)
  | 6 => ("CoveSignals$Coast", "boats", "[LCoveSignals$Boat;", true)
  | 7 => ("CoveSignals$Coast", "lanternCount", "I", false)
  | 8 => ("CoveSignals$Coast", "watchmanCount", "I", false)
  | 9 => ("CoveSignals$Coast", "boatCount", "I", false)
  | 10 => ("CoveSignals$Coast", "hour", "I", false)
  | 11 => ("CoveSignals$Coast", "balesSeized", "I", false)
  | _ => ("CoveSignals$Coast", "balesCarried", "I", false)
def tyX1 : Nat → FieldType := fun k => match k with
  | 0 => .array .int
  | 1 => .array .int
  | 2 => .array .int
  | 3 => .array .int
  | 4 => .array (.object "CoveSignals$Lantern")
  | 5 => .array (.object "CoveSignals$Watchman")
  | 6 => .array (.object "CoveSignals$Boat")
  | 7 => .int
  | 8 => .int
  | 9 => .int
  | 10 => .int
  | 11 => .int
  | _ => .int
abbrev wsX10 : List Cond := u_ws RX1 TX1 13
theorem nmX1 : ∀ a, a < 13 → ∀ b, b < 13 → a ≠ b → (TX1 a).2.1 ≠ (TX1 b).2.1 := by decide +kernel
theorem tyX1_ok : ∀ k, k < 13 → parseFieldDescriptor (TX1 k).2.2.1 = some (tyX1 k) := by decide +kernel
abbrev cX1_init : ByteArray := prog_3_method_1_code
def yX1_init : MethodName := ⟨RX1, "<init>", "()V"⟩
abbrev cX1_copyFrom : ByteArray := prog_3_method_2_code
def yX1_copyFrom : MethodName := ⟨RX1, "copyFrom", "(LCoveSignals$Coast;)V"⟩
abbrev cX1_moonNow : ByteArray := prog_3_method_3_code
def yX1_moonNow : MethodName := ⟨RX1, "moonNow", "()I"⟩
abbrev cX1_hourOfNight : ByteArray := prog_3_method_4_code
def yX1_hourOfNight : MethodName := ⟨RX1, "hourOfNight", "()I"⟩
abbrev cX1_isKnown : ByteArray := prog_3_method_5_code
def yX1_isKnown : MethodName := ⟨RX1, "isKnown", "(I)Z"⟩
abbrev cX1_hasLanternAt : ByteArray := prog_3_method_6_code
def yX1_hasLanternAt : MethodName := ⟨RX1, "hasLanternAt", "(I)Z"⟩
abbrev cX1_letGoBy : ByteArray := prog_3_method_7_code
def yX1_letGoBy : MethodName := ⟨RX1, "letGoBy", "(I)V"⟩
abbrev cX1_passHour : ByteArray := prog_3_method_8_code
def yX1_passHour : MethodName := ⟨RX1, "passHour", "()V"⟩
abbrev cX1_noteLanterns : ByteArray := prog_3_method_9_code
def yX1_noteLanterns : MethodName := ⟨RX1, "noteLanterns", "(II)V"⟩
abbrev cX1_moveBoats : ByteArray := prog_3_method_10_code
def yX1_moveBoats : MethodName := ⟨RX1, "moveBoats", "(II)V"⟩
abbrev cX1_unload : ByteArray := prog_3_method_11_code
def yX1_unload : MethodName := ⟨RX1, "unload", "(LCoveSignals$Boat;)V"⟩
abbrev cX1_followLantern : ByteArray := prog_3_method_12_code
def yX1_followLantern : MethodName := ⟨RX1, "followLantern", "(LCoveSignals$Boat;II)V"⟩
abbrev cX1_moveWatchmen : ByteArray := prog_3_method_13_code
def yX1_moveWatchmen : MethodName := ⟨RX1, "moveWatchmen", "(I)V"⟩
abbrev cX1_seizeFirst : ByteArray := prog_3_method_14_code
def yX1_seizeFirst : MethodName := ⟨RX1, "seizeFirst", "(LCoveSignals$Watchman;I)V"⟩
abbrev cX1_watchmenSeeingLantern : ByteArray := prog_3_method_15_code
def yX1_watchmenSeeingLantern : MethodName := ⟨RX1, "watchmenSeeingLantern", "(II)I"⟩
abbrev cX1_watchmenSeeingPlace : ByteArray := prog_3_method_16_code
def yX1_watchmenSeeingPlace : MethodName := ⟨RX1, "watchmenSeeingPlace", "(I)I"⟩
abbrev cX1_watchmenAt : ByteArray := prog_3_method_17_code
def yX1_watchmenAt : MethodName := ⟨RX1, "watchmenAt", "(I)I"⟩
abbrev cX1_boatsAtSeaAt : ByteArray := prog_3_method_18_code
def yX1_boatsAtSeaAt : MethodName := ⟨RX1, "boatsAtSeaAt", "(I)I"⟩
abbrev cX1_boatsAtSeaLedBy : ByteArray := prog_3_method_19_code
def yX1_boatsAtSeaLedBy : MethodName := ⟨RX1, "boatsAtSeaLedBy", "(I)I"⟩
abbrev cX1_boatsOfFate : ByteArray := prog_3_method_20_code
def yX1_boatsOfFate : MethodName := ⟨RX1, "boatsOfFate", "(I)I"⟩
abbrev cX1_balesAtSea : ByteArray := prog_3_method_21_code
def yX1_balesAtSea : MethodName := ⟨RX1, "balesAtSea", "()I"⟩
abbrev cX1_balesUnloaded : ByteArray := prog_3_method_22_code
def yX1_balesUnloaded : MethodName := ⟨RX1, "balesUnloaded", "()I"⟩
abbrev cX1_balesInCaves : ByteArray := prog_3_method_23_code
def yX1_balesInCaves : MethodName := ⟨RX1, "balesInCaves", "()I"⟩
abbrev cX1_knownCodes : ByteArray := prog_3_method_24_code
def yX1_knownCodes : MethodName := ⟨RX1, "knownCodes", "()I"⟩
abbrev cX1_tellLantern : ByteArray := prog_3_method_25_code
def yX1_tellLantern : MethodName := ⟨RX1, "tellLantern", "(LCoveSignals$Lantern;I)I"⟩
abbrev cX1_tellCode : ByteArray := prog_3_method_26_code
def yX1_tellCode : MethodName := ⟨RX1, "tellCode", "(II)I"⟩
abbrev cX1_tellPlace : ByteArray := prog_3_method_27_code
def yX1_tellPlace : MethodName := ⟨RX1, "tellPlace", "(II)I"⟩
abbrev cX1_tally : ByteArray := prog_3_method_28_code
def yX1_tally : MethodName := ⟨RX1, "tally", "(I)I"⟩
def RX2 : String := "CoveSignals$Lantern"
def TX2 : u_T := fun k => match k with
  | 0 => ("CoveSignals$Lantern", "table", "[I", true)
  | 1 => ("CoveSignals$Lantern", "place", "I", false)
  | _ => ("CoveSignals$Lantern", "timesSeen", "I", false)
def tyX2 : Nat → FieldType := fun k => match k with
  | 0 => .array .int
  | 1 => .int
  | _ => .int
abbrev wsX20 : List Cond := u_ws RX2 TX2 3
theorem nmX2 : ∀ a, a < 3 → ∀ b, b < 3 → a ≠ b → (TX2 a).2.1 ≠ (TX2 b).2.1 := by decide +kernel
theorem tyX2_ok : ∀ k, k < 3 → parseFieldDescriptor (TX2 k).2.2.1 = some (tyX2 k) := by decide +kernel
abbrev cX2_init : ByteArray := prog_4_method_1_code
def yX2_init : MethodName := ⟨RX2, "<init>", "()V"⟩
abbrev cX2_copyFrom : ByteArray := prog_4_method_2_code
def yX2_copyFrom : MethodName := ⟨RX2, "copyFrom", "(LCoveSignals$Lantern;)V"⟩
def RX3 : String := "CoveSignals$Watchman"
def TX3 : u_T := fun k => match k with
  | 0 => ("CoveSignals$Watchman", "from", "I", false)
  | 1 => ("CoveSignals$Watchman", "to", "I", false)
  | 2 => ("CoveSignals$Watchman", "eyes", "I", false)
  | 3 => ("CoveSignals$Watchman", "place", "I", false)
  | 4 => ("CoveSignals$Watchman", "way", "I", false)
  | _ => ("CoveSignals$Watchman", "boatsSeized", "I", false)
def tyX3 : Nat → FieldType := fun k => match k with
  | 0 => .int
  | 1 => .int
  | 2 => .int
  | 3 => .int
  | 4 => .int
  | _ => .int
abbrev wsX30 : List Cond := u_ws RX3 TX3 6
theorem nmX3 : ∀ a, a < 6 → ∀ b, b < 6 → a ≠ b → (TX3 a).2.1 ≠ (TX3 b).2.1 := by decide +kernel
theorem tyX3_ok : ∀ k, k < 6 → parseFieldDescriptor (TX3 k).2.2.1 = some (tyX3 k) := by decide +kernel
abbrev cX3_init : ByteArray := prog_5_method_1_code
def yX3_init : MethodName := ⟨RX3, "<init>", "()V"⟩
abbrev cX3_begin : ByteArray := prog_5_method_2_code
def yX3_begin : MethodName := ⟨RX3, "begin", "(III)V"⟩
abbrev cX3_copyFrom : ByteArray := prog_5_method_3_code
def yX3_copyFrom : MethodName := ⟨RX3, "copyFrom", "(LCoveSignals$Watchman;)V"⟩
abbrev cX3_sightOfPlaces : ByteArray := prog_5_method_4_code
def yX3_sightOfPlaces : MethodName := ⟨RX3, "sightOfPlaces", "(I)I"⟩
abbrev cX3_sightOfLanterns : ByteArray := prog_5_method_5_code
def yX3_sightOfLanterns : MethodName := ⟨RX3, "sightOfLanterns", "(I)I"⟩
abbrev cX3_walk : ByteArray := prog_5_method_6_code
def yX3_walk : MethodName := ⟨RX3, "walk", "()V"⟩
abbrev cX3_tell : ByteArray := prog_5_method_7_code
def yX3_tell : MethodName := ⟨RX3, "tell", "(II)I"⟩
def RX4 : String := "CoveSignals"
def TX4 : u_T := fun k => match k with
  | 0 => ("CoveSignals", "coast", "LCoveSignals$Coast;", true)
  | _ => ("CoveSignals", "trial", "LCoveSignals$Coast;", true)
def tyX4 : Nat → FieldType := fun k => match k with
  | 0 => .object "CoveSignals$Coast"
  | _ => .object "CoveSignals$Coast"
abbrev wsX40 : List Cond := u_ws RX4 TX4 2
theorem nmX4 : ∀ a, a < 2 → ∀ b, b < 2 → a ≠ b → (TX4 a).2.1 ≠ (TX4 b).2.1 := by decide +kernel
theorem tyX4_ok : ∀ k, k < 2 → parseFieldDescriptor (TX4 k).2.2.1 = some (tyX4 k) := by decide +kernel
abbrev cX4_init : ByteArray := prog_1_method_1_code
def yX4_init : MethodName := ⟨RX4, "<init>", "()V"⟩
abbrev cX4_setRoom : ByteArray := prog_1_method_2_code
def yX4_setRoom : MethodName := ⟨RX4, "setRoom", "(II)I"⟩
abbrev cX4_setCode : ByteArray := prog_1_method_3_code
def yX4_setCode : MethodName := ⟨RX4, "setCode", "(II)I"⟩
abbrev cX4_lantern : ByteArray := prog_1_method_4_code
def yX4_lantern : MethodName := ⟨RX4, "lantern", "(I)I"⟩
abbrev cX4_setShow : ByteArray := prog_1_method_5_code
def yX4_setShow : MethodName := ⟨RX4, "setShow", "(III)I"⟩
abbrev cX4_watchman : ByteArray := prog_1_method_6_code
def yX4_watchman : MethodName := ⟨RX4, "watchman", "(III)I"⟩
abbrev cX4_boat : ByteArray := prog_1_method_7_code
def yX4_boat : MethodName := ⟨RX4, "boat", "(II)I"⟩
abbrev cX4_send : ByteArray := prog_1_method_8_code
def yX4_send : MethodName := ⟨RX4, "send", "(II)I"⟩
abbrev cX4_carry : ByteArray := prog_1_method_9_code
def yX4_carry : MethodName := ⟨RX4, "carry", "(II)I"⟩
abbrev cX4_told : ByteArray := prog_1_method_10_code
def yX4_told : MethodName := ⟨RX4, "told", "(II)I"⟩
abbrev cX4_about : ByteArray := prog_1_method_11_code
def yX4_about : MethodName := ⟨RX4, "about", "(II)I"⟩
abbrev cX4_light : ByteArray := prog_1_method_12_code
def yX4_light : MethodName := ⟨RX4, "light", "(II)I"⟩
abbrev cX4_code : ByteArray := prog_1_method_13_code
def yX4_code : MethodName := ⟨RX4, "code", "(II)I"⟩
abbrev cX4_place : ByteArray := prog_1_method_14_code
def yX4_place : MethodName := ⟨RX4, "place", "(II)I"⟩
abbrev cX4_moon : ByteArray := prog_1_method_15_code
def yX4_moon : MethodName := ⟨RX4, "moon", "(I)I"⟩
abbrev cX4_count : ByteArray := prog_1_method_16_code
def yX4_count : MethodName := ⟨RX4, "count", "(I)I"⟩
abbrev cX4_pass : ByteArray := prog_1_method_17_code
def yX4_pass : MethodName := ⟨RX4, "pass", "(I)I"⟩
abbrev cX4_until : ByteArray := prog_1_method_18_code
def yX4_until : MethodName := ⟨RX4, "until", "(I)I"⟩
abbrev cX4_foresee : ByteArray := prog_1_method_19_code
def yX4_foresee : MethodName := ⟨RX4, "foresee", "(II)I"⟩
abbrev cX4_mean : ByteArray := prog_1_method_22_code
def yX4_mean : MethodName := ⟨RX4, "mean", "()D"⟩
abbrev cX4_digest : ByteArray := prog_1_method_23_code
def yX4_digest : MethodName := ⟨RX4, "digest", "()J"⟩
abbrev cX4_digestOfLanterns : ByteArray := prog_1_method_24_code
def yX4_digestOfLanterns : MethodName := ⟨RX4, "digestOfLanterns", "(J)J"⟩
abbrev cX4_digestOfWatchmen : ByteArray := prog_1_method_25_code
def yX4_digestOfWatchmen : MethodName := ⟨RX4, "digestOfWatchmen", "(J)J"⟩
abbrev cX4_digestOfBoats : ByteArray := prog_1_method_26_code
def yX4_digestOfBoats : MethodName := ⟨RX4, "digestOfBoats", "(J)J"⟩
abbrev cX4_requirePlace : ByteArray := prog_1_method_28_code
def yX4_requirePlace : MethodName := ⟨RX4, "requirePlace", "(I)V"⟩
abbrev cX4_requirePlaceOrNone : ByteArray := prog_1_method_29_code
def yX4_requirePlaceOrNone : MethodName := ⟨RX4, "requirePlaceOrNone", "(I)V"⟩
abbrev cX4_requireCode : ByteArray := prog_1_method_30_code
def yX4_requireCode : MethodName := ⟨RX4, "requireCode", "(I)V"⟩
abbrev cX4_requireWhat : ByteArray := prog_1_method_31_code
def yX4_requireWhat : MethodName := ⟨RX4, "requireWhat", "(III)V"⟩
abbrev cX4_requireHours : ByteArray := prog_1_method_32_code
def yX4_requireHours : MethodName := ⟨RX4, "requireHours", "(I)V"⟩
abbrev cX4_requireLantern : ByteArray := prog_1_method_33_code
def yX4_requireLantern : MethodName := ⟨RX4, "requireLantern", "(I)V"⟩
abbrev cX4_requireBoat : ByteArray := prog_1_method_34_code
def yX4_requireBoat : MethodName := ⟨RX4, "requireBoat", "(I)V"⟩
abbrev cX4_requireAtSea : ByteArray := prog_1_method_35_code
def yX4_requireAtSea : MethodName := ⟨RX4, "requireAtSea", "(I)V"⟩
abbrev cX4_moonOf : ByteArray := prog_1_method_36_code
def yX4_moonOf : MethodName := ⟨RX4, "moonOf", "(I)I"⟩
abbrev cX4_distance : ByteArray := prog_1_method_37_code
def yX4_distance : MethodName := ⟨RX4, "distance", "(II)I"⟩
def RX5 : String := "CoveSignalsLaw$Sim"
def TX5 : u_T := fun k => match k with
  | 0 => ("CoveSignalsLaw$Sim", "hour", "I", false)
  | 1 => ("CoveSignalsLaw$Sim", "seized", "I", false)
  | 2 => ("CoveSignalsLaw$Sim", "carried", "I", false)
  | 3 => ("CoveSignalsLaw$Sim", "room", "[I", false)
  | 4 => ("CoveSignalsLaw$Sim", "cave", "[I", false)
  | 5 => ("CoveSignalsLaw$Sim", "names", "[I", false)
  | 6 => ("CoveSignalsLaw$Sim", "seen", "[I", false)
  | 7 => ("CoveSignalsLaw$Sim", "lanterns", "[[I", false)
  | 8 => ("CoveSignalsLaw$Sim", "watch", "[[I", false)
  | _ => ("CoveSignalsLaw$Sim", "boats", "[[I", false)
def tyX5 : Nat → FieldType := fun k => match k with
  | 0 => .int
  | 1 => .int
  | 2 => .int
  | 3 => .array .int
  | 4 => .array .int
  | 5 => .array .int
  | 6 => .array .int
  | 7 => .array (.array .int)
  | 8 => .array (.array .int)
  | _ => .array (.array .int)
abbrev wsX50 : List Cond := u_ws RX5 TX5 10
theorem nmX5 : ∀ a, a < 10 → ∀ b, b < 10 → a ≠ b → (TX5 a).2.1 ≠ (TX5 b).2.1 := by decide +kernel
theorem tyX5_ok : ∀ k, k < 10 → parseFieldDescriptor (TX5 k).2.2.1 = some (tyX5 k) := by decide +kernel
abbrev cX5_init : ByteArray := prog_7_method_1_code
def yX5_init : MethodName := ⟨RX5, "<init>", "()V"⟩
abbrev cX5_with : ByteArray := prog_7_method_3_code
def yX5_with : MethodName := ⟨RX5, "with", "([[I[I)[[I"⟩
abbrev cX5_moon : ByteArray := prog_7_method_5_code
def yX5_moon : MethodName := ⟨RX5, "moon", "()I"⟩
abbrev cX5_shown : ByteArray := prog_7_method_6_code
def yX5_shown : MethodName := ⟨RX5, "shown", "(I)I"⟩
abbrev cX5_far : ByteArray := prog_7_method_7_code
def yX5_far : MethodName := ⟨RX5, "far", "(II)I"⟩
abbrev cX5_sees : ByteArray := prog_7_method_8_code
def yX5_sees : MethodName := ⟨RX5, "sees", "(III)Z"⟩
abbrev cX5_seesLight : ByteArray := prog_7_method_9_code
def yX5_seesLight : MethodName := ⟨RX5, "seesLight", "(II)Z"⟩
abbrev cX5_watchers : ByteArray := prog_7_method_10_code
def yX5_watchers : MethodName := ⟨RX5, "watchers", "(I)I"⟩
abbrev cX5_lightWatchers : ByteArray := prog_7_method_11_code
def yX5_lightWatchers : MethodName := ⟨RX5, "lightWatchers", "(I)I"⟩
abbrev cX5_leads : ByteArray := prog_7_method_12_code
def yX5_leads : MethodName := ⟨RX5, "leads", "([I)I"⟩
abbrev cX5_go : ByteArray := prog_7_method_13_code
def yX5_go : MethodName := ⟨RX5, "go", "()I"⟩
abbrev cX5_in : ByteArray := prog_7_method_14_code
def yX5_in : MethodName := ⟨RX5, "in", "(I)I"⟩
abbrev cX5_caves : ByteArray := prog_7_method_15_code
def yX5_caves : MethodName := ⟨RX5, "caves", "()I"⟩
abbrev cX5_counted : ByteArray := prog_7_method_16_code
def yX5_counted : MethodName := ⟨RX5, "counted", "(I)I"⟩
abbrev cX5_isSame : ByteArray := prog_7_method_17_code
def yX5_isSame : MethodName := ⟨RX5, "isSame", "(LCoveSignals;)Z"⟩
def RX6 : String := "CoveSignalsModel$State"
def TX6 : u_T := fun k => match k with
  | _ => ("", "", "", false)
def tyX6 : Nat → FieldType := fun k => match k with
  | _ => .int
abbrev wsX60 : List Cond := u_ws RX6 TX6 0
theorem nmX6 : ∀ a, a < 0 → ∀ b, b < 0 → a ≠ b → (TX6 a).2.1 ≠ (TX6 b).2.1 := by decide +kernel
theorem tyX6_ok : ∀ k, k < 0 → parseFieldDescriptor (TX6 k).2.2.1 = some (tyX6 k) := by decide +kernel
def RX7 : String := "CoveSignalsModel"
def TX7 : u_T := fun k => match k with
  | _ => ("", "", "", false)
def tyX7 : Nat → FieldType := fun k => match k with
  | _ => .int
abbrev wsX70 : List Cond := u_ws RX7 TX7 0
theorem nmX7 : ∀ a, a < 0 → ∀ b, b < 0 → a ≠ b → (TX7 a).2.1 ≠ (TX7 b).2.1 := by decide +kernel
theorem tyX7_ok : ∀ k, k < 0 → parseFieldDescriptor (TX7 k).2.2.1 = some (tyX7 k) := by decide +kernel
def RJ9 : String := "java/lang/Math"
def TJ9 : u_T := fun k => match k with
  | _ => ("", "", "", false)
def tyJ9 : Nat → FieldType := fun k => match k with
  | _ => .int
abbrev cJ9_floorMod_7cf53 : ByteArray := prog_14_method_50_code
def yJ9_floorMod_7cf53 : MethodName := ⟨RJ9, "floorMod", "(II)I"⟩
abbrev cJ9_abs_0f7a4 : ByteArray := prog_14_method_59_code
def yJ9_abs_0f7a4 : MethodName := ⟨RJ9, "abs", "(I)I"⟩
abbrev cJ9_min_7cf53 : ByteArray := prog_14_method_69_code
def yJ9_min_7cf53 : MethodName := ⟨RJ9, "min", "(II)I"⟩
def RJ0 : String := "java/lang/String"
def TJ0 : u_T := fun k => match k with
  | _ => ("", "", "", false)
def tyJ0 : Nat → FieldType := fun k => match k with
  | _ => .int
def RJ10 : String := "java/lang/System"
def TJ10 : u_T := fun k => match k with
  | _ => ("", "", "", false)
def tyJ10 : Nat → FieldType := fun k => match k with
  | _ => .int
def RL : String := "CoveSignalsLaw"
abbrev cL_below : ByteArray := method_2_code
def yL_below : MethodName := ⟨RL, "below", "(II)I"⟩
abbrev cL_cell : ByteArray := method_3_code
def yL_cell : MethodName := ⟨RL, "cell", "([II)I"⟩
abbrev cL_act : ByteArray := method_4_code
def yL_act : MethodName := ⟨RL, "act", "(LCoveSignals;LCoveSignalsLaw$Sim;I)Z"⟩
abbrev cL_build : ByteArray := method_5_code
def yL_build : MethodName := ⟨RL, "build", "(LCoveSignals;[I)LCoveSignalsLaw$Sim;"⟩
abbrev cL_law : ByteArray := code
def yL_law : MethodName := ⟨RL, "law", "([I)Z"⟩
abbrev vwCl : List vw_C := [(RX0, TX0, 7), (RX1, TX1, 13), (RX2, TX2, 3), (RX3, TX3, 6), (RX4, TX4, 2), (RX5, TX5, 10)]
end
section
theorem dX0_init_0 : decode cX0_init 0 = .ok (.aload_n 0, 1) := by decide +kernel
theorem dX0_init_1 : decode cX0_init 1 = .ok (.invokespecial 3, 3) := by decide +kernel
theorem dX0_init_4 : decode cX0_init 4 = .ok (.return_, 1) := by decide +kernel
theorem dX0_begin_0 : decode cX0_begin 0 = .ok (.aload_n 0, 1) := by decide +kernel
theorem dX0_begin_1 : decode cX0_begin 1 = .ok (.iload_n 1, 1) := by decide +kernel
theorem dX0_begin_2 : decode cX0_begin 2 = .ok (.putfield 9, 3) := by decide +kernel
theorem dX0_begin_5 : decode cX0_begin 5 = .ok (.aload_n 0, 1) := by decide +kernel
theorem dX0_begin_6 : decode cX0_begin 6 = .ok (.iload_n 2, 1) := by decide +kernel
theorem dX0_begin_7 : decode cX0_begin 7 = .ok (.putfield 15, 3) := by decide +kernel
theorem dX0_begin_10 : decode cX0_begin 10 = .ok (.aload_n 0, 1) := by decide +kernel
theorem dX0_begin_11 : decode cX0_begin 11 = .ok (.iconst (-1), 1) := by decide +kernel
theorem dX0_begin_12 : decode cX0_begin 12 = .ok (.putfield 18, 3) := by decide +kernel
theorem dX0_begin_15 : decode cX0_begin 15 = .ok (.aload_n 0, 1) := by decide +kernel
theorem dX0_begin_16 : decode cX0_begin 16 = .ok (.iconst 0, 1) := by decide +kernel
theorem dX0_begin_17 : decode cX0_begin 17 = .ok (.putfield 21, 3) := by decide +kernel
theorem dX0_begin_20 : decode cX0_begin 20 = .ok (.aload_n 0, 1) := by decide +kernel
theorem dX0_begin_21 : decode cX0_begin 21 = .ok (.iconst 1, 1) := by decide +kernel
theorem dX0_begin_22 : decode cX0_begin 22 = .ok (.putfield 24, 3) := by decide +kernel
theorem dX0_begin_25 : decode cX0_begin 25 = .ok (.aload_n 0, 1) := by decide +kernel
theorem dX0_begin_26 : decode cX0_begin 26 = .ok (.iconst 0, 1) := by decide +kernel
theorem dX0_begin_27 : decode cX0_begin 27 = .ok (.putfield 28, 3) := by decide +kernel
theorem dX0_begin_30 : decode cX0_begin 30 = .ok (.aload_n 0, 1) := by decide +kernel
theorem dX0_begin_31 : decode cX0_begin 31 = .ok (.iconst 0, 1) := by decide +kernel
theorem dX0_begin_32 : decode cX0_begin 32 = .ok (.putfield 31, 3) := by decide +kernel
theorem dX0_begin_35 : decode cX0_begin 35 = .ok (.return_, 1) := by decide +kernel
theorem dX0_copyFrom_0 : decode cX0_copyFrom 0 = .ok (.aload_n 0, 1) := by decide +kernel
theorem dX0_copyFrom_1 : decode cX0_copyFrom 1 = .ok (.aload_n 1, 1) := by decide +kernel
theorem dX0_copyFrom_2 : decode cX0_copyFrom 2 = .ok (.getfield 9, 3) := by decide +kernel
theorem dX0_copyFrom_5 : decode cX0_copyFrom 5 = .ok (.putfield 9, 3) := by decide +kernel
theorem dX0_copyFrom_8 : decode cX0_copyFrom 8 = .ok (.aload_n 0, 1) := by decide +kernel
theorem dX0_copyFrom_9 : decode cX0_copyFrom 9 = .ok (.aload_n 1, 1) := by decide +kernel
theorem dX0_copyFrom_10 : decode cX0_copyFrom 10 = .ok (.getfield 15, 3) := by decide +kernel
theorem dX0_copyFrom_13 : decode cX0_copyFrom 13 = .ok (.putfield 15, 3) := by decide +kernel
theorem dX0_copyFrom_16 : decode cX0_copyFrom 16 = .ok (.aload_n 0, 1) := by decide +kernel
theorem dX0_copyFrom_17 : decode cX0_copyFrom 17 = .ok (.aload_n 1, 1) := by decide +kernel
theorem dX0_copyFrom_18 : decode cX0_copyFrom 18 = .ok (.getfield 18, 3) := by decide +kernel
theorem dX0_copyFrom_21 : decode cX0_copyFrom 21 = .ok (.putfield 18, 3) := by decide +kernel
theorem dX0_copyFrom_24 : decode cX0_copyFrom 24 = .ok (.aload_n 0, 1) := by decide +kernel
theorem dX0_copyFrom_25 : decode cX0_copyFrom 25 = .ok (.aload_n 1, 1) := by decide +kernel
theorem dX0_copyFrom_26 : decode cX0_copyFrom 26 = .ok (.getfield 21, 3) := by decide +kernel
theorem dX0_copyFrom_29 : decode cX0_copyFrom 29 = .ok (.putfield 21, 3) := by decide +kernel
theorem dX0_copyFrom_32 : decode cX0_copyFrom 32 = .ok (.aload_n 0, 1) := by decide +kernel
theorem dX0_copyFrom_33 : decode cX0_copyFrom 33 = .ok (.aload_n 1, 1) := by decide +kernel
theorem dX0_copyFrom_34 : decode cX0_copyFrom 34 = .ok (.getfield 24, 3) := by decide +kernel
theorem dX0_copyFrom_37 : decode cX0_copyFrom 37 = .ok (.putfield 24, 3) := by decide +kernel
theorem dX0_copyFrom_40 : decode cX0_copyFrom 40 = .ok (.aload_n 0, 1) := by decide +kernel
theorem dX0_copyFrom_41 : decode cX0_copyFrom 41 = .ok (.aload_n 1, 1) := by decide +kernel
theorem dX0_copyFrom_42 : decode cX0_copyFrom 42 = .ok (.getfield 28, 3) := by decide +kernel
theorem dX0_copyFrom_45 : decode cX0_copyFrom 45 = .ok (.putfield 28, 3) := by decide +kernel
theorem dX0_copyFrom_48 : decode cX0_copyFrom 48 = .ok (.aload_n 0, 1) := by decide +kernel
theorem dX0_copyFrom_49 : decode cX0_copyFrom 49 = .ok (.aload_n 1, 1) := by decide +kernel
theorem dX0_copyFrom_50 : decode cX0_copyFrom 50 = .ok (.getfield 31, 3) := by decide +kernel
theorem dX0_copyFrom_53 : decode cX0_copyFrom 53 = .ok (.putfield 31, 3) := by decide +kernel
theorem dX0_copyFrom_56 : decode cX0_copyFrom 56 = .ok (.return_, 1) := by decide +kernel
theorem dX0_sendTo_0 : decode cX0_sendTo 0 = .ok (.aload_n 0, 1) := by decide +kernel
theorem dX0_sendTo_1 : decode cX0_sendTo 1 = .ok (.iload_n 1, 1) := by decide +kernel
theorem dX0_sendTo_2 : decode cX0_sendTo 2 = .ok (.putfield 18, 3) := by decide +kernel
theorem dX0_sendTo_5 : decode cX0_sendTo 5 = .ok (.aload_n 0, 1) := by decide +kernel
theorem dX0_sendTo_6 : decode cX0_sendTo 6 = .ok (.iload_n 1, 1) := by decide +kernel
theorem dX0_sendTo_7 : decode cX0_sendTo 7 = .ok (.iconst (-1), 1) := by decide +kernel
theorem dX0_sendTo_8 : decode cX0_sendTo 8 = .ok (.if_icmp .ne 7, 3) := by decide +kernel
theorem dX0_sendTo_11 : decode cX0_sendTo 11 = .ok (.iconst 1, 1) := by decide +kernel
theorem dX0_sendTo_12 : decode cX0_sendTo 12 = .ok (.goto 4, 3) := by decide +kernel
theorem dX0_sendTo_15 : decode cX0_sendTo 15 = .ok (.iconst 0, 1) := by decide +kernel
theorem dX0_sendTo_16 : decode cX0_sendTo 16 = .ok (.putfield 24, 3) := by decide +kernel
theorem dX0_sendTo_19 : decode cX0_sendTo 19 = .ok (.aload_n 0, 1) := by decide +kernel
theorem dX0_sendTo_20 : decode cX0_sendTo 20 = .ok (.iconst 0, 1) := by decide +kernel
theorem dX0_sendTo_21 : decode cX0_sendTo 21 = .ok (.putfield 21, 3) := by decide +kernel
theorem dX0_sendTo_24 : decode cX0_sendTo 24 = .ok (.return_, 1) := by decide +kernel
theorem dX0_liesAtGoal_0 : decode cX0_liesAtGoal 0 = .ok (.aload_n 0, 1) := by decide +kernel
theorem dX0_liesAtGoal_1 : decode cX0_liesAtGoal 1 = .ok (.getfield 28, 3) := by decide +kernel
theorem dX0_liesAtGoal_4 : decode cX0_liesAtGoal 4 = .ok (.ifCond .ne 18, 3) := by decide +kernel
theorem dX0_liesAtGoal_7 : decode cX0_liesAtGoal 7 = .ok (.aload_n 0, 1) := by decide +kernel
theorem dX0_liesAtGoal_8 : decode cX0_liesAtGoal 8 = .ok (.getfield 18, 3) := by decide +kernel
theorem dX0_liesAtGoal_11 : decode cX0_liesAtGoal 11 = .ok (.aload_n 0, 1) := by decide +kernel
theorem dX0_liesAtGoal_12 : decode cX0_liesAtGoal 12 = .ok (.getfield 9, 3) := by decide +kernel
theorem dX0_liesAtGoal_15 : decode cX0_liesAtGoal 15 = .ok (.if_icmp .ne 7, 3) := by decide +kernel
theorem dX0_liesAtGoal_18 : decode cX0_liesAtGoal 18 = .ok (.iconst 1, 1) := by decide +kernel
theorem dX0_liesAtGoal_19 : decode cX0_liesAtGoal 19 = .ok (.goto 4, 3) := by decide +kernel
theorem dX0_liesAtGoal_22 : decode cX0_liesAtGoal 22 = .ok (.iconst 0, 1) := by decide +kernel
theorem dX0_liesAtGoal_23 : decode cX0_liesAtGoal 23 = .ok (.ireturn, 1) := by decide +kernel
theorem dX0_sail_0 : decode cX0_sail 0 = .ok (.aload_n 0, 1) := by decide +kernel
theorem dX0_sail_1 : decode cX0_sail 1 = .ok (.getfield 18, 3) := by decide +kernel
theorem dX0_sail_4 : decode cX0_sail 4 = .ok (.iconst (-1), 1) := by decide +kernel
theorem dX0_sail_5 : decode cX0_sail 5 = .ok (.if_icmp .ne 4, 3) := by decide +kernel
theorem dX0_sail_8 : decode cX0_sail 8 = .ok (.return_, 1) := by decide +kernel
theorem dX0_sail_9 : decode cX0_sail 9 = .ok (.aload_n 0, 1) := by decide +kernel
theorem dX0_sail_10 : decode cX0_sail 10 = .ok (.getfield 9, 3) := by decide +kernel
theorem dX0_sail_13 : decode cX0_sail 13 = .ok (.aload_n 0, 1) := by decide +kernel
theorem dX0_sail_14 : decode cX0_sail 14 = .ok (.getfield 18, 3) := by decide +kernel
theorem dX0_sail_17 : decode cX0_sail 17 = .ok (.invokestatic 34, 3) := by decide +kernel
theorem dX0_sail_20 : decode cX0_sail 20 = .ok (.istore_n 1, 1) := by decide +kernel
theorem dX0_sail_21 : decode cX0_sail 21 = .ok (.iload_n 1, 1) := by decide +kernel
theorem dX0_sail_22 : decode cX0_sail 22 = .ok (.iconst 2, 1) := by decide +kernel
theorem dX0_sail_23 : decode cX0_sail 23 = .ok (.if_icmp .ge 7, 3) := by decide +kernel
theorem dX0_sail_26 : decode cX0_sail 26 = .ok (.iload_n 1, 1) := by decide +kernel
theorem dX0_sail_27 : decode cX0_sail 27 = .ok (.goto 4, 3) := by decide +kernel
theorem dX0_sail_30 : decode cX0_sail 30 = .ok (.iconst 2, 1) := by decide +kernel
theorem dX0_sail_31 : decode cX0_sail 31 = .ok (.istore_n 2, 1) := by decide +kernel
theorem dX0_sail_32 : decode cX0_sail 32 = .ok (.aload_n 0, 1) := by decide +kernel
theorem dX0_sail_33 : decode cX0_sail 33 = .ok (.dup, 1) := by decide +kernel
theorem dX0_sail_34 : decode cX0_sail 34 = .ok (.getfield 9, 3) := by decide +kernel
theorem dX0_sail_37 : decode cX0_sail 37 = .ok (.aload_n 0, 1) := by decide +kernel
theorem dX0_sail_38 : decode cX0_sail 38 = .ok (.getfield 18, 3) := by decide +kernel
theorem dX0_sail_41 : decode cX0_sail 41 = .ok (.aload_n 0, 1) := by decide +kernel
theorem dX0_sail_42 : decode cX0_sail 42 = .ok (.getfield 9, 3) := by decide +kernel
theorem dX0_sail_45 : decode cX0_sail 45 = .ok (.if_icmp .ge 8, 3) := by decide +kernel
theorem dX0_sail_48 : decode cX0_sail 48 = .ok (.iload_n 2, 1) := by decide +kernel
theorem dX0_sail_49 : decode cX0_sail 49 = .ok (.ineg, 1) := by decide +kernel
theorem dX0_sail_50 : decode cX0_sail 50 = .ok (.goto 4, 3) := by decide +kernel
theorem dX0_sail_53 : decode cX0_sail 53 = .ok (.iload_n 2, 1) := by decide +kernel
theorem dX0_sail_54 : decode cX0_sail 54 = .ok (.iadd, 1) := by decide +kernel
theorem dX0_sail_55 : decode cX0_sail 55 = .ok (.putfield 9, 3) := by decide +kernel
theorem dX0_sail_58 : decode cX0_sail 58 = .ok (.return_, 1) := by decide +kernel
theorem dX0_stage_0 : decode cX0_stage 0 = .ok (.aload_n 0, 1) := by decide +kernel
theorem dX0_stage_1 : decode cX0_stage 1 = .ok (.getfield 28, 3) := by decide +kernel
theorem dX0_stage_4 : decode cX0_stage 4 = .ok (.iconst 1, 1) := by decide +kernel
theorem dX0_stage_5 : decode cX0_stage 5 = .ok (.if_icmp .ne 5, 3) := by decide +kernel
theorem dX0_stage_8 : decode cX0_stage 8 = .ok (.iconst 3, 1) := by decide +kernel
theorem dX0_stage_9 : decode cX0_stage 9 = .ok (.ireturn, 1) := by decide +kernel
theorem dX0_stage_10 : decode cX0_stage 10 = .ok (.aload_n 0, 1) := by decide +kernel
theorem dX0_stage_11 : decode cX0_stage 11 = .ok (.getfield 28, 3) := by decide +kernel
theorem dX0_stage_14 : decode cX0_stage 14 = .ok (.iconst 2, 1) := by decide +kernel
theorem dX0_stage_15 : decode cX0_stage 15 = .ok (.if_icmp .ne 5, 3) := by decide +kernel
theorem dX0_stage_18 : decode cX0_stage 18 = .ok (.iconst 4, 1) := by decide +kernel
theorem dX0_stage_19 : decode cX0_stage 19 = .ok (.ireturn, 1) := by decide +kernel
theorem dX0_stage_20 : decode cX0_stage 20 = .ok (.aload_n 0, 1) := by decide +kernel
theorem dX0_stage_21 : decode cX0_stage 21 = .ok (.getfield 18, 3) := by decide +kernel
theorem dX0_stage_24 : decode cX0_stage 24 = .ok (.iconst (-1), 1) := by decide +kernel
theorem dX0_stage_25 : decode cX0_stage 25 = .ok (.if_icmp .ne 5, 3) := by decide +kernel
theorem dX0_stage_28 : decode cX0_stage 28 = .ok (.iconst 0, 1) := by decide +kernel
theorem dX0_stage_29 : decode cX0_stage 29 = .ok (.ireturn, 1) := by decide +kernel
theorem dX0_stage_30 : decode cX0_stage 30 = .ok (.aload_n 0, 1) := by decide +kernel
theorem dX0_stage_31 : decode cX0_stage 31 = .ok (.getfield 18, 3) := by decide +kernel
theorem dX0_stage_34 : decode cX0_stage 34 = .ok (.aload_n 0, 1) := by decide +kernel
theorem dX0_stage_35 : decode cX0_stage 35 = .ok (.getfield 9, 3) := by decide +kernel
theorem dX0_stage_38 : decode cX0_stage 38 = .ok (.if_icmp .ne 7, 3) := by decide +kernel
theorem dX0_stage_41 : decode cX0_stage 41 = .ok (.iconst 2, 1) := by decide +kernel
theorem dX0_stage_42 : decode cX0_stage 42 = .ok (.goto 4, 3) := by decide +kernel
theorem dX0_stage_45 : decode cX0_stage 45 = .ok (.iconst 1, 1) := by decide +kernel
theorem dX0_stage_46 : decode cX0_stage 46 = .ok (.ireturn, 1) := by decide +kernel
theorem dX0_tell_0 : decode cX0_tell 0 = .ok (.iload_n 1, 1) := by decide +kernel
theorem dX0_tell_1 : decode cX0_tell 1 = .ok (.tableswitch 69 0 5 #[39, 44, 49, 54, 59, 64], 39) := by decide +kernel
theorem dX0_tell_40 : decode cX0_tell 40 = .ok (.aload_n 0, 1) := by decide +kernel
theorem dX0_tell_41 : decode cX0_tell 41 = .ok (.getfield 9, 3) := by decide +kernel
theorem dX0_tell_44 : decode cX0_tell 44 = .ok (.ireturn, 1) := by decide +kernel
theorem dX0_tell_45 : decode cX0_tell 45 = .ok (.aload_n 0, 1) := by decide +kernel
theorem dX0_tell_46 : decode cX0_tell 46 = .ok (.getfield 15, 3) := by decide +kernel
theorem dX0_tell_49 : decode cX0_tell 49 = .ok (.ireturn, 1) := by decide +kernel
theorem dX0_tell_50 : decode cX0_tell 50 = .ok (.aload_n 0, 1) := by decide +kernel
theorem dX0_tell_51 : decode cX0_tell 51 = .ok (.getfield 18, 3) := by decide +kernel
theorem dX0_tell_54 : decode cX0_tell 54 = .ok (.ireturn, 1) := by decide +kernel
theorem dX0_tell_55 : decode cX0_tell 55 = .ok (.aload_n 0, 1) := by decide +kernel
theorem dX0_tell_56 : decode cX0_tell 56 = .ok (.invokevirtual 38, 3) := by decide +kernel
theorem dX0_tell_59 : decode cX0_tell 59 = .ok (.ireturn, 1) := by decide +kernel
theorem dX0_tell_60 : decode cX0_tell 60 = .ok (.aload_n 0, 1) := by decide +kernel
theorem dX0_tell_61 : decode cX0_tell 61 = .ok (.getfield 31, 3) := by decide +kernel
theorem dX0_tell_64 : decode cX0_tell 64 = .ok (.ireturn, 1) := by decide +kernel
theorem dX0_tell_65 : decode cX0_tell 65 = .ok (.aload_n 0, 1) := by decide +kernel
theorem dX0_tell_66 : decode cX0_tell 66 = .ok (.getfield 21, 3) := by decide +kernel
theorem dX0_tell_69 : decode cX0_tell 69 = .ok (.ireturn, 1) := by decide +kernel
theorem dX0_tell_70 : decode cX0_tell 70 = .ok (.aload_n 0, 1) := by decide +kernel
theorem dX0_tell_71 : decode cX0_tell 71 = .ok (.getfield 24, 3) := by decide +kernel
theorem dX0_tell_74 : decode cX0_tell 74 = .ok (.ifCond .eq 7, 3) := by decide +kernel
theorem dX0_tell_77 : decode cX0_tell 77 = .ok (.iconst 1, 1) := by decide +kernel
theorem dX0_tell_78 : decode cX0_tell 78 = .ok (.goto 4, 3) := by decide +kernel
theorem dX0_tell_81 : decode cX0_tell 81 = .ok (.iconst 0, 1) := by decide +kernel
theorem dX0_tell_82 : decode cX0_tell 82 = .ok (.ireturn, 1) := by decide +kernel
theorem dX1_init_0 : decode cX1_init 0 = .ok (.aload_n 0, 1) := by decide +kernel
theorem dX1_init_1 : decode cX1_init 1 = .ok (.invokespecial 3, 3) := by decide +kernel
theorem dX1_init_4 : decode cX1_init 4 = .ok (.aload_n 0, 1) := by decide +kernel
theorem dX1_init_5 : decode cX1_init 5 = .ok (.bipush 16, 2) := by decide +kernel
theorem dX1_init_7 : decode cX1_init 7 = .ok (.newarray .int, 2) := by decide +kernel
theorem dX1_init_9 : decode cX1_init 9 = .ok (.putfield 9, 3) := by decide +kernel
theorem dX1_init_12 : decode cX1_init 12 = .ok (.aload_n 0, 1) := by decide +kernel
theorem dX1_init_13 : decode cX1_init 13 = .ok (.bipush 16, 2) := by decide +kernel
theorem dX1_init_15 : decode cX1_init 15 = .ok (.newarray .int, 2) := by decide +kernel
theorem dX1_init_17 : decode cX1_init 17 = .ok (.putfield 15, 3) := by decide +kernel
theorem dX1_init_20 : decode cX1_init 20 = .ok (.aload_n 0, 1) := by decide +kernel
theorem dX1_init_21 : decode cX1_init 21 = .ok (.bipush 8, 2) := by decide +kernel
theorem dX1_init_23 : decode cX1_init 23 = .ok (.newarray .int, 2) := by decide +kernel
theorem dX1_init_25 : decode cX1_init 25 = .ok (.putfield 18, 3) := by decide +kernel
theorem dX1_init_28 : decode cX1_init 28 = .ok (.aload_n 0, 1) := by decide +kernel
theorem dX1_init_29 : decode cX1_init 29 = .ok (.bipush 8, 2) := by decide +kernel
theorem dX1_init_31 : decode cX1_init 31 = .ok (.newarray .int, 2) := by decide +kernel
theorem dX1_init_33 : decode cX1_init 33 = .ok (.putfield 21, 3) := by decide +kernel
theorem dX1_init_36 : decode cX1_init 36 = .ok (.aload_n 0, 1) := by decide +kernel
theorem dX1_init_37 : decode cX1_init 37 = .ok (.iconst 5, 1) := by decide +kernel
theorem dX1_init_38 : decode cX1_init 38 = .ok (.anewarray 24, 3) := by decide +kernel
theorem dX1_init_41 : decode cX1_init 41 = .ok (.putfield 26, 3) := by decide +kernel
theorem dX1_init_44 : decode cX1_init 44 = .ok (.aload_n 0, 1) := by decide +kernel
theorem dX1_init_45 : decode cX1_init 45 = .ok (.iconst 4, 1) := by decide +kernel
theorem dX1_init_46 : decode cX1_init 46 = .ok (.anewarray 30, 3) := by decide +kernel
theorem dX1_init_49 : decode cX1_init 49 = .ok (.putfield 32, 3) := by decide +kernel
theorem dX1_init_52 : decode cX1_init 52 = .ok (.aload_n 0, 1) := by decide +kernel
theorem dX1_init_53 : decode cX1_init 53 = .ok (.bipush 6, 2) := by decide +kernel
theorem dX1_init_55 : decode cX1_init 55 = .ok (.anewarray 36, 3) := by decide +kernel
theorem dX1_init_58 : decode cX1_init 58 = .ok (.putfield 38, 3) := by decide +kernel
theorem dX1_init_61 : decode cX1_init 61 = .ok (.iconst 0, 1) := by decide +kernel
theorem dX1_init_62 : decode cX1_init 62 = .ok (.istore_n 1, 1) := by decide +kernel
theorem dX1_init_63 : decode cX1_init 63 = .ok (.iload_n 1, 1) := by decide +kernel
theorem dX1_init_64 : decode cX1_init 64 = .ok (.bipush 7, 2) := by decide +kernel
theorem dX1_init_66 : decode cX1_init 66 = .ok (.if_icmp .gt 16, 3) := by decide +kernel
theorem dX1_init_69 : decode cX1_init 69 = .ok (.aload_n 0, 1) := by decide +kernel
theorem dX1_init_70 : decode cX1_init 70 = .ok (.getfield 18, 3) := by decide +kernel
theorem dX1_init_73 : decode cX1_init 73 = .ok (.iload_n 1, 1) := by decide +kernel
theorem dX1_init_74 : decode cX1_init 74 = .ok (.iconst (-1), 1) := by decide +kernel
theorem dX1_init_75 : decode cX1_init 75 = .ok (.iastore, 1) := by decide +kernel
theorem dX1_init_76 : decode cX1_init 76 = .ok (.iinc 1 1, 3) := by decide +kernel
theorem dX1_init_79 : decode cX1_init 79 = .ok (.goto (-16), 3) := by decide +kernel
theorem dX1_init_82 : decode cX1_init 82 = .ok (.iconst 0, 1) := by decide +kernel
theorem dX1_init_83 : decode cX1_init 83 = .ok (.istore_n 1, 1) := by decide +kernel
theorem dX1_init_84 : decode cX1_init 84 = .ok (.iload_n 1, 1) := by decide +kernel
theorem dX1_init_85 : decode cX1_init 85 = .ok (.iconst 5, 1) := by decide +kernel
theorem dX1_init_86 : decode cX1_init 86 = .ok (.if_icmp .ge 22, 3) := by decide +kernel
theorem dX1_init_89 : decode cX1_init 89 = .ok (.aload_n 0, 1) := by decide +kernel
theorem dX1_init_90 : decode cX1_init 90 = .ok (.getfield 26, 3) := by decide +kernel
theorem dX1_init_93 : decode cX1_init 93 = .ok (.iload_n 1, 1) := by decide +kernel
theorem dX1_init_94 : decode cX1_init 94 = .ok (.new 24, 3) := by decide +kernel
theorem dX1_init_97 : decode cX1_init 97 = .ok (.dup, 1) := by decide +kernel
theorem dX1_init_98 : decode cX1_init 98 = .ok (.invokespecial 42, 3) := by decide +kernel
theorem dX1_init_101 : decode cX1_init 101 = .ok (.aastore, 1) := by decide +kernel
theorem dX1_init_102 : decode cX1_init 102 = .ok (.iinc 1 1, 3) := by decide +kernel
theorem dX1_init_105 : decode cX1_init 105 = .ok (.goto (-21), 3) := by decide +kernel
theorem dX1_init_108 : decode cX1_init 108 = .ok (.iconst 0, 1) := by decide +kernel
theorem dX1_init_109 : decode cX1_init 109 = .ok (.istore_n 1, 1) := by decide +kernel
theorem dX1_init_110 : decode cX1_init 110 = .ok (.iload_n 1, 1) := by decide +kernel
theorem dX1_init_111 : decode cX1_init 111 = .ok (.iconst 4, 1) := by decide +kernel
theorem dX1_init_112 : decode cX1_init 112 = .ok (.if_icmp .ge 22, 3) := by decide +kernel
theorem dX1_init_115 : decode cX1_init 115 = .ok (.aload_n 0, 1) := by decide +kernel
theorem dX1_init_116 : decode cX1_init 116 = .ok (.getfield 32, 3) := by decide +kernel
theorem dX1_init_119 : decode cX1_init 119 = .ok (.iload_n 1, 1) := by decide +kernel
theorem dX1_init_120 : decode cX1_init 120 = .ok (.new 30, 3) := by decide +kernel
theorem dX1_init_123 : decode cX1_init 123 = .ok (.dup, 1) := by decide +kernel
theorem dX1_init_124 : decode cX1_init 124 = .ok (.invokespecial 43, 3) := by decide +kernel
theorem dX1_init_127 : decode cX1_init 127 = .ok (.aastore, 1) := by decide +kernel
theorem dX1_init_128 : decode cX1_init 128 = .ok (.iinc 1 1, 3) := by decide +kernel
theorem dX1_init_131 : decode cX1_init 131 = .ok (.goto (-21), 3) := by decide +kernel
theorem dX1_init_134 : decode cX1_init 134 = .ok (.iconst 0, 1) := by decide +kernel
theorem dX1_init_135 : decode cX1_init 135 = .ok (.istore_n 1, 1) := by decide +kernel
theorem dX1_init_136 : decode cX1_init 136 = .ok (.iload_n 1, 1) := by decide +kernel
theorem dX1_init_137 : decode cX1_init 137 = .ok (.bipush 6, 2) := by decide +kernel
theorem dX1_init_139 : decode cX1_init 139 = .ok (.if_icmp .ge 22, 3) := by decide +kernel
theorem dX1_init_142 : decode cX1_init 142 = .ok (.aload_n 0, 1) := by decide +kernel
theorem dX1_init_143 : decode cX1_init 143 = .ok (.getfield 38, 3) := by decide +kernel
theorem dX1_init_146 : decode cX1_init 146 = .ok (.iload_n 1, 1) := by decide +kernel
theorem dX1_init_147 : decode cX1_init 147 = .ok (.new 36, 3) := by decide +kernel
theorem dX1_init_150 : decode cX1_init 150 = .ok (.dup, 1) := by decide +kernel
theorem dX1_init_151 : decode cX1_init 151 = .ok (.invokespecial 44, 3) := by decide +kernel
theorem dX1_init_154 : decode cX1_init 154 = .ok (.aastore, 1) := by decide +kernel
theorem dX1_init_155 : decode cX1_init 155 = .ok (.iinc 1 1, 3) := by decide +kernel
theorem dX1_init_158 : decode cX1_init 158 = .ok (.goto (-22), 3) := by decide +kernel
theorem dX1_init_161 : decode cX1_init 161 = .ok (.return_, 1) := by decide +kernel
theorem dX1_copyFrom_0 : decode cX1_copyFrom 0 = .ok (.aload_n 1, 1) := by decide +kernel
theorem dX1_copyFrom_1 : decode cX1_copyFrom 1 = .ok (.getfield 9, 3) := by decide +kernel
theorem dX1_copyFrom_4 : decode cX1_copyFrom 4 = .ok (.iconst 0, 1) := by decide +kernel
theorem dX1_copyFrom_5 : decode cX1_copyFrom 5 = .ok (.aload_n 0, 1) := by decide +kernel
theorem dX1_copyFrom_6 : decode cX1_copyFrom 6 = .ok (.getfield 9, 3) := by decide +kernel
theorem dX1_copyFrom_9 : decode cX1_copyFrom 9 = .ok (.iconst 0, 1) := by decide +kernel
theorem dX1_copyFrom_10 : decode cX1_copyFrom 10 = .ok (.bipush 16, 2) := by decide +kernel
theorem dX1_copyFrom_12 : decode cX1_copyFrom 12 = .ok (.invokestatic 45, 3) := by decide +kernel
theorem dX1_copyFrom_15 : decode cX1_copyFrom 15 = .ok (.aload_n 1, 1) := by decide +kernel
theorem dX1_copyFrom_16 : decode cX1_copyFrom 16 = .ok (.getfield 15, 3) := by decide +kernel
theorem dX1_copyFrom_19 : decode cX1_copyFrom 19 = .ok (.iconst 0, 1) := by decide +kernel
theorem dX1_copyFrom_20 : decode cX1_copyFrom 20 = .ok (.aload_n 0, 1) := by decide +kernel
theorem dX1_copyFrom_21 : decode cX1_copyFrom 21 = .ok (.getfield 15, 3) := by decide +kernel
theorem dX1_copyFrom_24 : decode cX1_copyFrom 24 = .ok (.iconst 0, 1) := by decide +kernel
theorem dX1_copyFrom_25 : decode cX1_copyFrom 25 = .ok (.bipush 16, 2) := by decide +kernel
theorem dX1_copyFrom_27 : decode cX1_copyFrom 27 = .ok (.invokestatic 45, 3) := by decide +kernel
theorem dX1_copyFrom_30 : decode cX1_copyFrom 30 = .ok (.aload_n 1, 1) := by decide +kernel
theorem dX1_copyFrom_31 : decode cX1_copyFrom 31 = .ok (.getfield 18, 3) := by decide +kernel
theorem dX1_copyFrom_34 : decode cX1_copyFrom 34 = .ok (.iconst 0, 1) := by decide +kernel
theorem dX1_copyFrom_35 : decode cX1_copyFrom 35 = .ok (.aload_n 0, 1) := by decide +kernel
theorem dX1_copyFrom_36 : decode cX1_copyFrom 36 = .ok (.getfield 18, 3) := by decide +kernel
theorem dX1_copyFrom_39 : decode cX1_copyFrom 39 = .ok (.iconst 0, 1) := by decide +kernel
theorem dX1_copyFrom_40 : decode cX1_copyFrom 40 = .ok (.bipush 8, 2) := by decide +kernel
theorem dX1_copyFrom_42 : decode cX1_copyFrom 42 = .ok (.invokestatic 45, 3) := by decide +kernel
theorem dX1_copyFrom_45 : decode cX1_copyFrom 45 = .ok (.aload_n 1, 1) := by decide +kernel
theorem dX1_copyFrom_46 : decode cX1_copyFrom 46 = .ok (.getfield 21, 3) := by decide +kernel
theorem dX1_copyFrom_49 : decode cX1_copyFrom 49 = .ok (.iconst 0, 1) := by decide +kernel
theorem dX1_copyFrom_50 : decode cX1_copyFrom 50 = .ok (.aload_n 0, 1) := by decide +kernel
theorem dX1_copyFrom_51 : decode cX1_copyFrom 51 = .ok (.getfield 21, 3) := by decide +kernel
theorem dX1_copyFrom_54 : decode cX1_copyFrom 54 = .ok (.iconst 0, 1) := by decide +kernel
theorem dX1_copyFrom_55 : decode cX1_copyFrom 55 = .ok (.bipush 8, 2) := by decide +kernel
theorem dX1_copyFrom_57 : decode cX1_copyFrom 57 = .ok (.invokestatic 45, 3) := by decide +kernel
theorem dX1_copyFrom_60 : decode cX1_copyFrom 60 = .ok (.aload_n 0, 1) := by decide +kernel
theorem dX1_copyFrom_61 : decode cX1_copyFrom 61 = .ok (.aload_n 1, 1) := by decide +kernel
theorem dX1_copyFrom_62 : decode cX1_copyFrom 62 = .ok (.getfield 51, 3) := by decide +kernel
theorem dX1_copyFrom_65 : decode cX1_copyFrom 65 = .ok (.putfield 51, 3) := by decide +kernel
theorem dX1_copyFrom_68 : decode cX1_copyFrom 68 = .ok (.aload_n 0, 1) := by decide +kernel
theorem dX1_copyFrom_69 : decode cX1_copyFrom 69 = .ok (.aload_n 1, 1) := by decide +kernel
theorem dX1_copyFrom_70 : decode cX1_copyFrom 70 = .ok (.getfield 55, 3) := by decide +kernel
theorem dX1_copyFrom_73 : decode cX1_copyFrom 73 = .ok (.putfield 55, 3) := by decide +kernel
theorem dX1_copyFrom_76 : decode cX1_copyFrom 76 = .ok (.aload_n 0, 1) := by decide +kernel
theorem dX1_copyFrom_77 : decode cX1_copyFrom 77 = .ok (.aload_n 1, 1) := by decide +kernel
theorem dX1_copyFrom_78 : decode cX1_copyFrom 78 = .ok (.getfield 58, 3) := by decide +kernel
theorem dX1_copyFrom_81 : decode cX1_copyFrom 81 = .ok (.putfield 58, 3) := by decide +kernel
theorem dX1_copyFrom_84 : decode cX1_copyFrom 84 = .ok (.iconst 0, 1) := by decide +kernel
theorem dX1_copyFrom_85 : decode cX1_copyFrom 85 = .ok (.istore_n 2, 1) := by decide +kernel
theorem dX1_copyFrom_86 : decode cX1_copyFrom 86 = .ok (.iload_n 2, 1) := by decide +kernel
theorem dX1_copyFrom_87 : decode cX1_copyFrom 87 = .ok (.aload_n 0, 1) := by decide +kernel
theorem dX1_copyFrom_88 : decode cX1_copyFrom 88 = .ok (.getfield 51, 3) := by decide +kernel
theorem dX1_copyFrom_91 : decode cX1_copyFrom 91 = .ok (.if_icmp .ge 24, 3) := by decide +kernel
theorem dX1_copyFrom_94 : decode cX1_copyFrom 94 = .ok (.aload_n 0, 1) := by decide +kernel
theorem dX1_copyFrom_95 : decode cX1_copyFrom 95 = .ok (.getfield 26, 3) := by decide +kernel
theorem dX1_copyFrom_98 : decode cX1_copyFrom 98 = .ok (.iload_n 2, 1) := by decide +kernel
theorem dX1_copyFrom_99 : decode cX1_copyFrom 99 = .ok (.aaload, 1) := by decide +kernel
theorem dX1_copyFrom_100 : decode cX1_copyFrom 100 = .ok (.aload_n 1, 1) := by decide +kernel
theorem dX1_copyFrom_101 : decode cX1_copyFrom 101 = .ok (.getfield 26, 3) := by decide +kernel
theorem dX1_copyFrom_104 : decode cX1_copyFrom 104 = .ok (.iload_n 2, 1) := by decide +kernel
theorem dX1_copyFrom_105 : decode cX1_copyFrom 105 = .ok (.aaload, 1) := by decide +kernel
theorem dX1_copyFrom_106 : decode cX1_copyFrom 106 = .ok (.invokevirtual 61, 3) := by decide +kernel
theorem dX1_copyFrom_109 : decode cX1_copyFrom 109 = .ok (.iinc 2 1, 3) := by decide +kernel
theorem dX1_copyFrom_112 : decode cX1_copyFrom 112 = .ok (.goto (-26), 3) := by decide +kernel
theorem dX1_copyFrom_115 : decode cX1_copyFrom 115 = .ok (.iconst 0, 1) := by decide +kernel
theorem dX1_copyFrom_116 : decode cX1_copyFrom 116 = .ok (.istore_n 2, 1) := by decide +kernel
theorem dX1_copyFrom_117 : decode cX1_copyFrom 117 = .ok (.iload_n 2, 1) := by decide +kernel
theorem dX1_copyFrom_118 : decode cX1_copyFrom 118 = .ok (.aload_n 0, 1) := by decide +kernel
theorem dX1_copyFrom_119 : decode cX1_copyFrom 119 = .ok (.getfield 55, 3) := by decide +kernel
theorem dX1_copyFrom_122 : decode cX1_copyFrom 122 = .ok (.if_icmp .ge 24, 3) := by decide +kernel
theorem dX1_copyFrom_125 : decode cX1_copyFrom 125 = .ok (.aload_n 0, 1) := by decide +kernel
theorem dX1_copyFrom_126 : decode cX1_copyFrom 126 = .ok (.getfield 32, 3) := by decide +kernel
theorem dX1_copyFrom_129 : decode cX1_copyFrom 129 = .ok (.iload_n 2, 1) := by decide +kernel
theorem dX1_copyFrom_130 : decode cX1_copyFrom 130 = .ok (.aaload, 1) := by decide +kernel
theorem dX1_copyFrom_131 : decode cX1_copyFrom 131 = .ok (.aload_n 1, 1) := by decide +kernel
theorem dX1_copyFrom_132 : decode cX1_copyFrom 132 = .ok (.getfield 32, 3) := by decide +kernel
theorem dX1_copyFrom_135 : decode cX1_copyFrom 135 = .ok (.iload_n 2, 1) := by decide +kernel
theorem dX1_copyFrom_136 : decode cX1_copyFrom 136 = .ok (.aaload, 1) := by decide +kernel
theorem dX1_copyFrom_137 : decode cX1_copyFrom 137 = .ok (.invokevirtual 65, 3) := by decide +kernel
theorem dX1_copyFrom_140 : decode cX1_copyFrom 140 = .ok (.iinc 2 1, 3) := by decide +kernel
theorem dX1_copyFrom_143 : decode cX1_copyFrom 143 = .ok (.goto (-26), 3) := by decide +kernel
theorem dX1_copyFrom_146 : decode cX1_copyFrom 146 = .ok (.iconst 0, 1) := by decide +kernel
theorem dX1_copyFrom_147 : decode cX1_copyFrom 147 = .ok (.istore_n 2, 1) := by decide +kernel
theorem dX1_copyFrom_148 : decode cX1_copyFrom 148 = .ok (.iload_n 2, 1) := by decide +kernel
theorem dX1_copyFrom_149 : decode cX1_copyFrom 149 = .ok (.aload_n 0, 1) := by decide +kernel
theorem dX1_copyFrom_150 : decode cX1_copyFrom 150 = .ok (.getfield 58, 3) := by decide +kernel
theorem dX1_copyFrom_153 : decode cX1_copyFrom 153 = .ok (.if_icmp .ge 24, 3) := by decide +kernel
theorem dX1_copyFrom_156 : decode cX1_copyFrom 156 = .ok (.aload_n 0, 1) := by decide +kernel
theorem dX1_copyFrom_157 : decode cX1_copyFrom 157 = .ok (.getfield 38, 3) := by decide +kernel
theorem dX1_copyFrom_160 : decode cX1_copyFrom 160 = .ok (.iload_n 2, 1) := by decide +kernel
theorem dX1_copyFrom_161 : decode cX1_copyFrom 161 = .ok (.aaload, 1) := by decide +kernel
theorem dX1_copyFrom_162 : decode cX1_copyFrom 162 = .ok (.aload_n 1, 1) := by decide +kernel
theorem dX1_copyFrom_163 : decode cX1_copyFrom 163 = .ok (.getfield 38, 3) := by decide +kernel
theorem dX1_copyFrom_166 : decode cX1_copyFrom 166 = .ok (.iload_n 2, 1) := by decide +kernel
theorem dX1_copyFrom_167 : decode cX1_copyFrom 167 = .ok (.aaload, 1) := by decide +kernel
theorem dX1_copyFrom_168 : decode cX1_copyFrom 168 = .ok (.invokevirtual 68, 3) := by decide +kernel
theorem dX1_copyFrom_171 : decode cX1_copyFrom 171 = .ok (.iinc 2 1, 3) := by decide +kernel
theorem dX1_copyFrom_174 : decode cX1_copyFrom 174 = .ok (.goto (-26), 3) := by decide +kernel
theorem dX1_copyFrom_177 : decode cX1_copyFrom 177 = .ok (.aload_n 0, 1) := by decide +kernel
theorem dX1_copyFrom_178 : decode cX1_copyFrom 178 = .ok (.aload_n 1, 1) := by decide +kernel
theorem dX1_copyFrom_179 : decode cX1_copyFrom 179 = .ok (.getfield 71, 3) := by decide +kernel
theorem dX1_copyFrom_182 : decode cX1_copyFrom 182 = .ok (.putfield 71, 3) := by decide +kernel
theorem dX1_copyFrom_185 : decode cX1_copyFrom 185 = .ok (.aload_n 0, 1) := by decide +kernel
theorem dX1_copyFrom_186 : decode cX1_copyFrom 186 = .ok (.aload_n 1, 1) := by decide +kernel
theorem dX1_copyFrom_187 : decode cX1_copyFrom 187 = .ok (.getfield 74, 3) := by decide +kernel
theorem dX1_copyFrom_190 : decode cX1_copyFrom 190 = .ok (.putfield 74, 3) := by decide +kernel
theorem dX1_copyFrom_193 : decode cX1_copyFrom 193 = .ok (.aload_n 0, 1) := by decide +kernel
theorem dX1_copyFrom_194 : decode cX1_copyFrom 194 = .ok (.aload_n 1, 1) := by decide +kernel
theorem dX1_copyFrom_195 : decode cX1_copyFrom 195 = .ok (.getfield 77, 3) := by decide +kernel
theorem dX1_copyFrom_198 : decode cX1_copyFrom 198 = .ok (.putfield 77, 3) := by decide +kernel
theorem dX1_copyFrom_201 : decode cX1_copyFrom 201 = .ok (.return_, 1) := by decide +kernel
theorem dX1_moonNow_0 : decode cX1_moonNow 0 = .ok (.aload_n 0, 1) := by decide +kernel
theorem dX1_moonNow_1 : decode cX1_moonNow 1 = .ok (.getfield 71, 3) := by decide +kernel
theorem dX1_moonNow_4 : decode cX1_moonNow 4 = .ok (.bipush 10, 2) := by decide +kernel
theorem dX1_moonNow_6 : decode cX1_moonNow 6 = .ok (.idiv, 1) := by decide +kernel
theorem dX1_moonNow_7 : decode cX1_moonNow 7 = .ok (.invokestatic 80, 3) := by decide +kernel
theorem dX1_moonNow_10 : decode cX1_moonNow 10 = .ok (.ireturn, 1) := by decide +kernel
theorem dX1_hourOfNight_0 : decode cX1_hourOfNight 0 = .ok (.aload_n 0, 1) := by decide +kernel
theorem dX1_hourOfNight_1 : decode cX1_hourOfNight 1 = .ok (.getfield 71, 3) := by decide +kernel
theorem dX1_hourOfNight_4 : decode cX1_hourOfNight 4 = .ok (.bipush 10, 2) := by decide +kernel
theorem dX1_hourOfNight_6 : decode cX1_hourOfNight 6 = .ok (.invokestatic 84, 3) := by decide +kernel
theorem dX1_hourOfNight_9 : decode cX1_hourOfNight 9 = .ok (.ireturn, 1) := by decide +kernel
theorem dX1_isKnown_0 : decode cX1_isKnown 0 = .ok (.aload_n 0, 1) := by decide +kernel
theorem dX1_isKnown_1 : decode cX1_isKnown 1 = .ok (.getfield 21, 3) := by decide +kernel
theorem dX1_isKnown_4 : decode cX1_isKnown 4 = .ok (.iload_n 1, 1) := by decide +kernel
theorem dX1_isKnown_5 : decode cX1_isKnown 5 = .ok (.iaload, 1) := by decide +kernel
theorem dX1_isKnown_6 : decode cX1_isKnown 6 = .ok (.iconst 3, 1) := by decide +kernel
theorem dX1_isKnown_7 : decode cX1_isKnown 7 = .ok (.if_icmp .lt 7, 3) := by decide +kernel
theorem dX1_isKnown_10 : decode cX1_isKnown 10 = .ok (.iconst 1, 1) := by decide +kernel
theorem dX1_isKnown_11 : decode cX1_isKnown 11 = .ok (.goto 4, 3) := by decide +kernel
theorem dX1_isKnown_14 : decode cX1_isKnown 14 = .ok (.iconst 0, 1) := by decide +kernel
theorem dX1_isKnown_15 : decode cX1_isKnown 15 = .ok (.ireturn, 1) := by decide +kernel
theorem dX1_hasLanternAt_0 : decode cX1_hasLanternAt 0 = .ok (.iconst 0, 1) := by decide +kernel
theorem dX1_hasLanternAt_1 : decode cX1_hasLanternAt 1 = .ok (.istore_n 2, 1) := by decide +kernel
theorem dX1_hasLanternAt_2 : decode cX1_hasLanternAt 2 = .ok (.iload_n 2, 1) := by decide +kernel
theorem dX1_hasLanternAt_3 : decode cX1_hasLanternAt 3 = .ok (.aload_n 0, 1) := by decide +kernel
theorem dX1_hasLanternAt_4 : decode cX1_hasLanternAt 4 = .ok (.getfield 51, 3) := by decide +kernel
theorem dX1_hasLanternAt_7 : decode cX1_hasLanternAt 7 = .ok (.if_icmp .ge 24, 3) := by decide +kernel
theorem dX1_hasLanternAt_10 : decode cX1_hasLanternAt 10 = .ok (.aload_n 0, 1) := by decide +kernel
theorem dX1_hasLanternAt_11 : decode cX1_hasLanternAt 11 = .ok (.getfield 26, 3) := by decide +kernel
theorem dX1_hasLanternAt_14 : decode cX1_hasLanternAt 14 = .ok (.iload_n 2, 1) := by decide +kernel
theorem dX1_hasLanternAt_15 : decode cX1_hasLanternAt 15 = .ok (.aaload, 1) := by decide +kernel
theorem dX1_hasLanternAt_16 : decode cX1_hasLanternAt 16 = .ok (.getfield 90, 3) := by decide +kernel
theorem dX1_hasLanternAt_19 : decode cX1_hasLanternAt 19 = .ok (.iload_n 1, 1) := by decide +kernel
theorem dX1_hasLanternAt_20 : decode cX1_hasLanternAt 20 = .ok (.if_icmp .ne 5, 3) := by decide +kernel
theorem dX1_hasLanternAt_23 : decode cX1_hasLanternAt 23 = .ok (.iconst 1, 1) := by decide +kernel
theorem dX1_hasLanternAt_24 : decode cX1_hasLanternAt 24 = .ok (.ireturn, 1) := by decide +kernel
theorem dX1_hasLanternAt_25 : decode cX1_hasLanternAt 25 = .ok (.iinc 2 1, 3) := by decide +kernel
theorem dX1_hasLanternAt_28 : decode cX1_hasLanternAt 28 = .ok (.goto (-26), 3) := by decide +kernel
theorem dX1_hasLanternAt_31 : decode cX1_hasLanternAt 31 = .ok (.iconst 0, 1) := by decide +kernel
theorem dX1_hasLanternAt_32 : decode cX1_hasLanternAt 32 = .ok (.ireturn, 1) := by decide +kernel
theorem dX1_letGoBy_0 : decode cX1_letGoBy 0 = .ok (.iconst 0, 1) := by decide +kernel
theorem dX1_letGoBy_1 : decode cX1_letGoBy 1 = .ok (.istore_n 2, 1) := by decide +kernel
theorem dX1_letGoBy_2 : decode cX1_letGoBy 2 = .ok (.iload_n 2, 1) := by decide +kernel
theorem dX1_letGoBy_3 : decode cX1_letGoBy 3 = .ok (.iload_n 1, 1) := by decide +kernel
theorem dX1_letGoBy_4 : decode cX1_letGoBy 4 = .ok (.if_icmp .ge 13, 3) := by decide +kernel
theorem dX1_letGoBy_7 : decode cX1_letGoBy 7 = .ok (.aload_n 0, 1) := by decide +kernel
theorem dX1_letGoBy_8 : decode cX1_letGoBy 8 = .ok (.invokevirtual 93, 3) := by decide +kernel
theorem dX1_letGoBy_11 : decode cX1_letGoBy 11 = .ok (.iinc 2 1, 3) := by decide +kernel
theorem dX1_letGoBy_14 : decode cX1_letGoBy 14 = .ok (.goto (-12), 3) := by decide +kernel
theorem dX1_letGoBy_17 : decode cX1_letGoBy 17 = .ok (.return_, 1) := by decide +kernel
theorem dX1_passHour_0 : decode cX1_passHour 0 = .ok (.aload_n 0, 1) := by decide +kernel
theorem dX1_passHour_1 : decode cX1_passHour 1 = .ok (.invokevirtual 96, 3) := by decide +kernel
theorem dX1_passHour_4 : decode cX1_passHour 4 = .ok (.istore_n 1, 1) := by decide +kernel
theorem dX1_passHour_5 : decode cX1_passHour 5 = .ok (.aload_n 0, 1) := by decide +kernel
theorem dX1_passHour_6 : decode cX1_passHour 6 = .ok (.invokevirtual 100, 3) := by decide +kernel
theorem dX1_passHour_9 : decode cX1_passHour 9 = .ok (.istore_n 2, 1) := by decide +kernel
theorem dX1_passHour_10 : decode cX1_passHour 10 = .ok (.aload_n 0, 1) := by decide +kernel
theorem dX1_passHour_11 : decode cX1_passHour 11 = .ok (.iload_n 2, 1) := by decide +kernel
theorem dX1_passHour_12 : decode cX1_passHour 12 = .ok (.iload_n 1, 1) := by decide +kernel
theorem dX1_passHour_13 : decode cX1_passHour 13 = .ok (.invokevirtual 103, 3) := by decide +kernel
theorem dX1_passHour_16 : decode cX1_passHour 16 = .ok (.aload_n 0, 1) := by decide +kernel
theorem dX1_passHour_17 : decode cX1_passHour 17 = .ok (.iload_n 2, 1) := by decide +kernel
theorem dX1_passHour_18 : decode cX1_passHour 18 = .ok (.iload_n 1, 1) := by decide +kernel
theorem dX1_passHour_19 : decode cX1_passHour 19 = .ok (.invokevirtual 107, 3) := by decide +kernel
theorem dX1_passHour_22 : decode cX1_passHour 22 = .ok (.aload_n 0, 1) := by decide +kernel
theorem dX1_passHour_23 : decode cX1_passHour 23 = .ok (.iload_n 1, 1) := by decide +kernel
theorem dX1_passHour_24 : decode cX1_passHour 24 = .ok (.invokevirtual 110, 3) := by decide +kernel
theorem dX1_passHour_27 : decode cX1_passHour 27 = .ok (.aload_n 0, 1) := by decide +kernel
theorem dX1_passHour_28 : decode cX1_passHour 28 = .ok (.dup, 1) := by decide +kernel
theorem dX1_passHour_29 : decode cX1_passHour 29 = .ok (.getfield 71, 3) := by decide +kernel
theorem dX1_passHour_32 : decode cX1_passHour 32 = .ok (.iconst 1, 1) := by decide +kernel
theorem dX1_passHour_33 : decode cX1_passHour 33 = .ok (.iadd, 1) := by decide +kernel
theorem dX1_passHour_34 : decode cX1_passHour 34 = .ok (.putfield 71, 3) := by decide +kernel
theorem dX1_passHour_37 : decode cX1_passHour 37 = .ok (.return_, 1) := by decide +kernel
theorem dX1_noteLanterns_0 : decode cX1_noteLanterns 0 = .ok (.iconst 0, 1) := by decide +kernel
theorem dX1_noteLanterns_1 : decode cX1_noteLanterns 1 = .ok (.istore_n 3, 1) := by decide +kernel
theorem dX1_noteLanterns_2 : decode cX1_noteLanterns 2 = .ok (.iload_n 3, 1) := by decide +kernel
theorem dX1_noteLanterns_3 : decode cX1_noteLanterns 3 = .ok (.aload_n 0, 1) := by decide +kernel
theorem dX1_noteLanterns_4 : decode cX1_noteLanterns 4 = .ok (.getfield 51, 3) := by decide +kernel
theorem dX1_noteLanterns_7 : decode cX1_noteLanterns 7 = .ok (.if_icmp .ge 66, 3) := by decide +kernel
theorem dX1_noteLanterns_10 : decode cX1_noteLanterns 10 = .ok (.aload_n 0, 1) := by decide +kernel
theorem dX1_noteLanterns_11 : decode cX1_noteLanterns 11 = .ok (.getfield 26, 3) := by decide +kernel
theorem dX1_noteLanterns_14 : decode cX1_noteLanterns 14 = .ok (.iload_n 3, 1) := by decide +kernel
theorem dX1_noteLanterns_15 : decode cX1_noteLanterns 15 = .ok (.aaload, 1) := by decide +kernel
theorem dX1_noteLanterns_16 : decode cX1_noteLanterns 16 = .ok (.astore 4, 2) := by decide +kernel
theorem dX1_noteLanterns_18 : decode cX1_noteLanterns 18 = .ok (.aload 4, 2) := by decide +kernel
theorem dX1_noteLanterns_20 : decode cX1_noteLanterns 20 = .ok (.getfield 114, 3) := by decide +kernel
theorem dX1_noteLanterns_23 : decode cX1_noteLanterns 23 = .ok (.iload_n 1, 1) := by decide +kernel
theorem dX1_noteLanterns_24 : decode cX1_noteLanterns 24 = .ok (.iaload, 1) := by decide +kernel
theorem dX1_noteLanterns_25 : decode cX1_noteLanterns 25 = .ok (.istore 5, 2) := by decide +kernel
theorem dX1_noteLanterns_27 : decode cX1_noteLanterns 27 = .ok (.iload 5, 2) := by decide +kernel
theorem dX1_noteLanterns_29 : decode cX1_noteLanterns 29 = .ok (.ifCond .eq 38, 3) := by decide +kernel
theorem dX1_noteLanterns_32 : decode cX1_noteLanterns 32 = .ok (.aload_n 0, 1) := by decide +kernel
theorem dX1_noteLanterns_33 : decode cX1_noteLanterns 33 = .ok (.aload 4, 2) := by decide +kernel
theorem dX1_noteLanterns_35 : decode cX1_noteLanterns 35 = .ok (.getfield 90, 3) := by decide +kernel
theorem dX1_noteLanterns_38 : decode cX1_noteLanterns 38 = .ok (.iload_n 2, 1) := by decide +kernel
theorem dX1_noteLanterns_39 : decode cX1_noteLanterns 39 = .ok (.invokevirtual 117, 3) := by decide +kernel
theorem dX1_noteLanterns_42 : decode cX1_noteLanterns 42 = .ok (.ifCond .le 25, 3) := by decide +kernel
theorem dX1_noteLanterns_45 : decode cX1_noteLanterns 45 = .ok (.aload_n 0, 1) := by decide +kernel
theorem dX1_noteLanterns_46 : decode cX1_noteLanterns 46 = .ok (.getfield 21, 3) := by decide +kernel
theorem dX1_noteLanterns_49 : decode cX1_noteLanterns 49 = .ok (.iload 5, 2) := by decide +kernel
theorem dX1_noteLanterns_51 : decode cX1_noteLanterns 51 = .ok (.dup2, 1) := by decide +kernel
theorem dX1_noteLanterns_52 : decode cX1_noteLanterns 52 = .ok (.iaload, 1) := by decide +kernel
theorem dX1_noteLanterns_53 : decode cX1_noteLanterns 53 = .ok (.iconst 1, 1) := by decide +kernel
theorem dX1_noteLanterns_54 : decode cX1_noteLanterns 54 = .ok (.iadd, 1) := by decide +kernel
theorem dX1_noteLanterns_55 : decode cX1_noteLanterns 55 = .ok (.iastore, 1) := by decide +kernel
theorem dX1_noteLanterns_56 : decode cX1_noteLanterns 56 = .ok (.aload 4, 2) := by decide +kernel
theorem dX1_noteLanterns_58 : decode cX1_noteLanterns 58 = .ok (.dup, 1) := by decide +kernel
theorem dX1_noteLanterns_59 : decode cX1_noteLanterns 59 = .ok (.getfield 120, 3) := by decide +kernel
theorem dX1_noteLanterns_62 : decode cX1_noteLanterns 62 = .ok (.iconst 1, 1) := by decide +kernel
theorem dX1_noteLanterns_63 : decode cX1_noteLanterns 63 = .ok (.iadd, 1) := by decide +kernel
theorem dX1_noteLanterns_64 : decode cX1_noteLanterns 64 = .ok (.putfield 120, 3) := by decide +kernel
theorem dX1_noteLanterns_67 : decode cX1_noteLanterns 67 = .ok (.iinc 3 1, 3) := by decide +kernel
theorem dX1_noteLanterns_70 : decode cX1_noteLanterns 70 = .ok (.goto (-68), 3) := by decide +kernel
theorem dX1_noteLanterns_73 : decode cX1_noteLanterns 73 = .ok (.return_, 1) := by decide +kernel
theorem dX1_moveBoats_0 : decode cX1_moveBoats 0 = .ok (.iconst 0, 1) := by decide +kernel
theorem dX1_moveBoats_1 : decode cX1_moveBoats 1 = .ok (.istore_n 3, 1) := by decide +kernel
theorem dX1_moveBoats_2 : decode cX1_moveBoats 2 = .ok (.iload_n 3, 1) := by decide +kernel
theorem dX1_moveBoats_3 : decode cX1_moveBoats 3 = .ok (.aload_n 0, 1) := by decide +kernel
theorem dX1_moveBoats_4 : decode cX1_moveBoats 4 = .ok (.getfield 58, 3) := by decide +kernel
theorem dX1_moveBoats_7 : decode cX1_moveBoats 7 = .ok (.if_icmp .ge 63, 3) := by decide +kernel
theorem dX1_moveBoats_10 : decode cX1_moveBoats 10 = .ok (.aload_n 0, 1) := by decide +kernel
theorem dX1_moveBoats_11 : decode cX1_moveBoats 11 = .ok (.getfield 38, 3) := by decide +kernel
theorem dX1_moveBoats_14 : decode cX1_moveBoats 14 = .ok (.iload_n 3, 1) := by decide +kernel
theorem dX1_moveBoats_15 : decode cX1_moveBoats 15 = .ok (.aaload, 1) := by decide +kernel
theorem dX1_moveBoats_16 : decode cX1_moveBoats 16 = .ok (.astore 4, 2) := by decide +kernel
theorem dX1_moveBoats_18 : decode cX1_moveBoats 18 = .ok (.aload 4, 2) := by decide +kernel
theorem dX1_moveBoats_20 : decode cX1_moveBoats 20 = .ok (.invokevirtual 123, 3) := by decide +kernel
theorem dX1_moveBoats_23 : decode cX1_moveBoats 23 = .ok (.ifCond .eq 12, 3) := by decide +kernel
theorem dX1_moveBoats_26 : decode cX1_moveBoats 26 = .ok (.aload_n 0, 1) := by decide +kernel
theorem dX1_moveBoats_27 : decode cX1_moveBoats 27 = .ok (.aload 4, 2) := by decide +kernel
theorem dX1_moveBoats_29 : decode cX1_moveBoats 29 = .ok (.invokevirtual 127, 3) := by decide +kernel
theorem dX1_moveBoats_32 : decode cX1_moveBoats 32 = .ok (.goto 32, 3) := by decide +kernel
theorem dX1_moveBoats_35 : decode cX1_moveBoats 35 = .ok (.aload 4, 2) := by decide +kernel
theorem dX1_moveBoats_37 : decode cX1_moveBoats 37 = .ok (.getfield 130, 3) := by decide +kernel
theorem dX1_moveBoats_40 : decode cX1_moveBoats 40 = .ok (.ifCond .ne 24, 3) := by decide +kernel
theorem dX1_moveBoats_43 : decode cX1_moveBoats 43 = .ok (.aload 4, 2) := by decide +kernel
theorem dX1_moveBoats_45 : decode cX1_moveBoats 45 = .ok (.getfield 133, 3) := by decide +kernel
theorem dX1_moveBoats_48 : decode cX1_moveBoats 48 = .ok (.ifCond .eq 11, 3) := by decide +kernel
theorem dX1_moveBoats_51 : decode cX1_moveBoats 51 = .ok (.aload_n 0, 1) := by decide +kernel
theorem dX1_moveBoats_52 : decode cX1_moveBoats 52 = .ok (.aload 4, 2) := by decide +kernel
theorem dX1_moveBoats_54 : decode cX1_moveBoats 54 = .ok (.iload_n 1, 1) := by decide +kernel
theorem dX1_moveBoats_55 : decode cX1_moveBoats 55 = .ok (.iload_n 2, 1) := by decide +kernel
theorem dX1_moveBoats_56 : decode cX1_moveBoats 56 = .ok (.invokevirtual 137, 3) := by decide +kernel
theorem dX1_moveBoats_59 : decode cX1_moveBoats 59 = .ok (.aload 4, 2) := by decide +kernel
theorem dX1_moveBoats_61 : decode cX1_moveBoats 61 = .ok (.invokevirtual 141, 3) := by decide +kernel
theorem dX1_moveBoats_64 : decode cX1_moveBoats 64 = .ok (.iinc 3 1, 3) := by decide +kernel
theorem dX1_moveBoats_67 : decode cX1_moveBoats 67 = .ok (.goto (-65), 3) := by decide +kernel
theorem dX1_moveBoats_70 : decode cX1_moveBoats 70 = .ok (.return_, 1) := by decide +kernel
theorem dX1_unload_0 : decode cX1_unload 0 = .ok (.aload_n 0, 1) := by decide +kernel
theorem dX1_unload_1 : decode cX1_unload 1 = .ok (.getfield 9, 3) := by decide +kernel
theorem dX1_unload_4 : decode cX1_unload 4 = .ok (.aload_n 1, 1) := by decide +kernel
theorem dX1_unload_5 : decode cX1_unload 5 = .ok (.getfield 144, 3) := by decide +kernel
theorem dX1_unload_8 : decode cX1_unload 8 = .ok (.iaload, 1) := by decide +kernel
theorem dX1_unload_9 : decode cX1_unload 9 = .ok (.aload_n 0, 1) := by decide +kernel
theorem dX1_unload_10 : decode cX1_unload 10 = .ok (.getfield 15, 3) := by decide +kernel
theorem dX1_unload_13 : decode cX1_unload 13 = .ok (.aload_n 1, 1) := by decide +kernel
theorem dX1_unload_14 : decode cX1_unload 14 = .ok (.getfield 144, 3) := by decide +kernel
theorem dX1_unload_17 : decode cX1_unload 17 = .ok (.iaload, 1) := by decide +kernel
theorem dX1_unload_18 : decode cX1_unload 18 = .ok (.isub, 1) := by decide +kernel
theorem dX1_unload_19 : decode cX1_unload 19 = .ok (.istore_n 2, 1) := by decide +kernel
theorem dX1_unload_20 : decode cX1_unload 20 = .ok (.iload_n 2, 1) := by decide +kernel
theorem dX1_unload_21 : decode cX1_unload 21 = .ok (.iconst 4, 1) := by decide +kernel
theorem dX1_unload_22 : decode cX1_unload 22 = .ok (.if_icmp .ge 7, 3) := by decide +kernel
theorem dX1_unload_25 : decode cX1_unload 25 = .ok (.iload_n 2, 1) := by decide +kernel
theorem dX1_unload_26 : decode cX1_unload 26 = .ok (.goto 4, 3) := by decide +kernel
theorem dX1_unload_29 : decode cX1_unload 29 = .ok (.iconst 4, 1) := by decide +kernel
theorem dX1_unload_30 : decode cX1_unload 30 = .ok (.istore_n 3, 1) := by decide +kernel
theorem dX1_unload_31 : decode cX1_unload 31 = .ok (.aload_n 1, 1) := by decide +kernel
theorem dX1_unload_32 : decode cX1_unload 32 = .ok (.getfield 145, 3) := by decide +kernel
theorem dX1_unload_35 : decode cX1_unload 35 = .ok (.iload_n 3, 1) := by decide +kernel
theorem dX1_unload_36 : decode cX1_unload 36 = .ok (.if_icmp .ge 10, 3) := by decide +kernel
theorem dX1_unload_39 : decode cX1_unload 39 = .ok (.aload_n 1, 1) := by decide +kernel
theorem dX1_unload_40 : decode cX1_unload 40 = .ok (.getfield 145, 3) := by decide +kernel
theorem dX1_unload_43 : decode cX1_unload 43 = .ok (.goto 4, 3) := by decide +kernel
theorem dX1_unload_46 : decode cX1_unload 46 = .ok (.iload_n 3, 1) := by decide +kernel
theorem dX1_unload_47 : decode cX1_unload 47 = .ok (.istore 4, 2) := by decide +kernel
theorem dX1_unload_49 : decode cX1_unload 49 = .ok (.aload_n 0, 1) := by decide +kernel
theorem dX1_unload_50 : decode cX1_unload 50 = .ok (.getfield 15, 3) := by decide +kernel
theorem dX1_unload_53 : decode cX1_unload 53 = .ok (.aload_n 1, 1) := by decide +kernel
theorem dX1_unload_54 : decode cX1_unload 54 = .ok (.getfield 144, 3) := by decide +kernel
theorem dX1_unload_57 : decode cX1_unload 57 = .ok (.dup2, 1) := by decide +kernel
theorem dX1_unload_58 : decode cX1_unload 58 = .ok (.iaload, 1) := by decide +kernel
theorem dX1_unload_59 : decode cX1_unload 59 = .ok (.iload 4, 2) := by decide +kernel
theorem dX1_unload_61 : decode cX1_unload 61 = .ok (.iadd, 1) := by decide +kernel
theorem dX1_unload_62 : decode cX1_unload 62 = .ok (.iastore, 1) := by decide +kernel
theorem dX1_unload_63 : decode cX1_unload 63 = .ok (.aload_n 1, 1) := by decide +kernel
theorem dX1_unload_64 : decode cX1_unload 64 = .ok (.dup, 1) := by decide +kernel
theorem dX1_unload_65 : decode cX1_unload 65 = .ok (.getfield 145, 3) := by decide +kernel
theorem dX1_unload_68 : decode cX1_unload 68 = .ok (.iload 4, 2) := by decide +kernel
theorem dX1_unload_70 : decode cX1_unload 70 = .ok (.isub, 1) := by decide +kernel
theorem dX1_unload_71 : decode cX1_unload 71 = .ok (.putfield 145, 3) := by decide +kernel
theorem dX1_unload_74 : decode cX1_unload 74 = .ok (.aload_n 1, 1) := by decide +kernel
theorem dX1_unload_75 : decode cX1_unload 75 = .ok (.dup, 1) := by decide +kernel
theorem dX1_unload_76 : decode cX1_unload 76 = .ok (.getfield 148, 3) := by decide +kernel
theorem dX1_unload_79 : decode cX1_unload 79 = .ok (.iload 4, 2) := by decide +kernel
theorem dX1_unload_81 : decode cX1_unload 81 = .ok (.iadd, 1) := by decide +kernel
theorem dX1_unload_82 : decode cX1_unload 82 = .ok (.putfield 148, 3) := by decide +kernel
theorem dX1_unload_85 : decode cX1_unload 85 = .ok (.aload_n 1, 1) := by decide +kernel
theorem dX1_unload_86 : decode cX1_unload 86 = .ok (.getfield 145, 3) := by decide +kernel
theorem dX1_unload_89 : decode cX1_unload 89 = .ok (.ifCond .ne 8, 3) := by decide +kernel
theorem dX1_unload_92 : decode cX1_unload 92 = .ok (.aload_n 1, 1) := by decide +kernel
theorem dX1_unload_93 : decode cX1_unload 93 = .ok (.iconst 1, 1) := by decide +kernel
theorem dX1_unload_94 : decode cX1_unload 94 = .ok (.putfield 130, 3) := by decide +kernel
theorem dX1_unload_97 : decode cX1_unload 97 = .ok (.return_, 1) := by decide +kernel
theorem dX1_followLantern_0 : decode cX1_followLantern 0 = .ok (.bipush 9, 2) := by decide +kernel
theorem dX1_followLantern_2 : decode cX1_followLantern 2 = .ok (.iload_n 3, 1) := by decide +kernel
theorem dX1_followLantern_3 : decode cX1_followLantern 3 = .ok (.isub, 1) := by decide +kernel
theorem dX1_followLantern_4 : decode cX1_followLantern 4 = .ok (.iconst 1, 1) := by decide +kernel
theorem dX1_followLantern_5 : decode cX1_followLantern 5 = .ok (.iadd, 1) := by decide +kernel
theorem dX1_followLantern_6 : decode cX1_followLantern 6 = .ok (.istore 4, 2) := by decide +kernel
theorem dX1_followLantern_8 : decode cX1_followLantern 8 = .ok (.iconst 0, 1) := by decide +kernel
theorem dX1_followLantern_9 : decode cX1_followLantern 9 = .ok (.istore 5, 2) := by decide +kernel
theorem dX1_followLantern_11 : decode cX1_followLantern 11 = .ok (.iconst 0, 1) := by decide +kernel
theorem dX1_followLantern_12 : decode cX1_followLantern 12 = .ok (.istore 6, 2) := by decide +kernel
theorem dX1_followLantern_14 : decode cX1_followLantern 14 = .ok (.iload 6, 2) := by decide +kernel
theorem dX1_followLantern_16 : decode cX1_followLantern 16 = .ok (.aload_n 0, 1) := by decide +kernel
theorem dX1_followLantern_17 : decode cX1_followLantern 17 = .ok (.getfield 51, 3) := by decide +kernel
theorem dX1_followLantern_20 : decode cX1_followLantern 20 = .ok (.if_icmp .ge 73, 3) := by decide +kernel
theorem dX1_followLantern_23 : decode cX1_followLantern 23 = .ok (.aload_n 0, 1) := by decide +kernel
theorem dX1_followLantern_24 : decode cX1_followLantern 24 = .ok (.getfield 26, 3) := by decide +kernel
theorem dX1_followLantern_27 : decode cX1_followLantern 27 = .ok (.iload 6, 2) := by decide +kernel
theorem dX1_followLantern_29 : decode cX1_followLantern 29 = .ok (.aaload, 1) := by decide +kernel
theorem dX1_followLantern_30 : decode cX1_followLantern 30 = .ok (.getfield 114, 3) := by decide +kernel
theorem dX1_followLantern_33 : decode cX1_followLantern 33 = .ok (.iload_n 2, 1) := by decide +kernel
theorem dX1_followLantern_34 : decode cX1_followLantern 34 = .ok (.iaload, 1) := by decide +kernel
theorem dX1_followLantern_35 : decode cX1_followLantern 35 = .ok (.istore 7, 2) := by decide +kernel
theorem dX1_followLantern_37 : decode cX1_followLantern 37 = .ok (.aload_n 0, 1) := by decide +kernel
theorem dX1_followLantern_38 : decode cX1_followLantern 38 = .ok (.getfield 26, 3) := by decide +kernel
theorem dX1_followLantern_41 : decode cX1_followLantern 41 = .ok (.iload 6, 2) := by decide +kernel
theorem dX1_followLantern_43 : decode cX1_followLantern 43 = .ok (.aaload, 1) := by decide +kernel
theorem dX1_followLantern_44 : decode cX1_followLantern 44 = .ok (.getfield 90, 3) := by decide +kernel
theorem dX1_followLantern_47 : decode cX1_followLantern 47 = .ok (.aload_n 1, 1) := by decide +kernel
theorem dX1_followLantern_48 : decode cX1_followLantern 48 = .ok (.getfield 144, 3) := by decide +kernel
theorem dX1_followLantern_51 : decode cX1_followLantern 51 = .ok (.invokestatic 151, 3) := by decide +kernel
theorem dX1_followLantern_54 : decode cX1_followLantern 54 = .ok (.istore 8, 2) := by decide +kernel
theorem dX1_followLantern_56 : decode cX1_followLantern 56 = .ok (.iload 7, 2) := by decide +kernel
theorem dX1_followLantern_58 : decode cX1_followLantern 58 = .ok (.ifCond .eq 29, 3) := by decide +kernel
theorem dX1_followLantern_61 : decode cX1_followLantern 61 = .ok (.aload_n 0, 1) := by decide +kernel
theorem dX1_followLantern_62 : decode cX1_followLantern 62 = .ok (.getfield 18, 3) := by decide +kernel
theorem dX1_followLantern_65 : decode cX1_followLantern 65 = .ok (.iload 7, 2) := by decide +kernel
theorem dX1_followLantern_67 : decode cX1_followLantern 67 = .ok (.iaload, 1) := by decide +kernel
theorem dX1_followLantern_68 : decode cX1_followLantern 68 = .ok (.iconst (-1), 1) := by decide +kernel
theorem dX1_followLantern_69 : decode cX1_followLantern 69 = .ok (.if_icmp .eq 18, 3) := by decide +kernel
theorem dX1_followLantern_72 : decode cX1_followLantern 72 = .ok (.iload 8, 2) := by decide +kernel
theorem dX1_followLantern_74 : decode cX1_followLantern 74 = .ok (.iload 4, 2) := by decide +kernel
theorem dX1_followLantern_76 : decode cX1_followLantern 76 = .ok (.if_icmp .ge 11, 3) := by decide +kernel
theorem dX1_followLantern_79 : decode cX1_followLantern 79 = .ok (.iload 8, 2) := by decide +kernel
theorem dX1_followLantern_81 : decode cX1_followLantern 81 = .ok (.istore 4, 2) := by decide +kernel
theorem dX1_followLantern_83 : decode cX1_followLantern 83 = .ok (.iload 7, 2) := by decide +kernel
theorem dX1_followLantern_85 : decode cX1_followLantern 85 = .ok (.istore 5, 2) := by decide +kernel
theorem dX1_followLantern_87 : decode cX1_followLantern 87 = .ok (.iinc 6 1, 3) := by decide +kernel
theorem dX1_followLantern_90 : decode cX1_followLantern 90 = .ok (.goto (-76), 3) := by decide +kernel
theorem dX1_followLantern_93 : decode cX1_followLantern 93 = .ok (.iload 5, 2) := by decide +kernel
theorem dX1_followLantern_95 : decode cX1_followLantern 95 = .ok (.ifCond .eq 20, 3) := by decide +kernel
theorem dX1_followLantern_98 : decode cX1_followLantern 98 = .ok (.aload_n 1, 1) := by decide +kernel
theorem dX1_followLantern_99 : decode cX1_followLantern 99 = .ok (.aload_n 0, 1) := by decide +kernel
theorem dX1_followLantern_100 : decode cX1_followLantern 100 = .ok (.getfield 18, 3) := by decide +kernel
theorem dX1_followLantern_103 : decode cX1_followLantern 103 = .ok (.iload 5, 2) := by decide +kernel
theorem dX1_followLantern_105 : decode cX1_followLantern 105 = .ok (.iaload, 1) := by decide +kernel
theorem dX1_followLantern_106 : decode cX1_followLantern 106 = .ok (.putfield 154, 3) := by decide +kernel
theorem dX1_followLantern_109 : decode cX1_followLantern 109 = .ok (.aload_n 1, 1) := by decide +kernel
theorem dX1_followLantern_110 : decode cX1_followLantern 110 = .ok (.iload 5, 2) := by decide +kernel
theorem dX1_followLantern_112 : decode cX1_followLantern 112 = .ok (.putfield 157, 3) := by decide +kernel
theorem dX1_followLantern_115 : decode cX1_followLantern 115 = .ok (.return_, 1) := by decide +kernel
theorem dX1_moveWatchmen_0 : decode cX1_moveWatchmen 0 = .ok (.iconst 0, 1) := by decide +kernel
theorem dX1_moveWatchmen_1 : decode cX1_moveWatchmen 1 = .ok (.istore_n 2, 1) := by decide +kernel
theorem dX1_moveWatchmen_2 : decode cX1_moveWatchmen 2 = .ok (.iload_n 2, 1) := by decide +kernel
theorem dX1_moveWatchmen_3 : decode cX1_moveWatchmen 3 = .ok (.aload_n 0, 1) := by decide +kernel
theorem dX1_moveWatchmen_4 : decode cX1_moveWatchmen 4 = .ok (.getfield 55, 3) := by decide +kernel
theorem dX1_moveWatchmen_7 : decode cX1_moveWatchmen 7 = .ok (.if_icmp .ge 29, 3) := by decide +kernel
theorem dX1_moveWatchmen_10 : decode cX1_moveWatchmen 10 = .ok (.aload_n 0, 1) := by decide +kernel
theorem dX1_moveWatchmen_11 : decode cX1_moveWatchmen 11 = .ok (.getfield 32, 3) := by decide +kernel
theorem dX1_moveWatchmen_14 : decode cX1_moveWatchmen 14 = .ok (.iload_n 2, 1) := by decide +kernel
theorem dX1_moveWatchmen_15 : decode cX1_moveWatchmen 15 = .ok (.aaload, 1) := by decide +kernel
theorem dX1_moveWatchmen_16 : decode cX1_moveWatchmen 16 = .ok (.invokevirtual 160, 3) := by decide +kernel
theorem dX1_moveWatchmen_19 : decode cX1_moveWatchmen 19 = .ok (.aload_n 0, 1) := by decide +kernel
theorem dX1_moveWatchmen_20 : decode cX1_moveWatchmen 20 = .ok (.aload_n 0, 1) := by decide +kernel
theorem dX1_moveWatchmen_21 : decode cX1_moveWatchmen 21 = .ok (.getfield 32, 3) := by decide +kernel
theorem dX1_moveWatchmen_24 : decode cX1_moveWatchmen 24 = .ok (.iload_n 2, 1) := by decide +kernel
theorem dX1_moveWatchmen_25 : decode cX1_moveWatchmen 25 = .ok (.aaload, 1) := by decide +kernel
theorem dX1_moveWatchmen_26 : decode cX1_moveWatchmen 26 = .ok (.iload_n 1, 1) := by decide +kernel
theorem dX1_moveWatchmen_27 : decode cX1_moveWatchmen 27 = .ok (.invokevirtual 163, 3) := by decide +kernel
theorem dX1_moveWatchmen_30 : decode cX1_moveWatchmen 30 = .ok (.iinc 2 1, 3) := by decide +kernel
theorem dX1_moveWatchmen_33 : decode cX1_moveWatchmen 33 = .ok (.goto (-31), 3) := by decide +kernel
theorem dX1_moveWatchmen_36 : decode cX1_moveWatchmen 36 = .ok (.return_, 1) := by decide +kernel
theorem dX1_seizeFirst_0 : decode cX1_seizeFirst 0 = .ok (.aload_n 1, 1) := by decide +kernel
theorem dX1_seizeFirst_1 : decode cX1_seizeFirst 1 = .ok (.iload_n 2, 1) := by decide +kernel
theorem dX1_seizeFirst_2 : decode cX1_seizeFirst 2 = .ok (.invokevirtual 167, 3) := by decide +kernel
theorem dX1_seizeFirst_5 : decode cX1_seizeFirst 5 = .ok (.istore_n 3, 1) := by decide +kernel
theorem dX1_seizeFirst_6 : decode cX1_seizeFirst 6 = .ok (.iconst 0, 1) := by decide +kernel
theorem dX1_seizeFirst_7 : decode cX1_seizeFirst 7 = .ok (.istore 4, 2) := by decide +kernel
theorem dX1_seizeFirst_9 : decode cX1_seizeFirst 9 = .ok (.iload 4, 2) := by decide +kernel
theorem dX1_seizeFirst_11 : decode cX1_seizeFirst 11 = .ok (.aload_n 0, 1) := by decide +kernel
theorem dX1_seizeFirst_12 : decode cX1_seizeFirst 12 = .ok (.getfield 58, 3) := by decide +kernel
theorem dX1_seizeFirst_15 : decode cX1_seizeFirst 15 = .ok (.if_icmp .ge 101, 3) := by decide +kernel
theorem dX1_seizeFirst_18 : decode cX1_seizeFirst 18 = .ok (.aload_n 0, 1) := by decide +kernel
theorem dX1_seizeFirst_19 : decode cX1_seizeFirst 19 = .ok (.getfield 38, 3) := by decide +kernel
theorem dX1_seizeFirst_22 : decode cX1_seizeFirst 22 = .ok (.iload 4, 2) := by decide +kernel
theorem dX1_seizeFirst_24 : decode cX1_seizeFirst 24 = .ok (.aaload, 1) := by decide +kernel
theorem dX1_seizeFirst_25 : decode cX1_seizeFirst 25 = .ok (.astore 5, 2) := by decide +kernel
theorem dX1_seizeFirst_27 : decode cX1_seizeFirst 27 = .ok (.aload_n 0, 1) := by decide +kernel
theorem dX1_seizeFirst_28 : decode cX1_seizeFirst 28 = .ok (.aload 5, 2) := by decide +kernel
theorem dX1_seizeFirst_30 : decode cX1_seizeFirst 30 = .ok (.getfield 157, 3) := by decide +kernel
theorem dX1_seizeFirst_33 : decode cX1_seizeFirst 33 = .ok (.invokevirtual 170, 3) := by decide +kernel
theorem dX1_seizeFirst_36 : decode cX1_seizeFirst 36 = .ok (.ifCond .eq 7, 3) := by decide +kernel
theorem dX1_seizeFirst_39 : decode cX1_seizeFirst 39 = .ok (.iconst 3, 1) := by decide +kernel
theorem dX1_seizeFirst_40 : decode cX1_seizeFirst 40 = .ok (.goto 4, 3) := by decide +kernel
theorem dX1_seizeFirst_43 : decode cX1_seizeFirst 43 = .ok (.iconst 0, 1) := by decide +kernel
theorem dX1_seizeFirst_44 : decode cX1_seizeFirst 44 = .ok (.istore 6, 2) := by decide +kernel
theorem dX1_seizeFirst_46 : decode cX1_seizeFirst 46 = .ok (.aload 5, 2) := by decide +kernel
theorem dX1_seizeFirst_48 : decode cX1_seizeFirst 48 = .ok (.invokevirtual 123, 3) := by decide +kernel
theorem dX1_seizeFirst_51 : decode cX1_seizeFirst 51 = .ok (.ifCond .eq 59, 3) := by decide +kernel
theorem dX1_seizeFirst_54 : decode cX1_seizeFirst 54 = .ok (.aload_n 1, 1) := by decide +kernel
theorem dX1_seizeFirst_55 : decode cX1_seizeFirst 55 = .ok (.getfield 174, 3) := by decide +kernel
theorem dX1_seizeFirst_58 : decode cX1_seizeFirst 58 = .ok (.aload 5, 2) := by decide +kernel
theorem dX1_seizeFirst_60 : decode cX1_seizeFirst 60 = .ok (.getfield 144, 3) := by decide +kernel
theorem dX1_seizeFirst_63 : decode cX1_seizeFirst 63 = .ok (.invokestatic 151, 3) := by decide +kernel
theorem dX1_seizeFirst_66 : decode cX1_seizeFirst 66 = .ok (.iload_n 3, 1) := by decide +kernel
theorem dX1_seizeFirst_67 : decode cX1_seizeFirst 67 = .ok (.iload 6, 2) := by decide +kernel
theorem dX1_seizeFirst_69 : decode cX1_seizeFirst 69 = .ok (.iadd, 1) := by decide +kernel
theorem dX1_seizeFirst_70 : decode cX1_seizeFirst 70 = .ok (.if_icmp .gt 40, 3) := by decide +kernel
theorem dX1_seizeFirst_73 : decode cX1_seizeFirst 73 = .ok (.aload_n 0, 1) := by decide +kernel
theorem dX1_seizeFirst_74 : decode cX1_seizeFirst 74 = .ok (.dup, 1) := by decide +kernel
theorem dX1_seizeFirst_75 : decode cX1_seizeFirst 75 = .ok (.getfield 74, 3) := by decide +kernel
theorem dX1_seizeFirst_78 : decode cX1_seizeFirst 78 = .ok (.aload 5, 2) := by decide +kernel
theorem dX1_seizeFirst_80 : decode cX1_seizeFirst 80 = .ok (.getfield 145, 3) := by decide +kernel
theorem dX1_seizeFirst_83 : decode cX1_seizeFirst 83 = .ok (.iadd, 1) := by decide +kernel
theorem dX1_seizeFirst_84 : decode cX1_seizeFirst 84 = .ok (.putfield 74, 3) := by decide +kernel
theorem dX1_seizeFirst_87 : decode cX1_seizeFirst 87 = .ok (.aload 5, 2) := by decide +kernel
theorem dX1_seizeFirst_89 : decode cX1_seizeFirst 89 = .ok (.iconst 0, 1) := by decide +kernel
theorem dX1_seizeFirst_90 : decode cX1_seizeFirst 90 = .ok (.putfield 145, 3) := by decide +kernel
theorem dX1_seizeFirst_93 : decode cX1_seizeFirst 93 = .ok (.aload 5, 2) := by decide +kernel
theorem dX1_seizeFirst_95 : decode cX1_seizeFirst 95 = .ok (.iconst 2, 1) := by decide +kernel
theorem dX1_seizeFirst_96 : decode cX1_seizeFirst 96 = .ok (.putfield 130, 3) := by decide +kernel
theorem dX1_seizeFirst_99 : decode cX1_seizeFirst 99 = .ok (.aload_n 1, 1) := by decide +kernel
theorem dX1_seizeFirst_100 : decode cX1_seizeFirst 100 = .ok (.dup, 1) := by decide +kernel
theorem dX1_seizeFirst_101 : decode cX1_seizeFirst 101 = .ok (.getfield 175, 3) := by decide +kernel
theorem dX1_seizeFirst_104 : decode cX1_seizeFirst 104 = .ok (.iconst 1, 1) := by decide +kernel
theorem dX1_seizeFirst_105 : decode cX1_seizeFirst 105 = .ok (.iadd, 1) := by decide +kernel
theorem dX1_seizeFirst_106 : decode cX1_seizeFirst 106 = .ok (.putfield 175, 3) := by decide +kernel
theorem dX1_seizeFirst_109 : decode cX1_seizeFirst 109 = .ok (.return_, 1) := by decide +kernel
theorem dX1_seizeFirst_110 : decode cX1_seizeFirst 110 = .ok (.iinc 4 1, 3) := by decide +kernel
theorem dX1_seizeFirst_113 : decode cX1_seizeFirst 113 = .ok (.goto (-104), 3) := by decide +kernel
theorem dX1_seizeFirst_116 : decode cX1_seizeFirst 116 = .ok (.return_, 1) := by decide +kernel
theorem dX1_watchmenSeeingLantern_0 : decode cX1_watchmenSeeingLantern 0 = .ok (.iconst 0, 1) := by decide +kernel
theorem dX1_watchmenSeeingLantern_1 : decode cX1_watchmenSeeingLantern 1 = .ok (.istore_n 3, 1) := by decide +kernel
theorem dX1_watchmenSeeingLantern_2 : decode cX1_watchmenSeeingLantern 2 = .ok (.iconst 0, 1) := by decide +kernel
theorem dX1_watchmenSeeingLantern_3 : decode cX1_watchmenSeeingLantern 3 = .ok (.istore 4, 2) := by decide +kernel
theorem dX1_watchmenSeeingLantern_5 : decode cX1_watchmenSeeingLantern 5 = .ok (.iload 4, 2) := by decide +kernel
theorem dX1_watchmenSeeingLantern_7 : decode cX1_watchmenSeeingLantern 7 = .ok (.aload_n 0, 1) := by decide +kernel
theorem dX1_watchmenSeeingLantern_8 : decode cX1_watchmenSeeingLantern 8 = .ok (.getfield 55, 3) := by decide +kernel
theorem dX1_watchmenSeeingLantern_11 : decode cX1_watchmenSeeingLantern 11 = .ok (.if_icmp .ge 40, 3) := by decide +kernel
theorem dX1_watchmenSeeingLantern_14 : decode cX1_watchmenSeeingLantern 14 = .ok (.aload_n 0, 1) := by decide +kernel
theorem dX1_watchmenSeeingLantern_15 : decode cX1_watchmenSeeingLantern 15 = .ok (.getfield 32, 3) := by decide +kernel
theorem dX1_watchmenSeeingLantern_18 : decode cX1_watchmenSeeingLantern 18 = .ok (.iload 4, 2) := by decide +kernel
theorem dX1_watchmenSeeingLantern_20 : decode cX1_watchmenSeeingLantern 20 = .ok (.aaload, 1) := by decide +kernel
theorem dX1_watchmenSeeingLantern_21 : decode cX1_watchmenSeeingLantern 21 = .ok (.getfield 174, 3) := by decide +kernel
theorem dX1_watchmenSeeingLantern_24 : decode cX1_watchmenSeeingLantern 24 = .ok (.iload_n 1, 1) := by decide +kernel
theorem dX1_watchmenSeeingLantern_25 : decode cX1_watchmenSeeingLantern 25 = .ok (.invokestatic 151, 3) := by decide +kernel
theorem dX1_watchmenSeeingLantern_28 : decode cX1_watchmenSeeingLantern 28 = .ok (.aload_n 0, 1) := by decide +kernel
theorem dX1_watchmenSeeingLantern_29 : decode cX1_watchmenSeeingLantern 29 = .ok (.getfield 32, 3) := by decide +kernel
theorem dX1_watchmenSeeingLantern_32 : decode cX1_watchmenSeeingLantern 32 = .ok (.iload 4, 2) := by decide +kernel
theorem dX1_watchmenSeeingLantern_34 : decode cX1_watchmenSeeingLantern 34 = .ok (.aaload, 1) := by decide +kernel
theorem dX1_watchmenSeeingLantern_35 : decode cX1_watchmenSeeingLantern 35 = .ok (.iload_n 2, 1) := by decide +kernel
theorem dX1_watchmenSeeingLantern_36 : decode cX1_watchmenSeeingLantern 36 = .ok (.invokevirtual 178, 3) := by decide +kernel
theorem dX1_watchmenSeeingLantern_39 : decode cX1_watchmenSeeingLantern 39 = .ok (.if_icmp .gt 6, 3) := by decide +kernel
theorem dX1_watchmenSeeingLantern_42 : decode cX1_watchmenSeeingLantern 42 = .ok (.iinc 3 1, 3) := by decide +kernel
theorem dX1_watchmenSeeingLantern_45 : decode cX1_watchmenSeeingLantern 45 = .ok (.iinc 4 1, 3) := by decide +kernel
theorem dX1_watchmenSeeingLantern_48 : decode cX1_watchmenSeeingLantern 48 = .ok (.goto (-43), 3) := by decide +kernel
theorem dX1_watchmenSeeingLantern_51 : decode cX1_watchmenSeeingLantern 51 = .ok (.iload_n 3, 1) := by decide +kernel
theorem dX1_watchmenSeeingLantern_52 : decode cX1_watchmenSeeingLantern 52 = .ok (.ireturn, 1) := by decide +kernel
theorem dX1_watchmenSeeingPlace_0 : decode cX1_watchmenSeeingPlace 0 = .ok (.aload_n 0, 1) := by decide +kernel
theorem dX1_watchmenSeeingPlace_1 : decode cX1_watchmenSeeingPlace 1 = .ok (.invokevirtual 96, 3) := by decide +kernel
theorem dX1_watchmenSeeingPlace_4 : decode cX1_watchmenSeeingPlace 4 = .ok (.istore_n 2, 1) := by decide +kernel
theorem dX1_watchmenSeeingPlace_5 : decode cX1_watchmenSeeingPlace 5 = .ok (.iconst 0, 1) := by decide +kernel
theorem dX1_watchmenSeeingPlace_6 : decode cX1_watchmenSeeingPlace 6 = .ok (.istore_n 3, 1) := by decide +kernel
theorem dX1_watchmenSeeingPlace_7 : decode cX1_watchmenSeeingPlace 7 = .ok (.iconst 0, 1) := by decide +kernel
theorem dX1_watchmenSeeingPlace_8 : decode cX1_watchmenSeeingPlace 8 = .ok (.istore 4, 2) := by decide +kernel
theorem dX1_watchmenSeeingPlace_10 : decode cX1_watchmenSeeingPlace 10 = .ok (.iload 4, 2) := by decide +kernel
theorem dX1_watchmenSeeingPlace_12 : decode cX1_watchmenSeeingPlace 12 = .ok (.aload_n 0, 1) := by decide +kernel
theorem dX1_watchmenSeeingPlace_13 : decode cX1_watchmenSeeingPlace 13 = .ok (.getfield 55, 3) := by decide +kernel
theorem dX1_watchmenSeeingPlace_16 : decode cX1_watchmenSeeingPlace 16 = .ok (.if_icmp .ge 40, 3) := by decide +kernel
theorem dX1_watchmenSeeingPlace_19 : decode cX1_watchmenSeeingPlace 19 = .ok (.aload_n 0, 1) := by decide +kernel
theorem dX1_watchmenSeeingPlace_20 : decode cX1_watchmenSeeingPlace 20 = .ok (.getfield 32, 3) := by decide +kernel
theorem dX1_watchmenSeeingPlace_23 : decode cX1_watchmenSeeingPlace 23 = .ok (.iload 4, 2) := by decide +kernel
theorem dX1_watchmenSeeingPlace_25 : decode cX1_watchmenSeeingPlace 25 = .ok (.aaload, 1) := by decide +kernel
theorem dX1_watchmenSeeingPlace_26 : decode cX1_watchmenSeeingPlace 26 = .ok (.getfield 174, 3) := by decide +kernel
theorem dX1_watchmenSeeingPlace_29 : decode cX1_watchmenSeeingPlace 29 = .ok (.iload_n 1, 1) := by decide +kernel
theorem dX1_watchmenSeeingPlace_30 : decode cX1_watchmenSeeingPlace 30 = .ok (.invokestatic 151, 3) := by decide +kernel
theorem dX1_watchmenSeeingPlace_33 : decode cX1_watchmenSeeingPlace 33 = .ok (.aload_n 0, 1) := by decide +kernel
theorem dX1_watchmenSeeingPlace_34 : decode cX1_watchmenSeeingPlace 34 = .ok (.getfield 32, 3) := by decide +kernel
theorem dX1_watchmenSeeingPlace_37 : decode cX1_watchmenSeeingPlace 37 = .ok (.iload 4, 2) := by decide +kernel
theorem dX1_watchmenSeeingPlace_39 : decode cX1_watchmenSeeingPlace 39 = .ok (.aaload, 1) := by decide +kernel
theorem dX1_watchmenSeeingPlace_40 : decode cX1_watchmenSeeingPlace 40 = .ok (.iload_n 2, 1) := by decide +kernel
theorem dX1_watchmenSeeingPlace_41 : decode cX1_watchmenSeeingPlace 41 = .ok (.invokevirtual 167, 3) := by decide +kernel
theorem dX1_watchmenSeeingPlace_44 : decode cX1_watchmenSeeingPlace 44 = .ok (.if_icmp .gt 6, 3) := by decide +kernel
theorem dX1_watchmenSeeingPlace_47 : decode cX1_watchmenSeeingPlace 47 = .ok (.iinc 3 1, 3) := by decide +kernel
theorem dX1_watchmenSeeingPlace_50 : decode cX1_watchmenSeeingPlace 50 = .ok (.iinc 4 1, 3) := by decide +kernel
theorem dX1_watchmenSeeingPlace_53 : decode cX1_watchmenSeeingPlace 53 = .ok (.goto (-43), 3) := by decide +kernel
theorem dX1_watchmenSeeingPlace_56 : decode cX1_watchmenSeeingPlace 56 = .ok (.iload_n 3, 1) := by decide +kernel
theorem dX1_watchmenSeeingPlace_57 : decode cX1_watchmenSeeingPlace 57 = .ok (.ireturn, 1) := by decide +kernel
theorem dX1_watchmenAt_0 : decode cX1_watchmenAt 0 = .ok (.iconst 0, 1) := by decide +kernel
theorem dX1_watchmenAt_1 : decode cX1_watchmenAt 1 = .ok (.istore_n 2, 1) := by decide +kernel
theorem dX1_watchmenAt_2 : decode cX1_watchmenAt 2 = .ok (.iconst 0, 1) := by decide +kernel
theorem dX1_watchmenAt_3 : decode cX1_watchmenAt 3 = .ok (.istore_n 3, 1) := by decide +kernel
theorem dX1_watchmenAt_4 : decode cX1_watchmenAt 4 = .ok (.iload_n 3, 1) := by decide +kernel
theorem dX1_watchmenAt_5 : decode cX1_watchmenAt 5 = .ok (.aload_n 0, 1) := by decide +kernel
theorem dX1_watchmenAt_6 : decode cX1_watchmenAt 6 = .ok (.getfield 55, 3) := by decide +kernel
theorem dX1_watchmenAt_9 : decode cX1_watchmenAt 9 = .ok (.if_icmp .ge 25, 3) := by decide +kernel
theorem dX1_watchmenAt_12 : decode cX1_watchmenAt 12 = .ok (.aload_n 0, 1) := by decide +kernel
theorem dX1_watchmenAt_13 : decode cX1_watchmenAt 13 = .ok (.getfield 32, 3) := by decide +kernel
theorem dX1_watchmenAt_16 : decode cX1_watchmenAt 16 = .ok (.iload_n 3, 1) := by decide +kernel
theorem dX1_watchmenAt_17 : decode cX1_watchmenAt 17 = .ok (.aaload, 1) := by decide +kernel
theorem dX1_watchmenAt_18 : decode cX1_watchmenAt 18 = .ok (.getfield 174, 3) := by decide +kernel
theorem dX1_watchmenAt_21 : decode cX1_watchmenAt 21 = .ok (.iload_n 1, 1) := by decide +kernel
theorem dX1_watchmenAt_22 : decode cX1_watchmenAt 22 = .ok (.if_icmp .ne 6, 3) := by decide +kernel
theorem dX1_watchmenAt_25 : decode cX1_watchmenAt 25 = .ok (.iinc 2 1, 3) := by decide +kernel
theorem dX1_watchmenAt_28 : decode cX1_watchmenAt 28 = .ok (.iinc 3 1, 3) := by decide +kernel
theorem dX1_watchmenAt_31 : decode cX1_watchmenAt 31 = .ok (.goto (-27), 3) := by decide +kernel
theorem dX1_watchmenAt_34 : decode cX1_watchmenAt 34 = .ok (.iload_n 2, 1) := by decide +kernel
theorem dX1_watchmenAt_35 : decode cX1_watchmenAt 35 = .ok (.ireturn, 1) := by decide +kernel
theorem dX1_boatsAtSeaAt_0 : decode cX1_boatsAtSeaAt 0 = .ok (.iconst 0, 1) := by decide +kernel
theorem dX1_boatsAtSeaAt_1 : decode cX1_boatsAtSeaAt 1 = .ok (.istore_n 2, 1) := by decide +kernel
theorem dX1_boatsAtSeaAt_2 : decode cX1_boatsAtSeaAt 2 = .ok (.iconst 0, 1) := by decide +kernel
theorem dX1_boatsAtSeaAt_3 : decode cX1_boatsAtSeaAt 3 = .ok (.istore_n 3, 1) := by decide +kernel
theorem dX1_boatsAtSeaAt_4 : decode cX1_boatsAtSeaAt 4 = .ok (.iload_n 3, 1) := by decide +kernel
theorem dX1_boatsAtSeaAt_5 : decode cX1_boatsAtSeaAt 5 = .ok (.aload_n 0, 1) := by decide +kernel
theorem dX1_boatsAtSeaAt_6 : decode cX1_boatsAtSeaAt 6 = .ok (.getfield 58, 3) := by decide +kernel
theorem dX1_boatsAtSeaAt_9 : decode cX1_boatsAtSeaAt 9 = .ok (.if_icmp .ge 37, 3) := by decide +kernel
theorem dX1_boatsAtSeaAt_12 : decode cX1_boatsAtSeaAt 12 = .ok (.aload_n 0, 1) := by decide +kernel
theorem dX1_boatsAtSeaAt_13 : decode cX1_boatsAtSeaAt 13 = .ok (.getfield 38, 3) := by decide +kernel
theorem dX1_boatsAtSeaAt_16 : decode cX1_boatsAtSeaAt 16 = .ok (.iload_n 3, 1) := by decide +kernel
theorem dX1_boatsAtSeaAt_17 : decode cX1_boatsAtSeaAt 17 = .ok (.aaload, 1) := by decide +kernel
theorem dX1_boatsAtSeaAt_18 : decode cX1_boatsAtSeaAt 18 = .ok (.getfield 130, 3) := by decide +kernel
theorem dX1_boatsAtSeaAt_21 : decode cX1_boatsAtSeaAt 21 = .ok (.ifCond .ne 19, 3) := by decide +kernel
theorem dX1_boatsAtSeaAt_24 : decode cX1_boatsAtSeaAt 24 = .ok (.aload_n 0, 1) := by decide +kernel
theorem dX1_boatsAtSeaAt_25 : decode cX1_boatsAtSeaAt 25 = .ok (.getfield 38, 3) := by decide +kernel
theorem dX1_boatsAtSeaAt_28 : decode cX1_boatsAtSeaAt 28 = .ok (.iload_n 3, 1) := by decide +kernel
theorem dX1_boatsAtSeaAt_29 : decode cX1_boatsAtSeaAt 29 = .ok (.aaload, 1) := by decide +kernel
theorem dX1_boatsAtSeaAt_30 : decode cX1_boatsAtSeaAt 30 = .ok (.getfield 144, 3) := by decide +kernel
theorem dX1_boatsAtSeaAt_33 : decode cX1_boatsAtSeaAt 33 = .ok (.iload_n 1, 1) := by decide +kernel
theorem dX1_boatsAtSeaAt_34 : decode cX1_boatsAtSeaAt 34 = .ok (.if_icmp .ne 6, 3) := by decide +kernel
theorem dX1_boatsAtSeaAt_37 : decode cX1_boatsAtSeaAt 37 = .ok (.iinc 2 1, 3) := by decide +kernel
theorem dX1_boatsAtSeaAt_40 : decode cX1_boatsAtSeaAt 40 = .ok (.iinc 3 1, 3) := by decide +kernel
theorem dX1_boatsAtSeaAt_43 : decode cX1_boatsAtSeaAt 43 = .ok (.goto (-39), 3) := by decide +kernel
theorem dX1_boatsAtSeaAt_46 : decode cX1_boatsAtSeaAt 46 = .ok (.iload_n 2, 1) := by decide +kernel
theorem dX1_boatsAtSeaAt_47 : decode cX1_boatsAtSeaAt 47 = .ok (.ireturn, 1) := by decide +kernel
theorem dX1_boatsAtSeaLedBy_0 : decode cX1_boatsAtSeaLedBy 0 = .ok (.iconst 0, 1) := by decide +kernel
theorem dX1_boatsAtSeaLedBy_1 : decode cX1_boatsAtSeaLedBy 1 = .ok (.istore_n 2, 1) := by decide +kernel
theorem dX1_boatsAtSeaLedBy_2 : decode cX1_boatsAtSeaLedBy 2 = .ok (.iconst 0, 1) := by decide +kernel
theorem dX1_boatsAtSeaLedBy_3 : decode cX1_boatsAtSeaLedBy 3 = .ok (.istore_n 3, 1) := by decide +kernel
theorem dX1_boatsAtSeaLedBy_4 : decode cX1_boatsAtSeaLedBy 4 = .ok (.iload_n 3, 1) := by decide +kernel
theorem dX1_boatsAtSeaLedBy_5 : decode cX1_boatsAtSeaLedBy 5 = .ok (.aload_n 0, 1) := by decide +kernel
theorem dX1_boatsAtSeaLedBy_6 : decode cX1_boatsAtSeaLedBy 6 = .ok (.getfield 58, 3) := by decide +kernel
theorem dX1_boatsAtSeaLedBy_9 : decode cX1_boatsAtSeaLedBy 9 = .ok (.if_icmp .ge 37, 3) := by decide +kernel
theorem dX1_boatsAtSeaLedBy_12 : decode cX1_boatsAtSeaLedBy 12 = .ok (.aload_n 0, 1) := by decide +kernel
theorem dX1_boatsAtSeaLedBy_13 : decode cX1_boatsAtSeaLedBy 13 = .ok (.getfield 38, 3) := by decide +kernel
theorem dX1_boatsAtSeaLedBy_16 : decode cX1_boatsAtSeaLedBy 16 = .ok (.iload_n 3, 1) := by decide +kernel
theorem dX1_boatsAtSeaLedBy_17 : decode cX1_boatsAtSeaLedBy 17 = .ok (.aaload, 1) := by decide +kernel
theorem dX1_boatsAtSeaLedBy_18 : decode cX1_boatsAtSeaLedBy 18 = .ok (.getfield 130, 3) := by decide +kernel
theorem dX1_boatsAtSeaLedBy_21 : decode cX1_boatsAtSeaLedBy 21 = .ok (.ifCond .ne 19, 3) := by decide +kernel
theorem dX1_boatsAtSeaLedBy_24 : decode cX1_boatsAtSeaLedBy 24 = .ok (.aload_n 0, 1) := by decide +kernel
theorem dX1_boatsAtSeaLedBy_25 : decode cX1_boatsAtSeaLedBy 25 = .ok (.getfield 38, 3) := by decide +kernel
theorem dX1_boatsAtSeaLedBy_28 : decode cX1_boatsAtSeaLedBy 28 = .ok (.iload_n 3, 1) := by decide +kernel
theorem dX1_boatsAtSeaLedBy_29 : decode cX1_boatsAtSeaLedBy 29 = .ok (.aaload, 1) := by decide +kernel
theorem dX1_boatsAtSeaLedBy_30 : decode cX1_boatsAtSeaLedBy 30 = .ok (.getfield 157, 3) := by decide +kernel
theorem dX1_boatsAtSeaLedBy_33 : decode cX1_boatsAtSeaLedBy 33 = .ok (.iload_n 1, 1) := by decide +kernel
theorem dX1_boatsAtSeaLedBy_34 : decode cX1_boatsAtSeaLedBy 34 = .ok (.if_icmp .ne 6, 3) := by decide +kernel
theorem dX1_boatsAtSeaLedBy_37 : decode cX1_boatsAtSeaLedBy 37 = .ok (.iinc 2 1, 3) := by decide +kernel
theorem dX1_boatsAtSeaLedBy_40 : decode cX1_boatsAtSeaLedBy 40 = .ok (.iinc 3 1, 3) := by decide +kernel
theorem dX1_boatsAtSeaLedBy_43 : decode cX1_boatsAtSeaLedBy 43 = .ok (.goto (-39), 3) := by decide +kernel
theorem dX1_boatsAtSeaLedBy_46 : decode cX1_boatsAtSeaLedBy 46 = .ok (.iload_n 2, 1) := by decide +kernel
theorem dX1_boatsAtSeaLedBy_47 : decode cX1_boatsAtSeaLedBy 47 = .ok (.ireturn, 1) := by decide +kernel
theorem dX1_boatsOfFate_0 : decode cX1_boatsOfFate 0 = .ok (.iconst 0, 1) := by decide +kernel
theorem dX1_boatsOfFate_1 : decode cX1_boatsOfFate 1 = .ok (.istore_n 2, 1) := by decide +kernel
theorem dX1_boatsOfFate_2 : decode cX1_boatsOfFate 2 = .ok (.iconst 0, 1) := by decide +kernel
theorem dX1_boatsOfFate_3 : decode cX1_boatsOfFate 3 = .ok (.istore_n 3, 1) := by decide +kernel
theorem dX1_boatsOfFate_4 : decode cX1_boatsOfFate 4 = .ok (.iload_n 3, 1) := by decide +kernel
theorem dX1_boatsOfFate_5 : decode cX1_boatsOfFate 5 = .ok (.aload_n 0, 1) := by decide +kernel
theorem dX1_boatsOfFate_6 : decode cX1_boatsOfFate 6 = .ok (.getfield 58, 3) := by decide +kernel
theorem dX1_boatsOfFate_9 : decode cX1_boatsOfFate 9 = .ok (.if_icmp .ge 25, 3) := by decide +kernel
theorem dX1_boatsOfFate_12 : decode cX1_boatsOfFate 12 = .ok (.aload_n 0, 1) := by decide +kernel
theorem dX1_boatsOfFate_13 : decode cX1_boatsOfFate 13 = .ok (.getfield 38, 3) := by decide +kernel
theorem dX1_boatsOfFate_16 : decode cX1_boatsOfFate 16 = .ok (.iload_n 3, 1) := by decide +kernel
theorem dX1_boatsOfFate_17 : decode cX1_boatsOfFate 17 = .ok (.aaload, 1) := by decide +kernel
theorem dX1_boatsOfFate_18 : decode cX1_boatsOfFate 18 = .ok (.getfield 130, 3) := by decide +kernel
theorem dX1_boatsOfFate_21 : decode cX1_boatsOfFate 21 = .ok (.iload_n 1, 1) := by decide +kernel
theorem dX1_boatsOfFate_22 : decode cX1_boatsOfFate 22 = .ok (.if_icmp .ne 6, 3) := by decide +kernel
theorem dX1_boatsOfFate_25 : decode cX1_boatsOfFate 25 = .ok (.iinc 2 1, 3) := by decide +kernel
theorem dX1_boatsOfFate_28 : decode cX1_boatsOfFate 28 = .ok (.iinc 3 1, 3) := by decide +kernel
theorem dX1_boatsOfFate_31 : decode cX1_boatsOfFate 31 = .ok (.goto (-27), 3) := by decide +kernel
theorem dX1_boatsOfFate_34 : decode cX1_boatsOfFate 34 = .ok (.iload_n 2, 1) := by decide +kernel
theorem dX1_boatsOfFate_35 : decode cX1_boatsOfFate 35 = .ok (.ireturn, 1) := by decide +kernel
theorem dX1_balesAtSea_0 : decode cX1_balesAtSea 0 = .ok (.iconst 0, 1) := by decide +kernel
theorem dX1_balesAtSea_1 : decode cX1_balesAtSea 1 = .ok (.istore_n 1, 1) := by decide +kernel
theorem dX1_balesAtSea_2 : decode cX1_balesAtSea 2 = .ok (.iconst 0, 1) := by decide +kernel
theorem dX1_balesAtSea_3 : decode cX1_balesAtSea 3 = .ok (.istore_n 2, 1) := by decide +kernel
theorem dX1_balesAtSea_4 : decode cX1_balesAtSea 4 = .ok (.iload_n 2, 1) := by decide +kernel
theorem dX1_balesAtSea_5 : decode cX1_balesAtSea 5 = .ok (.aload_n 0, 1) := by decide +kernel
theorem dX1_balesAtSea_6 : decode cX1_balesAtSea 6 = .ok (.getfield 58, 3) := by decide +kernel
theorem dX1_balesAtSea_9 : decode cX1_balesAtSea 9 = .ok (.if_icmp .ge 21, 3) := by decide +kernel
theorem dX1_balesAtSea_12 : decode cX1_balesAtSea 12 = .ok (.iload_n 1, 1) := by decide +kernel
theorem dX1_balesAtSea_13 : decode cX1_balesAtSea 13 = .ok (.aload_n 0, 1) := by decide +kernel
theorem dX1_balesAtSea_14 : decode cX1_balesAtSea 14 = .ok (.getfield 38, 3) := by decide +kernel
theorem dX1_balesAtSea_17 : decode cX1_balesAtSea 17 = .ok (.iload_n 2, 1) := by decide +kernel
theorem dX1_balesAtSea_18 : decode cX1_balesAtSea 18 = .ok (.aaload, 1) := by decide +kernel
theorem dX1_balesAtSea_19 : decode cX1_balesAtSea 19 = .ok (.getfield 145, 3) := by decide +kernel
theorem dX1_balesAtSea_22 : decode cX1_balesAtSea 22 = .ok (.iadd, 1) := by decide +kernel
theorem dX1_balesAtSea_23 : decode cX1_balesAtSea 23 = .ok (.istore_n 1, 1) := by decide +kernel
theorem dX1_balesAtSea_24 : decode cX1_balesAtSea 24 = .ok (.iinc 2 1, 3) := by decide +kernel
theorem dX1_balesAtSea_27 : decode cX1_balesAtSea 27 = .ok (.goto (-23), 3) := by decide +kernel
theorem dX1_balesAtSea_30 : decode cX1_balesAtSea 30 = .ok (.iload_n 1, 1) := by decide +kernel
theorem dX1_balesAtSea_31 : decode cX1_balesAtSea 31 = .ok (.ireturn, 1) := by decide +kernel
theorem dX1_balesUnloaded_0 : decode cX1_balesUnloaded 0 = .ok (.iconst 0, 1) := by decide +kernel
theorem dX1_balesUnloaded_1 : decode cX1_balesUnloaded 1 = .ok (.istore_n 1, 1) := by decide +kernel
theorem dX1_balesUnloaded_2 : decode cX1_balesUnloaded 2 = .ok (.iconst 0, 1) := by decide +kernel
theorem dX1_balesUnloaded_3 : decode cX1_balesUnloaded 3 = .ok (.istore_n 2, 1) := by decide +kernel
theorem dX1_balesUnloaded_4 : decode cX1_balesUnloaded 4 = .ok (.iload_n 2, 1) := by decide +kernel
theorem dX1_balesUnloaded_5 : decode cX1_balesUnloaded 5 = .ok (.aload_n 0, 1) := by decide +kernel
theorem dX1_balesUnloaded_6 : decode cX1_balesUnloaded 6 = .ok (.getfield 58, 3) := by decide +kernel
theorem dX1_balesUnloaded_9 : decode cX1_balesUnloaded 9 = .ok (.if_icmp .ge 21, 3) := by decide +kernel
theorem dX1_balesUnloaded_12 : decode cX1_balesUnloaded 12 = .ok (.iload_n 1, 1) := by decide +kernel
theorem dX1_balesUnloaded_13 : decode cX1_balesUnloaded 13 = .ok (.aload_n 0, 1) := by decide +kernel
theorem dX1_balesUnloaded_14 : decode cX1_balesUnloaded 14 = .ok (.getfield 38, 3) := by decide +kernel
theorem dX1_balesUnloaded_17 : decode cX1_balesUnloaded 17 = .ok (.iload_n 2, 1) := by decide +kernel
theorem dX1_balesUnloaded_18 : decode cX1_balesUnloaded 18 = .ok (.aaload, 1) := by decide +kernel
theorem dX1_balesUnloaded_19 : decode cX1_balesUnloaded 19 = .ok (.getfield 148, 3) := by decide +kernel
theorem dX1_balesUnloaded_22 : decode cX1_balesUnloaded 22 = .ok (.iadd, 1) := by decide +kernel
theorem dX1_balesUnloaded_23 : decode cX1_balesUnloaded 23 = .ok (.istore_n 1, 1) := by decide +kernel
theorem dX1_balesUnloaded_24 : decode cX1_balesUnloaded 24 = .ok (.iinc 2 1, 3) := by decide +kernel
theorem dX1_balesUnloaded_27 : decode cX1_balesUnloaded 27 = .ok (.goto (-23), 3) := by decide +kernel
theorem dX1_balesUnloaded_30 : decode cX1_balesUnloaded 30 = .ok (.iload_n 1, 1) := by decide +kernel
theorem dX1_balesUnloaded_31 : decode cX1_balesUnloaded 31 = .ok (.ireturn, 1) := by decide +kernel
theorem dX1_balesInCaves_0 : decode cX1_balesInCaves 0 = .ok (.iconst 0, 1) := by decide +kernel
theorem dX1_balesInCaves_1 : decode cX1_balesInCaves 1 = .ok (.istore_n 1, 1) := by decide +kernel
theorem dX1_balesInCaves_2 : decode cX1_balesInCaves 2 = .ok (.iconst 0, 1) := by decide +kernel
theorem dX1_balesInCaves_3 : decode cX1_balesInCaves 3 = .ok (.istore_n 2, 1) := by decide +kernel
theorem dX1_balesInCaves_4 : decode cX1_balesInCaves 4 = .ok (.iload_n 2, 1) := by decide +kernel
theorem dX1_balesInCaves_5 : decode cX1_balesInCaves 5 = .ok (.bipush 16, 2) := by decide +kernel
theorem dX1_balesInCaves_7 : decode cX1_balesInCaves 7 = .ok (.if_icmp .ge 18, 3) := by decide +kernel
theorem dX1_balesInCaves_10 : decode cX1_balesInCaves 10 = .ok (.iload_n 1, 1) := by decide +kernel
theorem dX1_balesInCaves_11 : decode cX1_balesInCaves 11 = .ok (.aload_n 0, 1) := by decide +kernel
theorem dX1_balesInCaves_12 : decode cX1_balesInCaves 12 = .ok (.getfield 15, 3) := by decide +kernel
theorem dX1_balesInCaves_15 : decode cX1_balesInCaves 15 = .ok (.iload_n 2, 1) := by decide +kernel
theorem dX1_balesInCaves_16 : decode cX1_balesInCaves 16 = .ok (.iaload, 1) := by decide +kernel
theorem dX1_balesInCaves_17 : decode cX1_balesInCaves 17 = .ok (.iadd, 1) := by decide +kernel
theorem dX1_balesInCaves_18 : decode cX1_balesInCaves 18 = .ok (.istore_n 1, 1) := by decide +kernel
theorem dX1_balesInCaves_19 : decode cX1_balesInCaves 19 = .ok (.iinc 2 1, 3) := by decide +kernel
theorem dX1_balesInCaves_22 : decode cX1_balesInCaves 22 = .ok (.goto (-18), 3) := by decide +kernel
theorem dX1_balesInCaves_25 : decode cX1_balesInCaves 25 = .ok (.iload_n 1, 1) := by decide +kernel
theorem dX1_balesInCaves_26 : decode cX1_balesInCaves 26 = .ok (.ireturn, 1) := by decide +kernel
theorem dX1_knownCodes_0 : decode cX1_knownCodes 0 = .ok (.iconst 0, 1) := by decide +kernel
theorem dX1_knownCodes_1 : decode cX1_knownCodes 1 = .ok (.istore_n 1, 1) := by decide +kernel
theorem dX1_knownCodes_2 : decode cX1_knownCodes 2 = .ok (.iconst 1, 1) := by decide +kernel
theorem dX1_knownCodes_3 : decode cX1_knownCodes 3 = .ok (.istore_n 2, 1) := by decide +kernel
theorem dX1_knownCodes_4 : decode cX1_knownCodes 4 = .ok (.iload_n 2, 1) := by decide +kernel
theorem dX1_knownCodes_5 : decode cX1_knownCodes 5 = .ok (.bipush 7, 2) := by decide +kernel
theorem dX1_knownCodes_7 : decode cX1_knownCodes 7 = .ok (.if_icmp .gt 20, 3) := by decide +kernel
theorem dX1_knownCodes_10 : decode cX1_knownCodes 10 = .ok (.aload_n 0, 1) := by decide +kernel
theorem dX1_knownCodes_11 : decode cX1_knownCodes 11 = .ok (.iload_n 2, 1) := by decide +kernel
theorem dX1_knownCodes_12 : decode cX1_knownCodes 12 = .ok (.invokevirtual 170, 3) := by decide +kernel
theorem dX1_knownCodes_15 : decode cX1_knownCodes 15 = .ok (.ifCond .eq 6, 3) := by decide +kernel
theorem dX1_knownCodes_18 : decode cX1_knownCodes 18 = .ok (.iinc 1 1, 3) := by decide +kernel
theorem dX1_knownCodes_21 : decode cX1_knownCodes 21 = .ok (.iinc 2 1, 3) := by decide +kernel
theorem dX1_knownCodes_24 : decode cX1_knownCodes 24 = .ok (.goto (-20), 3) := by decide +kernel
theorem dX1_knownCodes_27 : decode cX1_knownCodes 27 = .ok (.iload_n 1, 1) := by decide +kernel
theorem dX1_knownCodes_28 : decode cX1_knownCodes 28 = .ok (.ireturn, 1) := by decide +kernel
theorem dX1_tellLantern_0 : decode cX1_tellLantern 0 = .ok (.iload_n 2, 1) := by decide +kernel
theorem dX1_tellLantern_1 : decode cX1_tellLantern 1 = .ok (.tableswitch 55 0 2 #[27, 32, 42], 27) := by decide +kernel
theorem dX1_tellLantern_28 : decode cX1_tellLantern 28 = .ok (.aload_n 1, 1) := by decide +kernel
theorem dX1_tellLantern_29 : decode cX1_tellLantern 29 = .ok (.getfield 90, 3) := by decide +kernel
theorem dX1_tellLantern_32 : decode cX1_tellLantern 32 = .ok (.ireturn, 1) := by decide +kernel
theorem dX1_tellLantern_33 : decode cX1_tellLantern 33 = .ok (.aload_n 1, 1) := by decide +kernel
theorem dX1_tellLantern_34 : decode cX1_tellLantern 34 = .ok (.getfield 114, 3) := by decide +kernel
theorem dX1_tellLantern_37 : decode cX1_tellLantern 37 = .ok (.aload_n 0, 1) := by decide +kernel
theorem dX1_tellLantern_38 : decode cX1_tellLantern 38 = .ok (.invokevirtual 100, 3) := by decide +kernel
theorem dX1_tellLantern_41 : decode cX1_tellLantern 41 = .ok (.iaload, 1) := by decide +kernel
theorem dX1_tellLantern_42 : decode cX1_tellLantern 42 = .ok (.ireturn, 1) := by decide +kernel
theorem dX1_tellLantern_43 : decode cX1_tellLantern 43 = .ok (.aload_n 0, 1) := by decide +kernel
theorem dX1_tellLantern_44 : decode cX1_tellLantern 44 = .ok (.aload_n 1, 1) := by decide +kernel
theorem dX1_tellLantern_45 : decode cX1_tellLantern 45 = .ok (.getfield 90, 3) := by decide +kernel
theorem dX1_tellLantern_48 : decode cX1_tellLantern 48 = .ok (.aload_n 0, 1) := by decide +kernel
theorem dX1_tellLantern_49 : decode cX1_tellLantern 49 = .ok (.invokevirtual 96, 3) := by decide +kernel
theorem dX1_tellLantern_52 : decode cX1_tellLantern 52 = .ok (.invokevirtual 117, 3) := by decide +kernel
theorem dX1_tellLantern_55 : decode cX1_tellLantern 55 = .ok (.ireturn, 1) := by decide +kernel
theorem dX1_tellLantern_56 : decode cX1_tellLantern 56 = .ok (.aload_n 1, 1) := by decide +kernel
theorem dX1_tellLantern_57 : decode cX1_tellLantern 57 = .ok (.getfield 120, 3) := by decide +kernel
theorem dX1_tellLantern_60 : decode cX1_tellLantern 60 = .ok (.ireturn, 1) := by decide +kernel
theorem dX1_tellCode_0 : decode cX1_tellCode 0 = .ok (.iload_n 2, 1) := by decide +kernel
theorem dX1_tellCode_1 : decode cX1_tellCode 1 = .ok (.tableswitch 55 0 2 #[27, 34, 41], 27) := by decide +kernel
theorem dX1_tellCode_28 : decode cX1_tellCode 28 = .ok (.aload_n 0, 1) := by decide +kernel
theorem dX1_tellCode_29 : decode cX1_tellCode 29 = .ok (.getfield 18, 3) := by decide +kernel
theorem dX1_tellCode_32 : decode cX1_tellCode 32 = .ok (.iload_n 1, 1) := by decide +kernel
theorem dX1_tellCode_33 : decode cX1_tellCode 33 = .ok (.iaload, 1) := by decide +kernel
theorem dX1_tellCode_34 : decode cX1_tellCode 34 = .ok (.ireturn, 1) := by decide +kernel
theorem dX1_tellCode_35 : decode cX1_tellCode 35 = .ok (.aload_n 0, 1) := by decide +kernel
theorem dX1_tellCode_36 : decode cX1_tellCode 36 = .ok (.getfield 21, 3) := by decide +kernel
theorem dX1_tellCode_39 : decode cX1_tellCode 39 = .ok (.iload_n 1, 1) := by decide +kernel
theorem dX1_tellCode_40 : decode cX1_tellCode 40 = .ok (.iaload, 1) := by decide +kernel
theorem dX1_tellCode_41 : decode cX1_tellCode 41 = .ok (.ireturn, 1) := by decide +kernel
theorem dX1_tellCode_42 : decode cX1_tellCode 42 = .ok (.aload_n 0, 1) := by decide +kernel
theorem dX1_tellCode_43 : decode cX1_tellCode 43 = .ok (.iload_n 1, 1) := by decide +kernel
theorem dX1_tellCode_44 : decode cX1_tellCode 44 = .ok (.invokevirtual 170, 3) := by decide +kernel
theorem dX1_tellCode_47 : decode cX1_tellCode 47 = .ok (.ifCond .eq 7, 3) := by decide +kernel
theorem dX1_tellCode_50 : decode cX1_tellCode 50 = .ok (.iconst 1, 1) := by decide +kernel
theorem dX1_tellCode_51 : decode cX1_tellCode 51 = .ok (.goto 4, 3) := by decide +kernel
theorem dX1_tellCode_54 : decode cX1_tellCode 54 = .ok (.iconst 0, 1) := by decide +kernel
theorem dX1_tellCode_55 : decode cX1_tellCode 55 = .ok (.ireturn, 1) := by decide +kernel
theorem dX1_tellCode_56 : decode cX1_tellCode 56 = .ok (.aload_n 0, 1) := by decide +kernel
theorem dX1_tellCode_57 : decode cX1_tellCode 57 = .ok (.iload_n 1, 1) := by decide +kernel
theorem dX1_tellCode_58 : decode cX1_tellCode 58 = .ok (.invokevirtual 181, 3) := by decide +kernel
theorem dX1_tellCode_61 : decode cX1_tellCode 61 = .ok (.ireturn, 1) := by decide +kernel
theorem dX1_tellPlace_0 : decode cX1_tellPlace 0 = .ok (.iload_n 2, 1) := by decide +kernel
theorem dX1_tellPlace_1 : decode cX1_tellPlace 1 = .ok (.tableswitch 57 0 3 #[31, 38, 45, 51], 31) := by decide +kernel
theorem dX1_tellPlace_32 : decode cX1_tellPlace 32 = .ok (.aload_n 0, 1) := by decide +kernel
theorem dX1_tellPlace_33 : decode cX1_tellPlace 33 = .ok (.getfield 9, 3) := by decide +kernel
theorem dX1_tellPlace_36 : decode cX1_tellPlace 36 = .ok (.iload_n 1, 1) := by decide +kernel
theorem dX1_tellPlace_37 : decode cX1_tellPlace 37 = .ok (.iaload, 1) := by decide +kernel
theorem dX1_tellPlace_38 : decode cX1_tellPlace 38 = .ok (.ireturn, 1) := by decide +kernel
theorem dX1_tellPlace_39 : decode cX1_tellPlace 39 = .ok (.aload_n 0, 1) := by decide +kernel
theorem dX1_tellPlace_40 : decode cX1_tellPlace 40 = .ok (.getfield 15, 3) := by decide +kernel
theorem dX1_tellPlace_43 : decode cX1_tellPlace 43 = .ok (.iload_n 1, 1) := by decide +kernel
theorem dX1_tellPlace_44 : decode cX1_tellPlace 44 = .ok (.iaload, 1) := by decide +kernel
theorem dX1_tellPlace_45 : decode cX1_tellPlace 45 = .ok (.ireturn, 1) := by decide +kernel
theorem dX1_tellPlace_46 : decode cX1_tellPlace 46 = .ok (.aload_n 0, 1) := by decide +kernel
theorem dX1_tellPlace_47 : decode cX1_tellPlace 47 = .ok (.iload_n 1, 1) := by decide +kernel
theorem dX1_tellPlace_48 : decode cX1_tellPlace 48 = .ok (.invokevirtual 184, 3) := by decide +kernel
theorem dX1_tellPlace_51 : decode cX1_tellPlace 51 = .ok (.ireturn, 1) := by decide +kernel
theorem dX1_tellPlace_52 : decode cX1_tellPlace 52 = .ok (.aload_n 0, 1) := by decide +kernel
theorem dX1_tellPlace_53 : decode cX1_tellPlace 53 = .ok (.iload_n 1, 1) := by decide +kernel
theorem dX1_tellPlace_54 : decode cX1_tellPlace 54 = .ok (.invokevirtual 187, 3) := by decide +kernel
theorem dX1_tellPlace_57 : decode cX1_tellPlace 57 = .ok (.ireturn, 1) := by decide +kernel
theorem dX1_tellPlace_58 : decode cX1_tellPlace 58 = .ok (.aload_n 0, 1) := by decide +kernel
theorem dX1_tellPlace_59 : decode cX1_tellPlace 59 = .ok (.iload_n 1, 1) := by decide +kernel
theorem dX1_tellPlace_60 : decode cX1_tellPlace 60 = .ok (.invokevirtual 190, 3) := by decide +kernel
theorem dX1_tellPlace_63 : decode cX1_tellPlace 63 = .ok (.ireturn, 1) := by decide +kernel
theorem dX1_tally_0 : decode cX1_tally 0 = .ok (.iload_n 1, 1) := by decide +kernel
theorem dX1_tally_1 : decode cX1_tally 1 = .ok (.tableswitch 108 0 9 #[55, 60, 65, 70, 75, 81, 87, 93, 98, 103], 55) := by decide +kernel
theorem dX1_tally_56 : decode cX1_tally 56 = .ok (.aload_n 0, 1) := by decide +kernel
theorem dX1_tally_57 : decode cX1_tally 57 = .ok (.getfield 71, 3) := by decide +kernel
theorem dX1_tally_60 : decode cX1_tally 60 = .ok (.ireturn, 1) := by decide +kernel
theorem dX1_tally_61 : decode cX1_tally 61 = .ok (.aload_n 0, 1) := by decide +kernel
theorem dX1_tally_62 : decode cX1_tally 62 = .ok (.getfield 51, 3) := by decide +kernel
theorem dX1_tally_65 : decode cX1_tally 65 = .ok (.ireturn, 1) := by decide +kernel
theorem dX1_tally_66 : decode cX1_tally 66 = .ok (.aload_n 0, 1) := by decide +kernel
theorem dX1_tally_67 : decode cX1_tally 67 = .ok (.getfield 55, 3) := by decide +kernel
theorem dX1_tally_70 : decode cX1_tally 70 = .ok (.ireturn, 1) := by decide +kernel
theorem dX1_tally_71 : decode cX1_tally 71 = .ok (.aload_n 0, 1) := by decide +kernel
theorem dX1_tally_72 : decode cX1_tally 72 = .ok (.getfield 58, 3) := by decide +kernel
theorem dX1_tally_75 : decode cX1_tally 75 = .ok (.ireturn, 1) := by decide +kernel
theorem dX1_tally_76 : decode cX1_tally 76 = .ok (.aload_n 0, 1) := by decide +kernel
theorem dX1_tally_77 : decode cX1_tally 77 = .ok (.iconst 0, 1) := by decide +kernel
theorem dX1_tally_78 : decode cX1_tally 78 = .ok (.invokevirtual 193, 3) := by decide +kernel
theorem dX1_tally_81 : decode cX1_tally 81 = .ok (.ireturn, 1) := by decide +kernel
theorem dX1_tally_82 : decode cX1_tally 82 = .ok (.aload_n 0, 1) := by decide +kernel
theorem dX1_tally_83 : decode cX1_tally 83 = .ok (.iconst 1, 1) := by decide +kernel
theorem dX1_tally_84 : decode cX1_tally 84 = .ok (.invokevirtual 193, 3) := by decide +kernel
theorem dX1_tally_87 : decode cX1_tally 87 = .ok (.ireturn, 1) := by decide +kernel
theorem dX1_tally_88 : decode cX1_tally 88 = .ok (.aload_n 0, 1) := by decide +kernel
theorem dX1_tally_89 : decode cX1_tally 89 = .ok (.iconst 2, 1) := by decide +kernel
theorem dX1_tally_90 : decode cX1_tally 90 = .ok (.invokevirtual 193, 3) := by decide +kernel
theorem dX1_tally_93 : decode cX1_tally 93 = .ok (.ireturn, 1) := by decide +kernel
theorem dX1_tally_94 : decode cX1_tally 94 = .ok (.aload_n 0, 1) := by decide +kernel
theorem dX1_tally_95 : decode cX1_tally 95 = .ok (.invokevirtual 196, 3) := by decide +kernel
theorem dX1_tally_98 : decode cX1_tally 98 = .ok (.ireturn, 1) := by decide +kernel
theorem dX1_tally_99 : decode cX1_tally 99 = .ok (.aload_n 0, 1) := by decide +kernel
theorem dX1_tally_100 : decode cX1_tally 100 = .ok (.getfield 74, 3) := by decide +kernel
theorem dX1_tally_103 : decode cX1_tally 103 = .ok (.ireturn, 1) := by decide +kernel
theorem dX1_tally_104 : decode cX1_tally 104 = .ok (.aload_n 0, 1) := by decide +kernel
theorem dX1_tally_105 : decode cX1_tally 105 = .ok (.getfield 77, 3) := by decide +kernel
theorem dX1_tally_108 : decode cX1_tally 108 = .ok (.ireturn, 1) := by decide +kernel
theorem dX1_tally_109 : decode cX1_tally 109 = .ok (.aload_n 0, 1) := by decide +kernel
theorem dX1_tally_110 : decode cX1_tally 110 = .ok (.invokevirtual 199, 3) := by decide +kernel
theorem dX1_tally_113 : decode cX1_tally 113 = .ok (.ireturn, 1) := by decide +kernel
theorem dX2_init_0 : decode cX2_init 0 = .ok (.aload_n 0, 1) := by decide +kernel
theorem dX2_init_1 : decode cX2_init 1 = .ok (.invokespecial 3, 3) := by decide +kernel
theorem dX2_init_4 : decode cX2_init 4 = .ok (.aload_n 0, 1) := by decide +kernel
theorem dX2_init_5 : decode cX2_init 5 = .ok (.bipush 10, 2) := by decide +kernel
theorem dX2_init_7 : decode cX2_init 7 = .ok (.newarray .int, 2) := by decide +kernel
theorem dX2_init_9 : decode cX2_init 9 = .ok (.putfield 9, 3) := by decide +kernel
theorem dX2_init_12 : decode cX2_init 12 = .ok (.return_, 1) := by decide +kernel
theorem dX2_copyFrom_0 : decode cX2_copyFrom 0 = .ok (.aload_n 1, 1) := by decide +kernel
theorem dX2_copyFrom_1 : decode cX2_copyFrom 1 = .ok (.getfield 9, 3) := by decide +kernel
theorem dX2_copyFrom_4 : decode cX2_copyFrom 4 = .ok (.iconst 0, 1) := by decide +kernel
theorem dX2_copyFrom_5 : decode cX2_copyFrom 5 = .ok (.aload_n 0, 1) := by decide +kernel
theorem dX2_copyFrom_6 : decode cX2_copyFrom 6 = .ok (.getfield 9, 3) := by decide +kernel
theorem dX2_copyFrom_9 : decode cX2_copyFrom 9 = .ok (.iconst 0, 1) := by decide +kernel
theorem dX2_copyFrom_10 : decode cX2_copyFrom 10 = .ok (.bipush 10, 2) := by decide +kernel
theorem dX2_copyFrom_12 : decode cX2_copyFrom 12 = .ok (.invokestatic 15, 3) := by decide +kernel
theorem dX2_copyFrom_15 : decode cX2_copyFrom 15 = .ok (.aload_n 0, 1) := by decide +kernel
theorem dX2_copyFrom_16 : decode cX2_copyFrom 16 = .ok (.aload_n 1, 1) := by decide +kernel
theorem dX2_copyFrom_17 : decode cX2_copyFrom 17 = .ok (.getfield 21, 3) := by decide +kernel
theorem dX2_copyFrom_20 : decode cX2_copyFrom 20 = .ok (.putfield 21, 3) := by decide +kernel
theorem dX2_copyFrom_23 : decode cX2_copyFrom 23 = .ok (.aload_n 0, 1) := by decide +kernel
theorem dX2_copyFrom_24 : decode cX2_copyFrom 24 = .ok (.aload_n 1, 1) := by decide +kernel
theorem dX2_copyFrom_25 : decode cX2_copyFrom 25 = .ok (.getfield 25, 3) := by decide +kernel
theorem dX2_copyFrom_28 : decode cX2_copyFrom 28 = .ok (.putfield 25, 3) := by decide +kernel
theorem dX2_copyFrom_31 : decode cX2_copyFrom 31 = .ok (.return_, 1) := by decide +kernel
theorem dX3_init_0 : decode cX3_init 0 = .ok (.aload_n 0, 1) := by decide +kernel
theorem dX3_init_1 : decode cX3_init 1 = .ok (.invokespecial 1, 3) := by decide +kernel
theorem dX3_init_4 : decode cX3_init 4 = .ok (.return_, 1) := by decide +kernel
theorem dX3_begin_0 : decode cX3_begin 0 = .ok (.aload_n 0, 1) := by decide +kernel
theorem dX3_begin_1 : decode cX3_begin 1 = .ok (.iload_n 1, 1) := by decide +kernel
theorem dX3_begin_2 : decode cX3_begin 2 = .ok (.putfield 7, 3) := by decide +kernel
theorem dX3_begin_5 : decode cX3_begin 5 = .ok (.aload_n 0, 1) := by decide +kernel
theorem dX3_begin_6 : decode cX3_begin 6 = .ok (.iload_n 2, 1) := by decide +kernel
theorem dX3_begin_7 : decode cX3_begin 7 = .ok (.putfield 13, 3) := by decide +kernel
theorem dX3_begin_10 : decode cX3_begin 10 = .ok (.aload_n 0, 1) := by decide +kernel
theorem dX3_begin_11 : decode cX3_begin 11 = .ok (.iload_n 3, 1) := by decide +kernel
theorem dX3_begin_12 : decode cX3_begin 12 = .ok (.putfield 16, 3) := by decide +kernel
theorem dX3_begin_15 : decode cX3_begin 15 = .ok (.aload_n 0, 1) := by decide +kernel
theorem dX3_begin_16 : decode cX3_begin 16 = .ok (.iload_n 1, 1) := by decide +kernel
theorem dX3_begin_17 : decode cX3_begin 17 = .ok (.putfield 19, 3) := by decide +kernel
theorem dX3_begin_20 : decode cX3_begin 20 = .ok (.aload_n 0, 1) := by decide +kernel
theorem dX3_begin_21 : decode cX3_begin 21 = .ok (.iconst 1, 1) := by decide +kernel
theorem dX3_begin_22 : decode cX3_begin 22 = .ok (.putfield 22, 3) := by decide +kernel
theorem dX3_begin_25 : decode cX3_begin 25 = .ok (.aload_n 0, 1) := by decide +kernel
theorem dX3_begin_26 : decode cX3_begin 26 = .ok (.iconst 0, 1) := by decide +kernel
theorem dX3_begin_27 : decode cX3_begin 27 = .ok (.putfield 25, 3) := by decide +kernel
theorem dX3_begin_30 : decode cX3_begin 30 = .ok (.return_, 1) := by decide +kernel
theorem dX3_copyFrom_0 : decode cX3_copyFrom 0 = .ok (.aload_n 0, 1) := by decide +kernel
theorem dX3_copyFrom_1 : decode cX3_copyFrom 1 = .ok (.aload_n 1, 1) := by decide +kernel
theorem dX3_copyFrom_2 : decode cX3_copyFrom 2 = .ok (.getfield 7, 3) := by decide +kernel
theorem dX3_copyFrom_5 : decode cX3_copyFrom 5 = .ok (.putfield 7, 3) := by decide +kernel
theorem dX3_copyFrom_8 : decode cX3_copyFrom 8 = .ok (.aload_n 0, 1) := by decide +kernel
theorem dX3_copyFrom_9 : decode cX3_copyFrom 9 = .ok (.aload_n 1, 1) := by decide +kernel
theorem dX3_copyFrom_10 : decode cX3_copyFrom 10 = .ok (.getfield 13, 3) := by decide +kernel
theorem dX3_copyFrom_13 : decode cX3_copyFrom 13 = .ok (.putfield 13, 3) := by decide +kernel
theorem dX3_copyFrom_16 : decode cX3_copyFrom 16 = .ok (.aload_n 0, 1) := by decide +kernel
theorem dX3_copyFrom_17 : decode cX3_copyFrom 17 = .ok (.aload_n 1, 1) := by decide +kernel
theorem dX3_copyFrom_18 : decode cX3_copyFrom 18 = .ok (.getfield 16, 3) := by decide +kernel
theorem dX3_copyFrom_21 : decode cX3_copyFrom 21 = .ok (.putfield 16, 3) := by decide +kernel
theorem dX3_copyFrom_24 : decode cX3_copyFrom 24 = .ok (.aload_n 0, 1) := by decide +kernel
theorem dX3_copyFrom_25 : decode cX3_copyFrom 25 = .ok (.aload_n 1, 1) := by decide +kernel
theorem dX3_copyFrom_26 : decode cX3_copyFrom 26 = .ok (.getfield 19, 3) := by decide +kernel
theorem dX3_copyFrom_29 : decode cX3_copyFrom 29 = .ok (.putfield 19, 3) := by decide +kernel
theorem dX3_copyFrom_32 : decode cX3_copyFrom 32 = .ok (.aload_n 0, 1) := by decide +kernel
theorem dX3_copyFrom_33 : decode cX3_copyFrom 33 = .ok (.aload_n 1, 1) := by decide +kernel
theorem dX3_copyFrom_34 : decode cX3_copyFrom 34 = .ok (.getfield 22, 3) := by decide +kernel
theorem dX3_copyFrom_37 : decode cX3_copyFrom 37 = .ok (.putfield 22, 3) := by decide +kernel
theorem dX3_copyFrom_40 : decode cX3_copyFrom 40 = .ok (.aload_n 0, 1) := by decide +kernel
theorem dX3_copyFrom_41 : decode cX3_copyFrom 41 = .ok (.aload_n 1, 1) := by decide +kernel
theorem dX3_copyFrom_42 : decode cX3_copyFrom 42 = .ok (.getfield 25, 3) := by decide +kernel
theorem dX3_copyFrom_45 : decode cX3_copyFrom 45 = .ok (.putfield 25, 3) := by decide +kernel
theorem dX3_copyFrom_48 : decode cX3_copyFrom 48 = .ok (.return_, 1) := by decide +kernel
theorem dX3_sightOfPlaces_0 : decode cX3_sightOfPlaces 0 = .ok (.aload_n 0, 1) := by decide +kernel
theorem dX3_sightOfPlaces_1 : decode cX3_sightOfPlaces 1 = .ok (.getfield 16, 3) := by decide +kernel
theorem dX3_sightOfPlaces_4 : decode cX3_sightOfPlaces 4 = .ok (.iload_n 1, 1) := by decide +kernel
theorem dX3_sightOfPlaces_5 : decode cX3_sightOfPlaces 5 = .ok (.iconst 2, 1) := by decide +kernel
theorem dX3_sightOfPlaces_6 : decode cX3_sightOfPlaces 6 = .ok (.idiv, 1) := by decide +kernel
theorem dX3_sightOfPlaces_7 : decode cX3_sightOfPlaces 7 = .ok (.iadd, 1) := by decide +kernel
theorem dX3_sightOfPlaces_8 : decode cX3_sightOfPlaces 8 = .ok (.ireturn, 1) := by decide +kernel
theorem dX3_sightOfLanterns_0 : decode cX3_sightOfLanterns 0 = .ok (.iconst 2, 1) := by decide +kernel
theorem dX3_sightOfLanterns_1 : decode cX3_sightOfLanterns 1 = .ok (.aload_n 0, 1) := by decide +kernel
theorem dX3_sightOfLanterns_2 : decode cX3_sightOfLanterns 2 = .ok (.getfield 16, 3) := by decide +kernel
theorem dX3_sightOfLanterns_5 : decode cX3_sightOfLanterns 5 = .ok (.imul, 1) := by decide +kernel
theorem dX3_sightOfLanterns_6 : decode cX3_sightOfLanterns 6 = .ok (.bipush 6, 2) := by decide +kernel
theorem dX3_sightOfLanterns_8 : decode cX3_sightOfLanterns 8 = .ok (.iadd, 1) := by decide +kernel
theorem dX3_sightOfLanterns_9 : decode cX3_sightOfLanterns 9 = .ok (.iload_n 1, 1) := by decide +kernel
theorem dX3_sightOfLanterns_10 : decode cX3_sightOfLanterns 10 = .ok (.isub, 1) := by decide +kernel
theorem dX3_sightOfLanterns_11 : decode cX3_sightOfLanterns 11 = .ok (.ireturn, 1) := by decide +kernel
theorem dX3_walk_0 : decode cX3_walk 0 = .ok (.aload_n 0, 1) := by decide +kernel
theorem dX3_walk_1 : decode cX3_walk 1 = .ok (.getfield 7, 3) := by decide +kernel
theorem dX3_walk_4 : decode cX3_walk 4 = .ok (.aload_n 0, 1) := by decide +kernel
theorem dX3_walk_5 : decode cX3_walk 5 = .ok (.getfield 13, 3) := by decide +kernel
theorem dX3_walk_8 : decode cX3_walk 8 = .ok (.if_icmp .ne 4, 3) := by decide +kernel
theorem dX3_walk_11 : decode cX3_walk 11 = .ok (.return_, 1) := by decide +kernel
theorem dX3_walk_12 : decode cX3_walk 12 = .ok (.aload_n 0, 1) := by decide +kernel
theorem dX3_walk_13 : decode cX3_walk 13 = .ok (.getfield 22, 3) := by decide +kernel
theorem dX3_walk_16 : decode cX3_walk 16 = .ok (.ifCond .le 14, 3) := by decide +kernel
theorem dX3_walk_19 : decode cX3_walk 19 = .ok (.aload_n 0, 1) := by decide +kernel
theorem dX3_walk_20 : decode cX3_walk 20 = .ok (.getfield 19, 3) := by decide +kernel
theorem dX3_walk_23 : decode cX3_walk 23 = .ok (.aload_n 0, 1) := by decide +kernel
theorem dX3_walk_24 : decode cX3_walk 24 = .ok (.getfield 13, 3) := by decide +kernel
theorem dX3_walk_27 : decode cX3_walk 27 = .ok (.if_icmp .eq 21, 3) := by decide +kernel
theorem dX3_walk_30 : decode cX3_walk 30 = .ok (.aload_n 0, 1) := by decide +kernel
theorem dX3_walk_31 : decode cX3_walk 31 = .ok (.getfield 22, 3) := by decide +kernel
theorem dX3_walk_34 : decode cX3_walk 34 = .ok (.ifCond .ge 23, 3) := by decide +kernel
theorem dX3_walk_37 : decode cX3_walk 37 = .ok (.aload_n 0, 1) := by decide +kernel
theorem dX3_walk_38 : decode cX3_walk 38 = .ok (.getfield 19, 3) := by decide +kernel
theorem dX3_walk_41 : decode cX3_walk 41 = .ok (.aload_n 0, 1) := by decide +kernel
theorem dX3_walk_42 : decode cX3_walk 42 = .ok (.getfield 7, 3) := by decide +kernel
theorem dX3_walk_45 : decode cX3_walk 45 = .ok (.if_icmp .ne 12, 3) := by decide +kernel
theorem dX3_walk_48 : decode cX3_walk 48 = .ok (.aload_n 0, 1) := by decide +kernel
theorem dX3_walk_49 : decode cX3_walk 49 = .ok (.aload_n 0, 1) := by decide +kernel
theorem dX3_walk_50 : decode cX3_walk 50 = .ok (.getfield 22, 3) := by decide +kernel
theorem dX3_walk_53 : decode cX3_walk 53 = .ok (.ineg, 1) := by decide +kernel
theorem dX3_walk_54 : decode cX3_walk 54 = .ok (.putfield 22, 3) := by decide +kernel
theorem dX3_walk_57 : decode cX3_walk 57 = .ok (.aload_n 0, 1) := by decide +kernel
theorem dX3_walk_58 : decode cX3_walk 58 = .ok (.dup, 1) := by decide +kernel
theorem dX3_walk_59 : decode cX3_walk 59 = .ok (.getfield 19, 3) := by decide +kernel
theorem dX3_walk_62 : decode cX3_walk 62 = .ok (.aload_n 0, 1) := by decide +kernel
theorem dX3_walk_63 : decode cX3_walk 63 = .ok (.getfield 22, 3) := by decide +kernel
theorem dX3_walk_66 : decode cX3_walk 66 = .ok (.iadd, 1) := by decide +kernel
theorem dX3_walk_67 : decode cX3_walk 67 = .ok (.putfield 19, 3) := by decide +kernel
theorem dX3_walk_70 : decode cX3_walk 70 = .ok (.return_, 1) := by decide +kernel
theorem dX3_tell_0 : decode cX3_tell 0 = .ok (.iload_n 1, 1) := by decide +kernel
theorem dX3_tell_1 : decode cX3_tell 1 = .ok (.tableswitch 53 0 3 #[31, 36, 41, 47], 31) := by decide +kernel
theorem dX3_tell_32 : decode cX3_tell 32 = .ok (.aload_n 0, 1) := by decide +kernel
theorem dX3_tell_33 : decode cX3_tell 33 = .ok (.getfield 19, 3) := by decide +kernel
theorem dX3_tell_36 : decode cX3_tell 36 = .ok (.ireturn, 1) := by decide +kernel
theorem dX3_tell_37 : decode cX3_tell 37 = .ok (.aload_n 0, 1) := by decide +kernel
theorem dX3_tell_38 : decode cX3_tell 38 = .ok (.getfield 22, 3) := by decide +kernel
theorem dX3_tell_41 : decode cX3_tell 41 = .ok (.ireturn, 1) := by decide +kernel
theorem dX3_tell_42 : decode cX3_tell 42 = .ok (.aload_n 0, 1) := by decide +kernel
theorem dX3_tell_43 : decode cX3_tell 43 = .ok (.iload_n 2, 1) := by decide +kernel
theorem dX3_tell_44 : decode cX3_tell 44 = .ok (.invokevirtual 28, 3) := by decide +kernel
theorem dX3_tell_47 : decode cX3_tell 47 = .ok (.ireturn, 1) := by decide +kernel
theorem dX3_tell_48 : decode cX3_tell 48 = .ok (.aload_n 0, 1) := by decide +kernel
theorem dX3_tell_49 : decode cX3_tell 49 = .ok (.iload_n 2, 1) := by decide +kernel
theorem dX3_tell_50 : decode cX3_tell 50 = .ok (.invokevirtual 32, 3) := by decide +kernel
theorem dX3_tell_53 : decode cX3_tell 53 = .ok (.ireturn, 1) := by decide +kernel
theorem dX3_tell_54 : decode cX3_tell 54 = .ok (.aload_n 0, 1) := by decide +kernel
theorem dX3_tell_55 : decode cX3_tell 55 = .ok (.getfield 25, 3) := by decide +kernel
theorem dX3_tell_58 : decode cX3_tell 58 = .ok (.ireturn, 1) := by decide +kernel
theorem dX4_init_0 : decode cX4_init 0 = .ok (.aload_n 0, 1) := by decide +kernel
theorem dX4_init_1 : decode cX4_init 1 = .ok (.invokespecial 1, 3) := by decide +kernel
theorem dX4_init_4 : decode cX4_init 4 = .ok (.aload_n 0, 1) := by decide +kernel
theorem dX4_init_5 : decode cX4_init 5 = .ok (.new 7, 3) := by decide +kernel
theorem dX4_init_8 : decode cX4_init 8 = .ok (.dup, 1) := by decide +kernel
theorem dX4_init_9 : decode cX4_init 9 = .ok (.invokespecial 9, 3) := by decide +kernel
theorem dX4_init_12 : decode cX4_init 12 = .ok (.putfield 10, 3) := by decide +kernel
theorem dX4_init_15 : decode cX4_init 15 = .ok (.aload_n 0, 1) := by decide +kernel
theorem dX4_init_16 : decode cX4_init 16 = .ok (.new 7, 3) := by decide +kernel
theorem dX4_init_19 : decode cX4_init 19 = .ok (.dup, 1) := by decide +kernel
theorem dX4_init_20 : decode cX4_init 20 = .ok (.invokespecial 9, 3) := by decide +kernel
theorem dX4_init_23 : decode cX4_init 23 = .ok (.putfield 16, 3) := by decide +kernel
theorem dX4_init_26 : decode cX4_init 26 = .ok (.return_, 1) := by decide +kernel
theorem dX4_setRoom_0 : decode cX4_setRoom 0 = .ok (.iload_n 1, 1) := by decide +kernel
theorem dX4_setRoom_1 : decode cX4_setRoom 1 = .ok (.invokestatic 19, 3) := by decide +kernel
theorem dX4_setRoom_4 : decode cX4_setRoom 4 = .ok (.iload_n 2, 1) := by decide +kernel
theorem dX4_setRoom_5 : decode cX4_setRoom 5 = .ok (.ifCond .lt 9, 3) := by decide +kernel
theorem dX4_setRoom_8 : decode cX4_setRoom 8 = .ok (.iload_n 2, 1) := by decide +kernel
theorem dX4_setRoom_9 : decode cX4_setRoom 9 = .ok (.bipush 30, 2) := by decide +kernel
theorem dX4_setRoom_11 : decode cX4_setRoom 11 = .ok (.if_icmp .le 13, 3) := by decide +kernel
theorem dX4_setRoom_14 : decode cX4_setRoom 14 = .ok (.new 23, 3) := by decide +kernel
theorem dX4_setRoom_17 : decode cX4_setRoom 17 = .ok (.dup, 1) := by decide +kernel
theorem dX4_setRoom_18 : decode cX4_setRoom 18 = .ok (.ldc 25, 2) := by decide +kernel
theorem dX4_setRoom_20 : decode cX4_setRoom 20 = .ok (.invokespecial 27, 3) := by decide +kernel
theorem dX4_setRoom_23 : decode cX4_setRoom 23 = .ok (.athrow, 1) := by decide +kernel
theorem dX4_setRoom_24 : decode cX4_setRoom 24 = .ok (.aload_n 0, 1) := by decide +kernel
theorem dX4_setRoom_25 : decode cX4_setRoom 25 = .ok (.getfield 10, 3) := by decide +kernel
theorem dX4_setRoom_28 : decode cX4_setRoom 28 = .ok (.getfield 30, 3) := by decide +kernel
theorem dX4_setRoom_31 : decode cX4_setRoom 31 = .ok (.iload_n 1, 1) := by decide +kernel
theorem dX4_setRoom_32 : decode cX4_setRoom 32 = .ok (.iaload, 1) := by decide +kernel
theorem dX4_setRoom_33 : decode cX4_setRoom 33 = .ok (.iload_n 2, 1) := by decide +kernel
theorem dX4_setRoom_34 : decode cX4_setRoom 34 = .ok (.if_icmp .le 13, 3) := by decide +kernel
theorem dX4_setRoom_37 : decode cX4_setRoom 37 = .ok (.new 34, 3) := by decide +kernel
theorem dX4_setRoom_40 : decode cX4_setRoom 40 = .ok (.dup, 1) := by decide +kernel
theorem dX4_setRoom_41 : decode cX4_setRoom 41 = .ok (.ldc 36, 2) := by decide +kernel
theorem dX4_setRoom_43 : decode cX4_setRoom 43 = .ok (.invokespecial 38, 3) := by decide +kernel
theorem dX4_setRoom_46 : decode cX4_setRoom 46 = .ok (.athrow, 1) := by decide +kernel
theorem dX4_setRoom_47 : decode cX4_setRoom 47 = .ok (.aload_n 0, 1) := by decide +kernel
theorem dX4_setRoom_48 : decode cX4_setRoom 48 = .ok (.getfield 10, 3) := by decide +kernel
theorem dX4_setRoom_51 : decode cX4_setRoom 51 = .ok (.getfield 39, 3) := by decide +kernel
theorem dX4_setRoom_54 : decode cX4_setRoom 54 = .ok (.iload_n 1, 1) := by decide +kernel
theorem dX4_setRoom_55 : decode cX4_setRoom 55 = .ok (.iaload, 1) := by decide +kernel
theorem dX4_setRoom_56 : decode cX4_setRoom 56 = .ok (.istore_n 3, 1) := by decide +kernel
theorem dX4_setRoom_57 : decode cX4_setRoom 57 = .ok (.aload_n 0, 1) := by decide +kernel
theorem dX4_setRoom_58 : decode cX4_setRoom 58 = .ok (.getfield 10, 3) := by decide +kernel
theorem dX4_setRoom_61 : decode cX4_setRoom 61 = .ok (.getfield 39, 3) := by decide +kernel
theorem dX4_setRoom_64 : decode cX4_setRoom 64 = .ok (.iload_n 1, 1) := by decide +kernel
theorem dX4_setRoom_65 : decode cX4_setRoom 65 = .ok (.iload_n 2, 1) := by decide +kernel
theorem dX4_setRoom_66 : decode cX4_setRoom 66 = .ok (.iastore, 1) := by decide +kernel
theorem dX4_setRoom_67 : decode cX4_setRoom 67 = .ok (.iload_n 3, 1) := by decide +kernel
theorem dX4_setRoom_68 : decode cX4_setRoom 68 = .ok (.ireturn, 1) := by decide +kernel
theorem dX4_setCode_0 : decode cX4_setCode 0 = .ok (.iload_n 1, 1) := by decide +kernel
theorem dX4_setCode_1 : decode cX4_setCode 1 = .ok (.invokestatic 42, 3) := by decide +kernel
theorem dX4_setCode_4 : decode cX4_setCode 4 = .ok (.iload_n 2, 1) := by decide +kernel
theorem dX4_setCode_5 : decode cX4_setCode 5 = .ok (.invokestatic 45, 3) := by decide +kernel
theorem dX4_setCode_8 : decode cX4_setCode 8 = .ok (.aload_n 0, 1) := by decide +kernel
theorem dX4_setCode_9 : decode cX4_setCode 9 = .ok (.getfield 10, 3) := by decide +kernel
theorem dX4_setCode_12 : decode cX4_setCode 12 = .ok (.getfield 48, 3) := by decide +kernel
theorem dX4_setCode_15 : decode cX4_setCode 15 = .ok (.iload_n 1, 1) := by decide +kernel
theorem dX4_setCode_16 : decode cX4_setCode 16 = .ok (.iaload, 1) := by decide +kernel
theorem dX4_setCode_17 : decode cX4_setCode 17 = .ok (.istore_n 3, 1) := by decide +kernel
theorem dX4_setCode_18 : decode cX4_setCode 18 = .ok (.aload_n 0, 1) := by decide +kernel
theorem dX4_setCode_19 : decode cX4_setCode 19 = .ok (.getfield 10, 3) := by decide +kernel
theorem dX4_setCode_22 : decode cX4_setCode 22 = .ok (.getfield 48, 3) := by decide +kernel
theorem dX4_setCode_25 : decode cX4_setCode 25 = .ok (.iload_n 1, 1) := by decide +kernel
theorem dX4_setCode_26 : decode cX4_setCode 26 = .ok (.iload_n 2, 1) := by decide +kernel
theorem dX4_setCode_27 : decode cX4_setCode 27 = .ok (.iastore, 1) := by decide +kernel
theorem dX4_setCode_28 : decode cX4_setCode 28 = .ok (.aload_n 0, 1) := by decide +kernel
theorem dX4_setCode_29 : decode cX4_setCode 29 = .ok (.getfield 10, 3) := by decide +kernel
theorem dX4_setCode_32 : decode cX4_setCode 32 = .ok (.getfield 51, 3) := by decide +kernel
theorem dX4_setCode_35 : decode cX4_setCode 35 = .ok (.iload_n 1, 1) := by decide +kernel
theorem dX4_setCode_36 : decode cX4_setCode 36 = .ok (.iconst 0, 1) := by decide +kernel
theorem dX4_setCode_37 : decode cX4_setCode 37 = .ok (.iastore, 1) := by decide +kernel
theorem dX4_setCode_38 : decode cX4_setCode 38 = .ok (.iload_n 3, 1) := by decide +kernel
theorem dX4_setCode_39 : decode cX4_setCode 39 = .ok (.ireturn, 1) := by decide +kernel
theorem dX4_lantern_0 : decode cX4_lantern 0 = .ok (.iload_n 1, 1) := by decide +kernel
theorem dX4_lantern_1 : decode cX4_lantern 1 = .ok (.invokestatic 19, 3) := by decide +kernel
theorem dX4_lantern_4 : decode cX4_lantern 4 = .ok (.aload_n 0, 1) := by decide +kernel
theorem dX4_lantern_5 : decode cX4_lantern 5 = .ok (.getfield 10, 3) := by decide +kernel
theorem dX4_lantern_8 : decode cX4_lantern 8 = .ok (.getfield 54, 3) := by decide +kernel
theorem dX4_lantern_11 : decode cX4_lantern 11 = .ok (.iconst 5, 1) := by decide +kernel
theorem dX4_lantern_12 : decode cX4_lantern 12 = .ok (.if_icmp .lt 13, 3) := by decide +kernel
theorem dX4_lantern_15 : decode cX4_lantern 15 = .ok (.new 34, 3) := by decide +kernel
theorem dX4_lantern_18 : decode cX4_lantern 18 = .ok (.dup, 1) := by decide +kernel
theorem dX4_lantern_19 : decode cX4_lantern 19 = .ok (.ldc 58, 2) := by decide +kernel
theorem dX4_lantern_21 : decode cX4_lantern 21 = .ok (.invokespecial 38, 3) := by decide +kernel
theorem dX4_lantern_24 : decode cX4_lantern 24 = .ok (.athrow, 1) := by decide +kernel
theorem dX4_lantern_25 : decode cX4_lantern 25 = .ok (.aload_n 0, 1) := by decide +kernel
theorem dX4_lantern_26 : decode cX4_lantern 26 = .ok (.getfield 10, 3) := by decide +kernel
theorem dX4_lantern_29 : decode cX4_lantern 29 = .ok (.iload_n 1, 1) := by decide +kernel
theorem dX4_lantern_30 : decode cX4_lantern 30 = .ok (.invokevirtual 60, 3) := by decide +kernel
theorem dX4_lantern_33 : decode cX4_lantern 33 = .ok (.ifCond .eq 13, 3) := by decide +kernel
theorem dX4_lantern_36 : decode cX4_lantern 36 = .ok (.new 34, 3) := by decide +kernel
theorem dX4_lantern_39 : decode cX4_lantern 39 = .ok (.dup, 1) := by decide +kernel
theorem dX4_lantern_40 : decode cX4_lantern 40 = .ok (.ldc 64, 2) := by decide +kernel
theorem dX4_lantern_42 : decode cX4_lantern 42 = .ok (.invokespecial 38, 3) := by decide +kernel
theorem dX4_lantern_45 : decode cX4_lantern 45 = .ok (.athrow, 1) := by decide +kernel
theorem dX4_lantern_46 : decode cX4_lantern 46 = .ok (.aload_n 0, 1) := by decide +kernel
theorem dX4_lantern_47 : decode cX4_lantern 47 = .ok (.getfield 10, 3) := by decide +kernel
theorem dX4_lantern_50 : decode cX4_lantern 50 = .ok (.getfield 54, 3) := by decide +kernel
theorem dX4_lantern_53 : decode cX4_lantern 53 = .ok (.istore_n 2, 1) := by decide +kernel
theorem dX4_lantern_54 : decode cX4_lantern 54 = .ok (.aload_n 0, 1) := by decide +kernel
theorem dX4_lantern_55 : decode cX4_lantern 55 = .ok (.getfield 10, 3) := by decide +kernel
theorem dX4_lantern_58 : decode cX4_lantern 58 = .ok (.getfield 66, 3) := by decide +kernel
theorem dX4_lantern_61 : decode cX4_lantern 61 = .ok (.iload_n 2, 1) := by decide +kernel
theorem dX4_lantern_62 : decode cX4_lantern 62 = .ok (.aaload, 1) := by decide +kernel
theorem dX4_lantern_63 : decode cX4_lantern 63 = .ok (.iload_n 1, 1) := by decide +kernel
theorem dX4_lantern_64 : decode cX4_lantern 64 = .ok (.putfield 70, 3) := by decide +kernel
theorem dX4_lantern_67 : decode cX4_lantern 67 = .ok (.aload_n 0, 1) := by decide +kernel
theorem dX4_lantern_68 : decode cX4_lantern 68 = .ok (.getfield 10, 3) := by decide +kernel
theorem dX4_lantern_71 : decode cX4_lantern 71 = .ok (.iload_n 2, 1) := by decide +kernel
theorem dX4_lantern_72 : decode cX4_lantern 72 = .ok (.iconst 1, 1) := by decide +kernel
theorem dX4_lantern_73 : decode cX4_lantern 73 = .ok (.iadd, 1) := by decide +kernel
theorem dX4_lantern_74 : decode cX4_lantern 74 = .ok (.putfield 54, 3) := by decide +kernel
theorem dX4_lantern_77 : decode cX4_lantern 77 = .ok (.iload_n 2, 1) := by decide +kernel
theorem dX4_lantern_78 : decode cX4_lantern 78 = .ok (.ireturn, 1) := by decide +kernel
theorem dX4_setShow_0 : decode cX4_setShow 0 = .ok (.aload_n 0, 1) := by decide +kernel
theorem dX4_setShow_1 : decode cX4_setShow 1 = .ok (.iload_n 1, 1) := by decide +kernel
theorem dX4_setShow_2 : decode cX4_setShow 2 = .ok (.invokevirtual 75, 3) := by decide +kernel
theorem dX4_setShow_5 : decode cX4_setShow 5 = .ok (.iload_n 2, 1) := by decide +kernel
theorem dX4_setShow_6 : decode cX4_setShow 6 = .ok (.ifCond .lt 9, 3) := by decide +kernel
theorem dX4_setShow_9 : decode cX4_setShow 9 = .ok (.iload_n 2, 1) := by decide +kernel
theorem dX4_setShow_10 : decode cX4_setShow 10 = .ok (.bipush 10, 2) := by decide +kernel
theorem dX4_setShow_12 : decode cX4_setShow 12 = .ok (.if_icmp .lt 13, 3) := by decide +kernel
theorem dX4_setShow_15 : decode cX4_setShow 15 = .ok (.new 78, 3) := by decide +kernel
theorem dX4_setShow_18 : decode cX4_setShow 18 = .ok (.dup, 1) := by decide +kernel
theorem dX4_setShow_19 : decode cX4_setShow 19 = .ok (.ldc 80, 2) := by decide +kernel
theorem dX4_setShow_21 : decode cX4_setShow 21 = .ok (.invokespecial 82, 3) := by decide +kernel
theorem dX4_setShow_24 : decode cX4_setShow 24 = .ok (.athrow, 1) := by decide +kernel
theorem dX4_setShow_25 : decode cX4_setShow 25 = .ok (.iload_n 3, 1) := by decide +kernel
theorem dX4_setShow_26 : decode cX4_setShow 26 = .ok (.ifCond .lt 9, 3) := by decide +kernel
theorem dX4_setShow_29 : decode cX4_setShow 29 = .ok (.iload_n 3, 1) := by decide +kernel
theorem dX4_setShow_30 : decode cX4_setShow 30 = .ok (.bipush 7, 2) := by decide +kernel
theorem dX4_setShow_32 : decode cX4_setShow 32 = .ok (.if_icmp .le 13, 3) := by decide +kernel
theorem dX4_setShow_35 : decode cX4_setShow 35 = .ok (.new 23, 3) := by decide +kernel
theorem dX4_setShow_38 : decode cX4_setShow 38 = .ok (.dup, 1) := by decide +kernel
theorem dX4_setShow_39 : decode cX4_setShow 39 = .ok (.ldc 83, 2) := by decide +kernel
theorem dX4_setShow_41 : decode cX4_setShow 41 = .ok (.invokespecial 27, 3) := by decide +kernel
theorem dX4_setShow_44 : decode cX4_setShow 44 = .ok (.athrow, 1) := by decide +kernel
theorem dX4_setShow_45 : decode cX4_setShow 45 = .ok (.aload_n 0, 1) := by decide +kernel
theorem dX4_setShow_46 : decode cX4_setShow 46 = .ok (.getfield 10, 3) := by decide +kernel
theorem dX4_setShow_49 : decode cX4_setShow 49 = .ok (.getfield 66, 3) := by decide +kernel
theorem dX4_setShow_52 : decode cX4_setShow 52 = .ok (.iload_n 1, 1) := by decide +kernel
theorem dX4_setShow_53 : decode cX4_setShow 53 = .ok (.aaload, 1) := by decide +kernel
theorem dX4_setShow_54 : decode cX4_setShow 54 = .ok (.getfield 85, 3) := by decide +kernel
theorem dX4_setShow_57 : decode cX4_setShow 57 = .ok (.astore 4, 2) := by decide +kernel
theorem dX4_setShow_59 : decode cX4_setShow 59 = .ok (.aload 4, 2) := by decide +kernel
theorem dX4_setShow_61 : decode cX4_setShow 61 = .ok (.iload_n 2, 1) := by decide +kernel
theorem dX4_setShow_62 : decode cX4_setShow 62 = .ok (.iaload, 1) := by decide +kernel
theorem dX4_setShow_63 : decode cX4_setShow 63 = .ok (.istore 5, 2) := by decide +kernel
theorem dX4_setShow_65 : decode cX4_setShow 65 = .ok (.aload 4, 2) := by decide +kernel
theorem dX4_setShow_67 : decode cX4_setShow 67 = .ok (.iload_n 2, 1) := by decide +kernel
theorem dX4_setShow_68 : decode cX4_setShow 68 = .ok (.iload_n 3, 1) := by decide +kernel
theorem dX4_setShow_69 : decode cX4_setShow 69 = .ok (.iastore, 1) := by decide +kernel
theorem dX4_setShow_70 : decode cX4_setShow 70 = .ok (.iload 5, 2) := by decide +kernel
theorem dX4_setShow_72 : decode cX4_setShow 72 = .ok (.ireturn, 1) := by decide +kernel
theorem dX4_watchman_0 : decode cX4_watchman 0 = .ok (.iload_n 1, 1) := by decide +kernel
theorem dX4_watchman_1 : decode cX4_watchman 1 = .ok (.invokestatic 19, 3) := by decide +kernel
theorem dX4_watchman_4 : decode cX4_watchman 4 = .ok (.iload_n 2, 1) := by decide +kernel
theorem dX4_watchman_5 : decode cX4_watchman 5 = .ok (.invokestatic 19, 3) := by decide +kernel
theorem dX4_watchman_8 : decode cX4_watchman 8 = .ok (.iload_n 1, 1) := by decide +kernel
theorem dX4_watchman_9 : decode cX4_watchman 9 = .ok (.iload_n 2, 1) := by decide +kernel
theorem dX4_watchman_10 : decode cX4_watchman 10 = .ok (.if_icmp .le 13, 3) := by decide +kernel
theorem dX4_watchman_13 : decode cX4_watchman 13 = .ok (.new 23, 3) := by decide +kernel
theorem dX4_watchman_16 : decode cX4_watchman 16 = .ok (.dup, 1) := by decide +kernel
theorem dX4_watchman_17 : decode cX4_watchman 17 = .ok (.ldc 88, 2) := by decide +kernel
theorem dX4_watchman_19 : decode cX4_watchman 19 = .ok (.invokespecial 27, 3) := by decide +kernel
theorem dX4_watchman_22 : decode cX4_watchman 22 = .ok (.athrow, 1) := by decide +kernel
theorem dX4_watchman_23 : decode cX4_watchman 23 = .ok (.iload_n 3, 1) := by decide +kernel
theorem dX4_watchman_24 : decode cX4_watchman 24 = .ok (.ifCond .lt 8, 3) := by decide +kernel
theorem dX4_watchman_27 : decode cX4_watchman 27 = .ok (.iload_n 3, 1) := by decide +kernel
theorem dX4_watchman_28 : decode cX4_watchman 28 = .ok (.iconst 3, 1) := by decide +kernel
theorem dX4_watchman_29 : decode cX4_watchman 29 = .ok (.if_icmp .le 13, 3) := by decide +kernel
theorem dX4_watchman_32 : decode cX4_watchman 32 = .ok (.new 23, 3) := by decide +kernel
theorem dX4_watchman_35 : decode cX4_watchman 35 = .ok (.dup, 1) := by decide +kernel
theorem dX4_watchman_36 : decode cX4_watchman 36 = .ok (.ldc 90, 2) := by decide +kernel
theorem dX4_watchman_38 : decode cX4_watchman 38 = .ok (.invokespecial 27, 3) := by decide +kernel
theorem dX4_watchman_41 : decode cX4_watchman 41 = .ok (.athrow, 1) := by decide +kernel
theorem dX4_watchman_42 : decode cX4_watchman 42 = .ok (.aload_n 0, 1) := by decide +kernel
theorem dX4_watchman_43 : decode cX4_watchman 43 = .ok (.getfield 10, 3) := by decide +kernel
theorem dX4_watchman_46 : decode cX4_watchman 46 = .ok (.getfield 92, 3) := by decide +kernel
theorem dX4_watchman_49 : decode cX4_watchman 49 = .ok (.iconst 4, 1) := by decide +kernel
theorem dX4_watchman_50 : decode cX4_watchman 50 = .ok (.if_icmp .lt 13, 3) := by decide +kernel
theorem dX4_watchman_53 : decode cX4_watchman 53 = .ok (.new 34, 3) := by decide +kernel
theorem dX4_watchman_56 : decode cX4_watchman 56 = .ok (.dup, 1) := by decide +kernel
theorem dX4_watchman_57 : decode cX4_watchman 57 = .ok (.ldc 95, 2) := by decide +kernel
theorem dX4_watchman_59 : decode cX4_watchman 59 = .ok (.invokespecial 38, 3) := by decide +kernel
theorem dX4_watchman_62 : decode cX4_watchman 62 = .ok (.athrow, 1) := by decide +kernel
theorem dX4_watchman_63 : decode cX4_watchman 63 = .ok (.aload_n 0, 1) := by decide +kernel
theorem dX4_watchman_64 : decode cX4_watchman 64 = .ok (.getfield 10, 3) := by decide +kernel
theorem dX4_watchman_67 : decode cX4_watchman 67 = .ok (.getfield 92, 3) := by decide +kernel
theorem dX4_watchman_70 : decode cX4_watchman 70 = .ok (.istore 4, 2) := by decide +kernel
theorem dX4_watchman_72 : decode cX4_watchman 72 = .ok (.aload_n 0, 1) := by decide +kernel
theorem dX4_watchman_73 : decode cX4_watchman 73 = .ok (.getfield 10, 3) := by decide +kernel
theorem dX4_watchman_76 : decode cX4_watchman 76 = .ok (.getfield 97, 3) := by decide +kernel
theorem dX4_watchman_79 : decode cX4_watchman 79 = .ok (.iload 4, 2) := by decide +kernel
theorem dX4_watchman_81 : decode cX4_watchman 81 = .ok (.aaload, 1) := by decide +kernel
theorem dX4_watchman_82 : decode cX4_watchman 82 = .ok (.iload_n 1, 1) := by decide +kernel
theorem dX4_watchman_83 : decode cX4_watchman 83 = .ok (.iload_n 2, 1) := by decide +kernel
theorem dX4_watchman_84 : decode cX4_watchman 84 = .ok (.iload_n 3, 1) := by decide +kernel
theorem dX4_watchman_85 : decode cX4_watchman 85 = .ok (.invokevirtual 101, 3) := by decide +kernel
theorem dX4_watchman_88 : decode cX4_watchman 88 = .ok (.aload_n 0, 1) := by decide +kernel
theorem dX4_watchman_89 : decode cX4_watchman 89 = .ok (.getfield 10, 3) := by decide +kernel
theorem dX4_watchman_92 : decode cX4_watchman 92 = .ok (.iload 4, 2) := by decide +kernel
theorem dX4_watchman_94 : decode cX4_watchman 94 = .ok (.iconst 1, 1) := by decide +kernel
theorem dX4_watchman_95 : decode cX4_watchman 95 = .ok (.iadd, 1) := by decide +kernel
theorem dX4_watchman_96 : decode cX4_watchman 96 = .ok (.putfield 92, 3) := by decide +kernel
theorem dX4_watchman_99 : decode cX4_watchman 99 = .ok (.iload 4, 2) := by decide +kernel
theorem dX4_watchman_101 : decode cX4_watchman 101 = .ok (.ireturn, 1) := by decide +kernel
theorem dX4_boat_0 : decode cX4_boat 0 = .ok (.iload_n 1, 1) := by decide +kernel
theorem dX4_boat_1 : decode cX4_boat 1 = .ok (.invokestatic 19, 3) := by decide +kernel
theorem dX4_boat_4 : decode cX4_boat 4 = .ok (.iload_n 2, 1) := by decide +kernel
theorem dX4_boat_5 : decode cX4_boat 5 = .ok (.iconst 1, 1) := by decide +kernel
theorem dX4_boat_6 : decode cX4_boat 6 = .ok (.if_icmp .lt 9, 3) := by decide +kernel
theorem dX4_boat_9 : decode cX4_boat 9 = .ok (.iload_n 2, 1) := by decide +kernel
theorem dX4_boat_10 : decode cX4_boat 10 = .ok (.bipush 20, 2) := by decide +kernel
theorem dX4_boat_12 : decode cX4_boat 12 = .ok (.if_icmp .le 13, 3) := by decide +kernel
theorem dX4_boat_15 : decode cX4_boat 15 = .ok (.new 23, 3) := by decide +kernel
theorem dX4_boat_18 : decode cX4_boat 18 = .ok (.dup, 1) := by decide +kernel
theorem dX4_boat_19 : decode cX4_boat 19 = .ok (.ldc 107, 2) := by decide +kernel
theorem dX4_boat_21 : decode cX4_boat 21 = .ok (.invokespecial 27, 3) := by decide +kernel
theorem dX4_boat_24 : decode cX4_boat 24 = .ok (.athrow, 1) := by decide +kernel
theorem dX4_boat_25 : decode cX4_boat 25 = .ok (.aload_n 0, 1) := by decide +kernel
theorem dX4_boat_26 : decode cX4_boat 26 = .ok (.getfield 10, 3) := by decide +kernel
theorem dX4_boat_29 : decode cX4_boat 29 = .ok (.getfield 109, 3) := by decide +kernel
theorem dX4_boat_32 : decode cX4_boat 32 = .ok (.bipush 6, 2) := by decide +kernel
theorem dX4_boat_34 : decode cX4_boat 34 = .ok (.if_icmp .lt 13, 3) := by decide +kernel
theorem dX4_boat_37 : decode cX4_boat 37 = .ok (.new 34, 3) := by decide +kernel
theorem dX4_boat_40 : decode cX4_boat 40 = .ok (.dup, 1) := by decide +kernel
theorem dX4_boat_41 : decode cX4_boat 41 = .ok (.ldc 112, 2) := by decide +kernel
theorem dX4_boat_43 : decode cX4_boat 43 = .ok (.invokespecial 38, 3) := by decide +kernel
theorem dX4_boat_46 : decode cX4_boat 46 = .ok (.athrow, 1) := by decide +kernel
theorem dX4_boat_47 : decode cX4_boat 47 = .ok (.aload_n 0, 1) := by decide +kernel
theorem dX4_boat_48 : decode cX4_boat 48 = .ok (.getfield 10, 3) := by decide +kernel
theorem dX4_boat_51 : decode cX4_boat 51 = .ok (.getfield 109, 3) := by decide +kernel
theorem dX4_boat_54 : decode cX4_boat 54 = .ok (.istore_n 3, 1) := by decide +kernel
theorem dX4_boat_55 : decode cX4_boat 55 = .ok (.aload_n 0, 1) := by decide +kernel
theorem dX4_boat_56 : decode cX4_boat 56 = .ok (.getfield 10, 3) := by decide +kernel
theorem dX4_boat_59 : decode cX4_boat 59 = .ok (.getfield 114, 3) := by decide +kernel
theorem dX4_boat_62 : decode cX4_boat 62 = .ok (.iload_n 3, 1) := by decide +kernel
theorem dX4_boat_63 : decode cX4_boat 63 = .ok (.aaload, 1) := by decide +kernel
theorem dX4_boat_64 : decode cX4_boat 64 = .ok (.iload_n 1, 1) := by decide +kernel
theorem dX4_boat_65 : decode cX4_boat 65 = .ok (.iload_n 2, 1) := by decide +kernel
theorem dX4_boat_66 : decode cX4_boat 66 = .ok (.invokevirtual 118, 3) := by decide +kernel
theorem dX4_boat_69 : decode cX4_boat 69 = .ok (.aload_n 0, 1) := by decide +kernel
theorem dX4_boat_70 : decode cX4_boat 70 = .ok (.getfield 10, 3) := by decide +kernel
theorem dX4_boat_73 : decode cX4_boat 73 = .ok (.iload_n 3, 1) := by decide +kernel
theorem dX4_boat_74 : decode cX4_boat 74 = .ok (.iconst 1, 1) := by decide +kernel
theorem dX4_boat_75 : decode cX4_boat 75 = .ok (.iadd, 1) := by decide +kernel
theorem dX4_boat_76 : decode cX4_boat 76 = .ok (.putfield 109, 3) := by decide +kernel
theorem dX4_boat_79 : decode cX4_boat 79 = .ok (.iload_n 3, 1) := by decide +kernel
theorem dX4_boat_80 : decode cX4_boat 80 = .ok (.ireturn, 1) := by decide +kernel
theorem dX4_send_0 : decode cX4_send 0 = .ok (.aload_n 0, 1) := by decide +kernel
theorem dX4_send_1 : decode cX4_send 1 = .ok (.iload_n 1, 1) := by decide +kernel
theorem dX4_send_2 : decode cX4_send 2 = .ok (.invokevirtual 123, 3) := by decide +kernel
theorem dX4_send_5 : decode cX4_send 5 = .ok (.iload_n 2, 1) := by decide +kernel
theorem dX4_send_6 : decode cX4_send 6 = .ok (.invokestatic 45, 3) := by decide +kernel
theorem dX4_send_9 : decode cX4_send 9 = .ok (.aload_n 0, 1) := by decide +kernel
theorem dX4_send_10 : decode cX4_send 10 = .ok (.iload_n 1, 1) := by decide +kernel
theorem dX4_send_11 : decode cX4_send 11 = .ok (.invokevirtual 126, 3) := by decide +kernel
theorem dX4_send_14 : decode cX4_send 14 = .ok (.aload_n 0, 1) := by decide +kernel
theorem dX4_send_15 : decode cX4_send 15 = .ok (.getfield 10, 3) := by decide +kernel
theorem dX4_send_18 : decode cX4_send 18 = .ok (.getfield 114, 3) := by decide +kernel
theorem dX4_send_21 : decode cX4_send 21 = .ok (.iload_n 1, 1) := by decide +kernel
theorem dX4_send_22 : decode cX4_send 22 = .ok (.aaload, 1) := by decide +kernel
theorem dX4_send_23 : decode cX4_send 23 = .ok (.getfield 129, 3) := by decide +kernel
theorem dX4_send_26 : decode cX4_send 26 = .ok (.istore_n 3, 1) := by decide +kernel
theorem dX4_send_27 : decode cX4_send 27 = .ok (.aload_n 0, 1) := by decide +kernel
theorem dX4_send_28 : decode cX4_send 28 = .ok (.getfield 10, 3) := by decide +kernel
theorem dX4_send_31 : decode cX4_send 31 = .ok (.getfield 114, 3) := by decide +kernel
theorem dX4_send_34 : decode cX4_send 34 = .ok (.iload_n 1, 1) := by decide +kernel
theorem dX4_send_35 : decode cX4_send 35 = .ok (.aaload, 1) := by decide +kernel
theorem dX4_send_36 : decode cX4_send 36 = .ok (.iload_n 2, 1) := by decide +kernel
theorem dX4_send_37 : decode cX4_send 37 = .ok (.invokevirtual 132, 3) := by decide +kernel
theorem dX4_send_40 : decode cX4_send 40 = .ok (.iload_n 3, 1) := by decide +kernel
theorem dX4_send_41 : decode cX4_send 41 = .ok (.ireturn, 1) := by decide +kernel
theorem dX4_carry_0 : decode cX4_carry 0 = .ok (.iload_n 1, 1) := by decide +kernel
theorem dX4_carry_1 : decode cX4_carry 1 = .ok (.invokestatic 19, 3) := by decide +kernel
theorem dX4_carry_4 : decode cX4_carry 4 = .ok (.iload_n 2, 1) := by decide +kernel
theorem dX4_carry_5 : decode cX4_carry 5 = .ok (.iconst 1, 1) := by decide +kernel
theorem dX4_carry_6 : decode cX4_carry 6 = .ok (.if_icmp .lt 9, 3) := by decide +kernel
theorem dX4_carry_9 : decode cX4_carry 9 = .ok (.iload_n 2, 1) := by decide +kernel
theorem dX4_carry_10 : decode cX4_carry 10 = .ok (.bipush 30, 2) := by decide +kernel
theorem dX4_carry_12 : decode cX4_carry 12 = .ok (.if_icmp .le 13, 3) := by decide +kernel
theorem dX4_carry_15 : decode cX4_carry 15 = .ok (.new 23, 3) := by decide +kernel
theorem dX4_carry_18 : decode cX4_carry 18 = .ok (.dup, 1) := by decide +kernel
theorem dX4_carry_19 : decode cX4_carry 19 = .ok (.ldc 135, 2) := by decide +kernel
theorem dX4_carry_21 : decode cX4_carry 21 = .ok (.invokespecial 27, 3) := by decide +kernel
theorem dX4_carry_24 : decode cX4_carry 24 = .ok (.athrow, 1) := by decide +kernel
theorem dX4_carry_25 : decode cX4_carry 25 = .ok (.aload_n 0, 1) := by decide +kernel
theorem dX4_carry_26 : decode cX4_carry 26 = .ok (.getfield 10, 3) := by decide +kernel
theorem dX4_carry_29 : decode cX4_carry 29 = .ok (.getfield 30, 3) := by decide +kernel
theorem dX4_carry_32 : decode cX4_carry 32 = .ok (.iload_n 1, 1) := by decide +kernel
theorem dX4_carry_33 : decode cX4_carry 33 = .ok (.iaload, 1) := by decide +kernel
theorem dX4_carry_34 : decode cX4_carry 34 = .ok (.iload_n 2, 1) := by decide +kernel
theorem dX4_carry_35 : decode cX4_carry 35 = .ok (.if_icmp .ge 13, 3) := by decide +kernel
theorem dX4_carry_38 : decode cX4_carry 38 = .ok (.new 34, 3) := by decide +kernel
theorem dX4_carry_41 : decode cX4_carry 41 = .ok (.dup, 1) := by decide +kernel
theorem dX4_carry_42 : decode cX4_carry 42 = .ok (.ldc 137, 2) := by decide +kernel
theorem dX4_carry_44 : decode cX4_carry 44 = .ok (.invokespecial 38, 3) := by decide +kernel
theorem dX4_carry_47 : decode cX4_carry 47 = .ok (.athrow, 1) := by decide +kernel
theorem dX4_carry_48 : decode cX4_carry 48 = .ok (.aload_n 0, 1) := by decide +kernel
theorem dX4_carry_49 : decode cX4_carry 49 = .ok (.getfield 10, 3) := by decide +kernel
theorem dX4_carry_52 : decode cX4_carry 52 = .ok (.getfield 30, 3) := by decide +kernel
theorem dX4_carry_55 : decode cX4_carry 55 = .ok (.iload_n 1, 1) := by decide +kernel
theorem dX4_carry_56 : decode cX4_carry 56 = .ok (.dup2, 1) := by decide +kernel
theorem dX4_carry_57 : decode cX4_carry 57 = .ok (.iaload, 1) := by decide +kernel
theorem dX4_carry_58 : decode cX4_carry 58 = .ok (.iload_n 2, 1) := by decide +kernel
theorem dX4_carry_59 : decode cX4_carry 59 = .ok (.isub, 1) := by decide +kernel
theorem dX4_carry_60 : decode cX4_carry 60 = .ok (.iastore, 1) := by decide +kernel
theorem dX4_carry_61 : decode cX4_carry 61 = .ok (.aload_n 0, 1) := by decide +kernel
theorem dX4_carry_62 : decode cX4_carry 62 = .ok (.getfield 10, 3) := by decide +kernel
theorem dX4_carry_65 : decode cX4_carry 65 = .ok (.dup, 1) := by decide +kernel
theorem dX4_carry_66 : decode cX4_carry 66 = .ok (.getfield 139, 3) := by decide +kernel
theorem dX4_carry_69 : decode cX4_carry 69 = .ok (.iload_n 2, 1) := by decide +kernel
theorem dX4_carry_70 : decode cX4_carry 70 = .ok (.iadd, 1) := by decide +kernel
theorem dX4_carry_71 : decode cX4_carry 71 = .ok (.putfield 139, 3) := by decide +kernel
theorem dX4_carry_74 : decode cX4_carry 74 = .ok (.aload_n 0, 1) := by decide +kernel
theorem dX4_carry_75 : decode cX4_carry 75 = .ok (.getfield 10, 3) := by decide +kernel
theorem dX4_carry_78 : decode cX4_carry 78 = .ok (.getfield 30, 3) := by decide +kernel
theorem dX4_carry_81 : decode cX4_carry 81 = .ok (.iload_n 1, 1) := by decide +kernel
theorem dX4_carry_82 : decode cX4_carry 82 = .ok (.iaload, 1) := by decide +kernel
theorem dX4_carry_83 : decode cX4_carry 83 = .ok (.ireturn, 1) := by decide +kernel
theorem dX4_told_0 : decode cX4_told 0 = .ok (.aload_n 0, 1) := by decide +kernel
theorem dX4_told_1 : decode cX4_told 1 = .ok (.iload_n 1, 1) := by decide +kernel
theorem dX4_told_2 : decode cX4_told 2 = .ok (.invokevirtual 123, 3) := by decide +kernel
theorem dX4_told_5 : decode cX4_told 5 = .ok (.iload_n 2, 1) := by decide +kernel
theorem dX4_told_6 : decode cX4_told 6 = .ok (.iconst 0, 1) := by decide +kernel
theorem dX4_told_7 : decode cX4_told 7 = .ok (.bipush 6, 2) := by decide +kernel
theorem dX4_told_9 : decode cX4_told 9 = .ok (.invokestatic 142, 3) := by decide +kernel
theorem dX4_told_12 : decode cX4_told 12 = .ok (.aload_n 0, 1) := by decide +kernel
theorem dX4_told_13 : decode cX4_told 13 = .ok (.getfield 10, 3) := by decide +kernel
theorem dX4_told_16 : decode cX4_told 16 = .ok (.getfield 114, 3) := by decide +kernel
theorem dX4_told_19 : decode cX4_told 19 = .ok (.iload_n 1, 1) := by decide +kernel
theorem dX4_told_20 : decode cX4_told 20 = .ok (.aaload, 1) := by decide +kernel
theorem dX4_told_21 : decode cX4_told 21 = .ok (.iload_n 2, 1) := by decide +kernel
theorem dX4_told_22 : decode cX4_told 22 = .ok (.invokevirtual 145, 3) := by decide +kernel
theorem dX4_told_25 : decode cX4_told 25 = .ok (.ireturn, 1) := by decide +kernel
theorem dX4_about_0 : decode cX4_about 0 = .ok (.iload_n 1, 1) := by decide +kernel
theorem dX4_about_1 : decode cX4_about 1 = .ok (.ifCond .lt 14, 3) := by decide +kernel
theorem dX4_about_4 : decode cX4_about 4 = .ok (.iload_n 1, 1) := by decide +kernel
theorem dX4_about_5 : decode cX4_about 5 = .ok (.aload_n 0, 1) := by decide +kernel
theorem dX4_about_6 : decode cX4_about 6 = .ok (.getfield 10, 3) := by decide +kernel
theorem dX4_about_9 : decode cX4_about 9 = .ok (.getfield 92, 3) := by decide +kernel
theorem dX4_about_12 : decode cX4_about 12 = .ok (.if_icmp .lt 13, 3) := by decide +kernel
theorem dX4_about_15 : decode cX4_about 15 = .ok (.new 78, 3) := by decide +kernel
theorem dX4_about_18 : decode cX4_about 18 = .ok (.dup, 1) := by decide +kernel
theorem dX4_about_19 : decode cX4_about 19 = .ok (.ldc 149, 2) := by decide +kernel
theorem dX4_about_21 : decode cX4_about 21 = .ok (.invokespecial 82, 3) := by decide +kernel
theorem dX4_about_24 : decode cX4_about 24 = .ok (.athrow, 1) := by decide +kernel
theorem dX4_about_25 : decode cX4_about 25 = .ok (.iload_n 2, 1) := by decide +kernel
theorem dX4_about_26 : decode cX4_about 26 = .ok (.iconst 0, 1) := by decide +kernel
theorem dX4_about_27 : decode cX4_about 27 = .ok (.iconst 4, 1) := by decide +kernel
theorem dX4_about_28 : decode cX4_about 28 = .ok (.invokestatic 142, 3) := by decide +kernel
theorem dX4_about_31 : decode cX4_about 31 = .ok (.aload_n 0, 1) := by decide +kernel
theorem dX4_about_32 : decode cX4_about 32 = .ok (.getfield 10, 3) := by decide +kernel
theorem dX4_about_35 : decode cX4_about 35 = .ok (.getfield 97, 3) := by decide +kernel
theorem dX4_about_38 : decode cX4_about 38 = .ok (.iload_n 1, 1) := by decide +kernel
theorem dX4_about_39 : decode cX4_about 39 = .ok (.aaload, 1) := by decide +kernel
theorem dX4_about_40 : decode cX4_about 40 = .ok (.iload_n 2, 1) := by decide +kernel
theorem dX4_about_41 : decode cX4_about 41 = .ok (.aload_n 0, 1) := by decide +kernel
theorem dX4_about_42 : decode cX4_about 42 = .ok (.getfield 10, 3) := by decide +kernel
theorem dX4_about_45 : decode cX4_about 45 = .ok (.invokevirtual 151, 3) := by decide +kernel
theorem dX4_about_48 : decode cX4_about 48 = .ok (.invokevirtual 155, 3) := by decide +kernel
theorem dX4_about_51 : decode cX4_about 51 = .ok (.ireturn, 1) := by decide +kernel
theorem dX4_light_0 : decode cX4_light 0 = .ok (.aload_n 0, 1) := by decide +kernel
theorem dX4_light_1 : decode cX4_light 1 = .ok (.iload_n 1, 1) := by decide +kernel
theorem dX4_light_2 : decode cX4_light 2 = .ok (.invokevirtual 75, 3) := by decide +kernel
theorem dX4_light_5 : decode cX4_light 5 = .ok (.iload_n 2, 1) := by decide +kernel
theorem dX4_light_6 : decode cX4_light 6 = .ok (.iconst 0, 1) := by decide +kernel
theorem dX4_light_7 : decode cX4_light 7 = .ok (.iconst 3, 1) := by decide +kernel
theorem dX4_light_8 : decode cX4_light 8 = .ok (.invokestatic 142, 3) := by decide +kernel
theorem dX4_light_11 : decode cX4_light 11 = .ok (.aload_n 0, 1) := by decide +kernel
theorem dX4_light_12 : decode cX4_light 12 = .ok (.getfield 10, 3) := by decide +kernel
theorem dX4_light_15 : decode cX4_light 15 = .ok (.aload_n 0, 1) := by decide +kernel
theorem dX4_light_16 : decode cX4_light 16 = .ok (.getfield 10, 3) := by decide +kernel
theorem dX4_light_19 : decode cX4_light 19 = .ok (.getfield 66, 3) := by decide +kernel
theorem dX4_light_22 : decode cX4_light 22 = .ok (.iload_n 1, 1) := by decide +kernel
theorem dX4_light_23 : decode cX4_light 23 = .ok (.aaload, 1) := by decide +kernel
theorem dX4_light_24 : decode cX4_light 24 = .ok (.iload_n 2, 1) := by decide +kernel
theorem dX4_light_25 : decode cX4_light 25 = .ok (.invokevirtual 158, 3) := by decide +kernel
theorem dX4_light_28 : decode cX4_light 28 = .ok (.ireturn, 1) := by decide +kernel
theorem dX4_code_0 : decode cX4_code 0 = .ok (.iload_n 1, 1) := by decide +kernel
theorem dX4_code_1 : decode cX4_code 1 = .ok (.invokestatic 42, 3) := by decide +kernel
theorem dX4_code_4 : decode cX4_code 4 = .ok (.iload_n 2, 1) := by decide +kernel
theorem dX4_code_5 : decode cX4_code 5 = .ok (.iconst 0, 1) := by decide +kernel
theorem dX4_code_6 : decode cX4_code 6 = .ok (.iconst 3, 1) := by decide +kernel
theorem dX4_code_7 : decode cX4_code 7 = .ok (.invokestatic 142, 3) := by decide +kernel
theorem dX4_code_10 : decode cX4_code 10 = .ok (.aload_n 0, 1) := by decide +kernel
theorem dX4_code_11 : decode cX4_code 11 = .ok (.getfield 10, 3) := by decide +kernel
theorem dX4_code_14 : decode cX4_code 14 = .ok (.iload_n 1, 1) := by decide +kernel
theorem dX4_code_15 : decode cX4_code 15 = .ok (.iload_n 2, 1) := by decide +kernel
theorem dX4_code_16 : decode cX4_code 16 = .ok (.invokevirtual 162, 3) := by decide +kernel
theorem dX4_code_19 : decode cX4_code 19 = .ok (.ireturn, 1) := by decide +kernel
end
section
theorem dX4_place_0 : decode cX4_place 0 = .ok (.iload_n 1, 1) := by decide +kernel
theorem dX4_place_1 : decode cX4_place 1 = .ok (.invokestatic 19, 3) := by decide +kernel
theorem dX4_place_4 : decode cX4_place 4 = .ok (.iload_n 2, 1) := by decide +kernel
theorem dX4_place_5 : decode cX4_place 5 = .ok (.iconst 0, 1) := by decide +kernel
theorem dX4_place_6 : decode cX4_place 6 = .ok (.iconst 4, 1) := by decide +kernel
theorem dX4_place_7 : decode cX4_place 7 = .ok (.invokestatic 142, 3) := by decide +kernel
theorem dX4_place_10 : decode cX4_place 10 = .ok (.aload_n 0, 1) := by decide +kernel
theorem dX4_place_11 : decode cX4_place 11 = .ok (.getfield 10, 3) := by decide +kernel
theorem dX4_place_14 : decode cX4_place 14 = .ok (.iload_n 1, 1) := by decide +kernel
theorem dX4_place_15 : decode cX4_place 15 = .ok (.iload_n 2, 1) := by decide +kernel
theorem dX4_place_16 : decode cX4_place 16 = .ok (.invokevirtual 165, 3) := by decide +kernel
theorem dX4_place_19 : decode cX4_place 19 = .ok (.ireturn, 1) := by decide +kernel
theorem dX4_moon_0 : decode cX4_moon 0 = .ok (.iload_n 1, 1) := by decide +kernel
theorem dX4_moon_1 : decode cX4_moon 1 = .ok (.ifCond .lt 10, 3) := by decide +kernel
theorem dX4_moon_4 : decode cX4_moon 4 = .ok (.iload_n 1, 1) := by decide +kernel
theorem dX4_moon_5 : decode cX4_moon 5 = .ok (.sipush 999, 3) := by decide +kernel
theorem dX4_moon_8 : decode cX4_moon 8 = .ok (.if_icmp .le 13, 3) := by decide +kernel
theorem dX4_moon_11 : decode cX4_moon 11 = .ok (.new 23, 3) := by decide +kernel
theorem dX4_moon_14 : decode cX4_moon 14 = .ok (.dup, 1) := by decide +kernel
theorem dX4_moon_15 : decode cX4_moon 15 = .ok (.ldc 168, 2) := by decide +kernel
theorem dX4_moon_17 : decode cX4_moon 17 = .ok (.invokespecial 27, 3) := by decide +kernel
theorem dX4_moon_20 : decode cX4_moon 20 = .ok (.athrow, 1) := by decide +kernel
theorem dX4_moon_21 : decode cX4_moon 21 = .ok (.iload_n 1, 1) := by decide +kernel
theorem dX4_moon_22 : decode cX4_moon 22 = .ok (.invokestatic 170, 3) := by decide +kernel
theorem dX4_moon_25 : decode cX4_moon 25 = .ok (.ireturn, 1) := by decide +kernel
theorem dX4_count_0 : decode cX4_count 0 = .ok (.iload_n 1, 1) := by decide +kernel
theorem dX4_count_1 : decode cX4_count 1 = .ok (.iconst 0, 1) := by decide +kernel
theorem dX4_count_2 : decode cX4_count 2 = .ok (.bipush 10, 2) := by decide +kernel
theorem dX4_count_4 : decode cX4_count 4 = .ok (.invokestatic 142, 3) := by decide +kernel
theorem dX4_count_7 : decode cX4_count 7 = .ok (.aload_n 0, 1) := by decide +kernel
theorem dX4_count_8 : decode cX4_count 8 = .ok (.getfield 10, 3) := by decide +kernel
theorem dX4_count_11 : decode cX4_count 11 = .ok (.iload_n 1, 1) := by decide +kernel
theorem dX4_count_12 : decode cX4_count 12 = .ok (.invokevirtual 173, 3) := by decide +kernel
theorem dX4_count_15 : decode cX4_count 15 = .ok (.ireturn, 1) := by decide +kernel
theorem dX4_pass_0 : decode cX4_pass 0 = .ok (.iload_n 1, 1) := by decide +kernel
theorem dX4_pass_1 : decode cX4_pass 1 = .ok (.invokestatic 176, 3) := by decide +kernel
theorem dX4_pass_4 : decode cX4_pass 4 = .ok (.aload_n 0, 1) := by decide +kernel
theorem dX4_pass_5 : decode cX4_pass 5 = .ok (.getfield 10, 3) := by decide +kernel
theorem dX4_pass_8 : decode cX4_pass 8 = .ok (.invokevirtual 179, 3) := by decide +kernel
theorem dX4_pass_11 : decode cX4_pass 11 = .ok (.istore_n 2, 1) := by decide +kernel
theorem dX4_pass_12 : decode cX4_pass 12 = .ok (.aload_n 0, 1) := by decide +kernel
theorem dX4_pass_13 : decode cX4_pass 13 = .ok (.getfield 10, 3) := by decide +kernel
theorem dX4_pass_16 : decode cX4_pass 16 = .ok (.iload_n 1, 1) := by decide +kernel
theorem dX4_pass_17 : decode cX4_pass 17 = .ok (.invokevirtual 182, 3) := by decide +kernel
theorem dX4_pass_20 : decode cX4_pass 20 = .ok (.aload_n 0, 1) := by decide +kernel
theorem dX4_pass_21 : decode cX4_pass 21 = .ok (.getfield 10, 3) := by decide +kernel
theorem dX4_pass_24 : decode cX4_pass 24 = .ok (.invokevirtual 179, 3) := by decide +kernel
theorem dX4_pass_27 : decode cX4_pass 27 = .ok (.iload_n 2, 1) := by decide +kernel
theorem dX4_pass_28 : decode cX4_pass 28 = .ok (.isub, 1) := by decide +kernel
theorem dX4_pass_29 : decode cX4_pass 29 = .ok (.ireturn, 1) := by decide +kernel
theorem dX4_until_0 : decode cX4_until 0 = .ok (.aload_n 0, 1) := by decide +kernel
theorem dX4_until_1 : decode cX4_until 1 = .ok (.iload_n 1, 1) := by decide +kernel
theorem dX4_until_2 : decode cX4_until 2 = .ok (.invokevirtual 123, 3) := by decide +kernel
theorem dX4_until_5 : decode cX4_until 5 = .ok (.aload_n 0, 1) := by decide +kernel
theorem dX4_until_6 : decode cX4_until 6 = .ok (.getfield 16, 3) := by decide +kernel
theorem dX4_until_9 : decode cX4_until 9 = .ok (.aload_n 0, 1) := by decide +kernel
theorem dX4_until_10 : decode cX4_until 10 = .ok (.getfield 10, 3) := by decide +kernel
theorem dX4_until_13 : decode cX4_until 13 = .ok (.invokevirtual 185, 3) := by decide +kernel
theorem dX4_until_16 : decode cX4_until 16 = .ok (.aload_n 0, 1) := by decide +kernel
theorem dX4_until_17 : decode cX4_until 17 = .ok (.getfield 16, 3) := by decide +kernel
theorem dX4_until_20 : decode cX4_until 20 = .ok (.getfield 114, 3) := by decide +kernel
theorem dX4_until_23 : decode cX4_until 23 = .ok (.iload_n 1, 1) := by decide +kernel
theorem dX4_until_24 : decode cX4_until 24 = .ok (.aaload, 1) := by decide +kernel
theorem dX4_until_25 : decode cX4_until 25 = .ok (.astore_n 2, 1) := by decide +kernel
theorem dX4_until_26 : decode cX4_until 26 = .ok (.iconst 0, 1) := by decide +kernel
theorem dX4_until_27 : decode cX4_until 27 = .ok (.istore_n 3, 1) := by decide +kernel
theorem dX4_until_28 : decode cX4_until 28 = .ok (.iload_n 3, 1) := by decide +kernel
theorem dX4_until_29 : decode cX4_until 29 = .ok (.bipush 120, 2) := by decide +kernel
theorem dX4_until_31 : decode cX4_until 31 = .ok (.if_icmp .ge 23, 3) := by decide +kernel
theorem dX4_until_34 : decode cX4_until 34 = .ok (.aload_n 2, 1) := by decide +kernel
theorem dX4_until_35 : decode cX4_until 35 = .ok (.getfield 189, 3) := by decide +kernel
theorem dX4_until_38 : decode cX4_until 38 = .ok (.ifCond .ne 16, 3) := by decide +kernel
theorem dX4_until_41 : decode cX4_until 41 = .ok (.aload_n 0, 1) := by decide +kernel
theorem dX4_until_42 : decode cX4_until 42 = .ok (.getfield 16, 3) := by decide +kernel
theorem dX4_until_45 : decode cX4_until 45 = .ok (.invokevirtual 192, 3) := by decide +kernel
theorem dX4_until_48 : decode cX4_until 48 = .ok (.iinc 3 1, 3) := by decide +kernel
theorem dX4_until_51 : decode cX4_until 51 = .ok (.goto (-23), 3) := by decide +kernel
theorem dX4_until_54 : decode cX4_until 54 = .ok (.aload_n 2, 1) := by decide +kernel
theorem dX4_until_55 : decode cX4_until 55 = .ok (.getfield 189, 3) := by decide +kernel
theorem dX4_until_58 : decode cX4_until 58 = .ok (.iconst 1, 1) := by decide +kernel
theorem dX4_until_59 : decode cX4_until 59 = .ok (.if_icmp .ne 7, 3) := by decide +kernel
theorem dX4_until_62 : decode cX4_until 62 = .ok (.iload_n 3, 1) := by decide +kernel
theorem dX4_until_63 : decode cX4_until 63 = .ok (.goto 4, 3) := by decide +kernel
theorem dX4_until_66 : decode cX4_until 66 = .ok (.iconst (-1), 1) := by decide +kernel
theorem dX4_until_67 : decode cX4_until 67 = .ok (.ireturn, 1) := by decide +kernel
theorem dX4_foresee_0 : decode cX4_foresee 0 = .ok (.iload_n 1, 1) := by decide +kernel
theorem dX4_foresee_1 : decode cX4_foresee 1 = .ok (.invokestatic 176, 3) := by decide +kernel
theorem dX4_foresee_4 : decode cX4_foresee 4 = .ok (.iload_n 2, 1) := by decide +kernel
theorem dX4_foresee_5 : decode cX4_foresee 5 = .ok (.iconst 4, 1) := by decide +kernel
theorem dX4_foresee_6 : decode cX4_foresee 6 = .ok (.bipush 10, 2) := by decide +kernel
theorem dX4_foresee_8 : decode cX4_foresee 8 = .ok (.invokestatic 142, 3) := by decide +kernel
theorem dX4_foresee_11 : decode cX4_foresee 11 = .ok (.aload_n 0, 1) := by decide +kernel
theorem dX4_foresee_12 : decode cX4_foresee 12 = .ok (.getfield 16, 3) := by decide +kernel
theorem dX4_foresee_15 : decode cX4_foresee 15 = .ok (.aload_n 0, 1) := by decide +kernel
theorem dX4_foresee_16 : decode cX4_foresee 16 = .ok (.getfield 10, 3) := by decide +kernel
theorem dX4_foresee_19 : decode cX4_foresee 19 = .ok (.invokevirtual 185, 3) := by decide +kernel
theorem dX4_foresee_22 : decode cX4_foresee 22 = .ok (.aload_n 0, 1) := by decide +kernel
theorem dX4_foresee_23 : decode cX4_foresee 23 = .ok (.getfield 16, 3) := by decide +kernel
theorem dX4_foresee_26 : decode cX4_foresee 26 = .ok (.iload_n 1, 1) := by decide +kernel
theorem dX4_foresee_27 : decode cX4_foresee 27 = .ok (.invokevirtual 182, 3) := by decide +kernel
theorem dX4_foresee_30 : decode cX4_foresee 30 = .ok (.aload_n 0, 1) := by decide +kernel
theorem dX4_foresee_31 : decode cX4_foresee 31 = .ok (.getfield 16, 3) := by decide +kernel
theorem dX4_foresee_34 : decode cX4_foresee 34 = .ok (.iload_n 2, 1) := by decide +kernel
theorem dX4_foresee_35 : decode cX4_foresee 35 = .ok (.invokevirtual 173, 3) := by decide +kernel
theorem dX4_foresee_38 : decode cX4_foresee 38 = .ok (.ireturn, 1) := by decide +kernel
theorem dX4_mean_0 : decode cX4_mean 0 = .ok (.aload_n 0, 1) := by decide +kernel
theorem dX4_mean_1 : decode cX4_mean 1 = .ok (.getfield 10, 3) := by decide +kernel
theorem dX4_mean_4 : decode cX4_mean 4 = .ok (.iconst 0, 1) := by decide +kernel
theorem dX4_mean_5 : decode cX4_mean 5 = .ok (.invokevirtual 201, 3) := by decide +kernel
theorem dX4_mean_8 : decode cX4_mean 8 = .ok (.istore_n 1, 1) := by decide +kernel
theorem dX4_mean_9 : decode cX4_mean 9 = .ok (.iload_n 1, 1) := by decide +kernel
theorem dX4_mean_10 : decode cX4_mean 10 = .ok (.ifCond .ne 5, 3) := by decide +kernel
theorem dX4_mean_13 : decode cX4_mean 13 = .ok (.dconst 0, 1) := by decide +kernel
theorem dX4_mean_14 : decode cX4_mean 14 = .ok (.dreturn, 1) := by decide +kernel
theorem dX4_mean_15 : decode cX4_mean 15 = .ok (.aload_n 0, 1) := by decide +kernel
theorem dX4_mean_16 : decode cX4_mean 16 = .ok (.getfield 10, 3) := by decide +kernel
theorem dX4_mean_19 : decode cX4_mean 19 = .ok (.invokevirtual 204, 3) := by decide +kernel
theorem dX4_mean_22 : decode cX4_mean 22 = .ok (.i2d, 1) := by decide +kernel
theorem dX4_mean_23 : decode cX4_mean 23 = .ok (.iload_n 1, 1) := by decide +kernel
theorem dX4_mean_24 : decode cX4_mean 24 = .ok (.i2d, 1) := by decide +kernel
theorem dX4_mean_25 : decode cX4_mean 25 = .ok (.ddiv, 1) := by decide +kernel
theorem dX4_mean_26 : decode cX4_mean 26 = .ok (.dreturn, 1) := by decide +kernel
theorem dX4_digest_0 : decode cX4_digest 0 = .ok (.ldc2_w 207, 3) := by decide +kernel
theorem dX4_digest_3 : decode cX4_digest 3 = .ok (.lstore_n 1, 1) := by decide +kernel
theorem dX4_digest_4 : decode cX4_digest 4 = .ok (.iconst 0, 1) := by decide +kernel
theorem dX4_digest_5 : decode cX4_digest 5 = .ok (.istore_n 3, 1) := by decide +kernel
theorem dX4_digest_6 : decode cX4_digest 6 = .ok (.iload_n 3, 1) := by decide +kernel
theorem dX4_digest_7 : decode cX4_digest 7 = .ok (.bipush 10, 2) := by decide +kernel
theorem dX4_digest_9 : decode cX4_digest 9 = .ok (.if_icmp .gt 22, 3) := by decide +kernel
theorem dX4_digest_12 : decode cX4_digest 12 = .ok (.lload_n 1, 1) := by decide +kernel
theorem dX4_digest_13 : decode cX4_digest 13 = .ok (.ldc2_w 209, 3) := by decide +kernel
theorem dX4_digest_16 : decode cX4_digest 16 = .ok (.lmul, 1) := by decide +kernel
theorem dX4_digest_17 : decode cX4_digest 17 = .ok (.aload_n 0, 1) := by decide +kernel
theorem dX4_digest_18 : decode cX4_digest 18 = .ok (.iload_n 3, 1) := by decide +kernel
theorem dX4_digest_19 : decode cX4_digest 19 = .ok (.invokevirtual 211, 3) := by decide +kernel
theorem dX4_digest_22 : decode cX4_digest 22 = .ok (.i2l, 1) := by decide +kernel
theorem dX4_digest_23 : decode cX4_digest 23 = .ok (.ladd, 1) := by decide +kernel
theorem dX4_digest_24 : decode cX4_digest 24 = .ok (.lstore_n 1, 1) := by decide +kernel
theorem dX4_digest_25 : decode cX4_digest 25 = .ok (.iinc 3 1, 3) := by decide +kernel
theorem dX4_digest_28 : decode cX4_digest 28 = .ok (.goto (-22), 3) := by decide +kernel
theorem dX4_digest_31 : decode cX4_digest 31 = .ok (.iconst 0, 1) := by decide +kernel
theorem dX4_digest_32 : decode cX4_digest 32 = .ok (.istore_n 3, 1) := by decide +kernel
theorem dX4_digest_33 : decode cX4_digest 33 = .ok (.iload_n 3, 1) := by decide +kernel
theorem dX4_digest_34 : decode cX4_digest 34 = .ok (.bipush 16, 2) := by decide +kernel
theorem dX4_digest_36 : decode cX4_digest 36 = .ok (.if_icmp .ge 39, 3) := by decide +kernel
theorem dX4_digest_39 : decode cX4_digest 39 = .ok (.iconst 0, 1) := by decide +kernel
theorem dX4_digest_40 : decode cX4_digest 40 = .ok (.istore 4, 2) := by decide +kernel
theorem dX4_digest_42 : decode cX4_digest 42 = .ok (.iload 4, 2) := by decide +kernel
theorem dX4_digest_44 : decode cX4_digest 44 = .ok (.iconst 4, 1) := by decide +kernel
theorem dX4_digest_45 : decode cX4_digest 45 = .ok (.if_icmp .gt 24, 3) := by decide +kernel
theorem dX4_digest_48 : decode cX4_digest 48 = .ok (.lload_n 1, 1) := by decide +kernel
theorem dX4_digest_49 : decode cX4_digest 49 = .ok (.ldc2_w 209, 3) := by decide +kernel
theorem dX4_digest_52 : decode cX4_digest 52 = .ok (.lmul, 1) := by decide +kernel
theorem dX4_digest_53 : decode cX4_digest 53 = .ok (.aload_n 0, 1) := by decide +kernel
theorem dX4_digest_54 : decode cX4_digest 54 = .ok (.iload_n 3, 1) := by decide +kernel
theorem dX4_digest_55 : decode cX4_digest 55 = .ok (.iload 4, 2) := by decide +kernel
theorem dX4_digest_57 : decode cX4_digest 57 = .ok (.invokevirtual 214, 3) := by decide +kernel
theorem dX4_digest_60 : decode cX4_digest 60 = .ok (.i2l, 1) := by decide +kernel
theorem dX4_digest_61 : decode cX4_digest 61 = .ok (.ladd, 1) := by decide +kernel
theorem dX4_digest_62 : decode cX4_digest 62 = .ok (.lstore_n 1, 1) := by decide +kernel
theorem dX4_digest_63 : decode cX4_digest 63 = .ok (.iinc 4 1, 3) := by decide +kernel
theorem dX4_digest_66 : decode cX4_digest 66 = .ok (.goto (-24), 3) := by decide +kernel
theorem dX4_digest_69 : decode cX4_digest 69 = .ok (.iinc 3 1, 3) := by decide +kernel
theorem dX4_digest_72 : decode cX4_digest 72 = .ok (.goto (-39), 3) := by decide +kernel
theorem dX4_digest_75 : decode cX4_digest 75 = .ok (.iconst 1, 1) := by decide +kernel
theorem dX4_digest_76 : decode cX4_digest 76 = .ok (.istore_n 3, 1) := by decide +kernel
theorem dX4_digest_77 : decode cX4_digest 77 = .ok (.iload_n 3, 1) := by decide +kernel
theorem dX4_digest_78 : decode cX4_digest 78 = .ok (.bipush 7, 2) := by decide +kernel
theorem dX4_digest_80 : decode cX4_digest 80 = .ok (.if_icmp .gt 39, 3) := by decide +kernel
theorem dX4_digest_83 : decode cX4_digest 83 = .ok (.iconst 0, 1) := by decide +kernel
theorem dX4_digest_84 : decode cX4_digest 84 = .ok (.istore 4, 2) := by decide +kernel
theorem dX4_digest_86 : decode cX4_digest 86 = .ok (.iload 4, 2) := by decide +kernel
theorem dX4_digest_88 : decode cX4_digest 88 = .ok (.iconst 3, 1) := by decide +kernel
theorem dX4_digest_89 : decode cX4_digest 89 = .ok (.if_icmp .gt 24, 3) := by decide +kernel
theorem dX4_digest_92 : decode cX4_digest 92 = .ok (.lload_n 1, 1) := by decide +kernel
theorem dX4_digest_93 : decode cX4_digest 93 = .ok (.ldc2_w 209, 3) := by decide +kernel
theorem dX4_digest_96 : decode cX4_digest 96 = .ok (.lmul, 1) := by decide +kernel
theorem dX4_digest_97 : decode cX4_digest 97 = .ok (.aload_n 0, 1) := by decide +kernel
theorem dX4_digest_98 : decode cX4_digest 98 = .ok (.iload_n 3, 1) := by decide +kernel
theorem dX4_digest_99 : decode cX4_digest 99 = .ok (.iload 4, 2) := by decide +kernel
theorem dX4_digest_101 : decode cX4_digest 101 = .ok (.invokevirtual 216, 3) := by decide +kernel
theorem dX4_digest_104 : decode cX4_digest 104 = .ok (.i2l, 1) := by decide +kernel
theorem dX4_digest_105 : decode cX4_digest 105 = .ok (.ladd, 1) := by decide +kernel
theorem dX4_digest_106 : decode cX4_digest 106 = .ok (.lstore_n 1, 1) := by decide +kernel
theorem dX4_digest_107 : decode cX4_digest 107 = .ok (.iinc 4 1, 3) := by decide +kernel
theorem dX4_digest_110 : decode cX4_digest 110 = .ok (.goto (-24), 3) := by decide +kernel
theorem dX4_digest_113 : decode cX4_digest 113 = .ok (.iinc 3 1, 3) := by decide +kernel
theorem dX4_digest_116 : decode cX4_digest 116 = .ok (.goto (-39), 3) := by decide +kernel
theorem dX4_digest_119 : decode cX4_digest 119 = .ok (.aload_n 0, 1) := by decide +kernel
theorem dX4_digest_120 : decode cX4_digest 120 = .ok (.aload_n 0, 1) := by decide +kernel
theorem dX4_digest_121 : decode cX4_digest 121 = .ok (.aload_n 0, 1) := by decide +kernel
theorem dX4_digest_122 : decode cX4_digest 122 = .ok (.lload_n 1, 1) := by decide +kernel
theorem dX4_digest_123 : decode cX4_digest 123 = .ok (.invokevirtual 219, 3) := by decide +kernel
theorem dX4_digest_126 : decode cX4_digest 126 = .ok (.invokevirtual 223, 3) := by decide +kernel
theorem dX4_digest_129 : decode cX4_digest 129 = .ok (.invokevirtual 226, 3) := by decide +kernel
theorem dX4_digest_132 : decode cX4_digest 132 = .ok (.lreturn, 1) := by decide +kernel
theorem dX4_digestOfLanterns_0 : decode cX4_digestOfLanterns 0 = .ok (.lload_n 1, 1) := by decide +kernel
theorem dX4_digestOfLanterns_1 : decode cX4_digestOfLanterns 1 = .ok (.lstore_n 3, 1) := by decide +kernel
theorem dX4_digestOfLanterns_2 : decode cX4_digestOfLanterns 2 = .ok (.iconst 0, 1) := by decide +kernel
theorem dX4_digestOfLanterns_3 : decode cX4_digestOfLanterns 3 = .ok (.istore 5, 2) := by decide +kernel
theorem dX4_digestOfLanterns_5 : decode cX4_digestOfLanterns 5 = .ok (.iload 5, 2) := by decide +kernel
theorem dX4_digestOfLanterns_7 : decode cX4_digestOfLanterns 7 = .ok (.aload_n 0, 1) := by decide +kernel
theorem dX4_digestOfLanterns_8 : decode cX4_digestOfLanterns 8 = .ok (.getfield 10, 3) := by decide +kernel
theorem dX4_digestOfLanterns_11 : decode cX4_digestOfLanterns 11 = .ok (.getfield 54, 3) := by decide +kernel
theorem dX4_digestOfLanterns_14 : decode cX4_digestOfLanterns 14 = .ok (.if_icmp .ge 80, 3) := by decide +kernel
theorem dX4_digestOfLanterns_17 : decode cX4_digestOfLanterns 17 = .ok (.iconst 0, 1) := by decide +kernel
theorem dX4_digestOfLanterns_18 : decode cX4_digestOfLanterns 18 = .ok (.istore 6, 2) := by decide +kernel
theorem dX4_digestOfLanterns_20 : decode cX4_digestOfLanterns 20 = .ok (.iload 6, 2) := by decide +kernel
theorem dX4_digestOfLanterns_22 : decode cX4_digestOfLanterns 22 = .ok (.iconst 3, 1) := by decide +kernel
theorem dX4_digestOfLanterns_23 : decode cX4_digestOfLanterns 23 = .ok (.if_icmp .gt 25, 3) := by decide +kernel
theorem dX4_digestOfLanterns_26 : decode cX4_digestOfLanterns 26 = .ok (.lload_n 3, 1) := by decide +kernel
theorem dX4_digestOfLanterns_27 : decode cX4_digestOfLanterns 27 = .ok (.ldc2_w 209, 3) := by decide +kernel
theorem dX4_digestOfLanterns_30 : decode cX4_digestOfLanterns 30 = .ok (.lmul, 1) := by decide +kernel
theorem dX4_digestOfLanterns_31 : decode cX4_digestOfLanterns 31 = .ok (.aload_n 0, 1) := by decide +kernel
theorem dX4_digestOfLanterns_32 : decode cX4_digestOfLanterns 32 = .ok (.iload 5, 2) := by decide +kernel
theorem dX4_digestOfLanterns_34 : decode cX4_digestOfLanterns 34 = .ok (.iload 6, 2) := by decide +kernel
theorem dX4_digestOfLanterns_36 : decode cX4_digestOfLanterns 36 = .ok (.invokevirtual 229, 3) := by decide +kernel
theorem dX4_digestOfLanterns_39 : decode cX4_digestOfLanterns 39 = .ok (.i2l, 1) := by decide +kernel
theorem dX4_digestOfLanterns_40 : decode cX4_digestOfLanterns 40 = .ok (.ladd, 1) := by decide +kernel
theorem dX4_digestOfLanterns_41 : decode cX4_digestOfLanterns 41 = .ok (.lstore_n 3, 1) := by decide +kernel
theorem dX4_digestOfLanterns_42 : decode cX4_digestOfLanterns 42 = .ok (.iinc 6 1, 3) := by decide +kernel
theorem dX4_digestOfLanterns_45 : decode cX4_digestOfLanterns 45 = .ok (.goto (-25), 3) := by decide +kernel
theorem dX4_digestOfLanterns_48 : decode cX4_digestOfLanterns 48 = .ok (.iconst 0, 1) := by decide +kernel
theorem dX4_digestOfLanterns_49 : decode cX4_digestOfLanterns 49 = .ok (.istore 6, 2) := by decide +kernel
theorem dX4_digestOfLanterns_51 : decode cX4_digestOfLanterns 51 = .ok (.iload 6, 2) := by decide +kernel
theorem dX4_digestOfLanterns_53 : decode cX4_digestOfLanterns 53 = .ok (.bipush 10, 2) := by decide +kernel
theorem dX4_digestOfLanterns_55 : decode cX4_digestOfLanterns 55 = .ok (.if_icmp .ge 33, 3) := by decide +kernel
theorem dX4_digestOfLanterns_58 : decode cX4_digestOfLanterns 58 = .ok (.lload_n 3, 1) := by decide +kernel
theorem dX4_digestOfLanterns_59 : decode cX4_digestOfLanterns 59 = .ok (.ldc2_w 209, 3) := by decide +kernel
theorem dX4_digestOfLanterns_62 : decode cX4_digestOfLanterns 62 = .ok (.lmul, 1) := by decide +kernel
theorem dX4_digestOfLanterns_63 : decode cX4_digestOfLanterns 63 = .ok (.aload_n 0, 1) := by decide +kernel
theorem dX4_digestOfLanterns_64 : decode cX4_digestOfLanterns 64 = .ok (.getfield 10, 3) := by decide +kernel
theorem dX4_digestOfLanterns_67 : decode cX4_digestOfLanterns 67 = .ok (.getfield 66, 3) := by decide +kernel
theorem dX4_digestOfLanterns_70 : decode cX4_digestOfLanterns 70 = .ok (.iload 5, 2) := by decide +kernel
theorem dX4_digestOfLanterns_72 : decode cX4_digestOfLanterns 72 = .ok (.aaload, 1) := by decide +kernel
theorem dX4_digestOfLanterns_73 : decode cX4_digestOfLanterns 73 = .ok (.getfield 85, 3) := by decide +kernel
theorem dX4_digestOfLanterns_76 : decode cX4_digestOfLanterns 76 = .ok (.iload 6, 2) := by decide +kernel
theorem dX4_digestOfLanterns_78 : decode cX4_digestOfLanterns 78 = .ok (.iaload, 1) := by decide +kernel
theorem dX4_digestOfLanterns_79 : decode cX4_digestOfLanterns 79 = .ok (.i2l, 1) := by decide +kernel
theorem dX4_digestOfLanterns_80 : decode cX4_digestOfLanterns 80 = .ok (.ladd, 1) := by decide +kernel
theorem dX4_digestOfLanterns_81 : decode cX4_digestOfLanterns 81 = .ok (.lstore_n 3, 1) := by decide +kernel
theorem dX4_digestOfLanterns_82 : decode cX4_digestOfLanterns 82 = .ok (.iinc 6 1, 3) := by decide +kernel
theorem dX4_digestOfLanterns_85 : decode cX4_digestOfLanterns 85 = .ok (.goto (-34), 3) := by decide +kernel
theorem dX4_digestOfLanterns_88 : decode cX4_digestOfLanterns 88 = .ok (.iinc 5 1, 3) := by decide +kernel
theorem dX4_digestOfLanterns_91 : decode cX4_digestOfLanterns 91 = .ok (.goto (-86), 3) := by decide +kernel
theorem dX4_digestOfLanterns_94 : decode cX4_digestOfLanterns 94 = .ok (.lload_n 3, 1) := by decide +kernel
theorem dX4_digestOfLanterns_95 : decode cX4_digestOfLanterns 95 = .ok (.lreturn, 1) := by decide +kernel
theorem dX4_digestOfWatchmen_0 : decode cX4_digestOfWatchmen 0 = .ok (.lload_n 1, 1) := by decide +kernel
theorem dX4_digestOfWatchmen_1 : decode cX4_digestOfWatchmen 1 = .ok (.lstore_n 3, 1) := by decide +kernel
theorem dX4_digestOfWatchmen_2 : decode cX4_digestOfWatchmen 2 = .ok (.iconst 0, 1) := by decide +kernel
theorem dX4_digestOfWatchmen_3 : decode cX4_digestOfWatchmen 3 = .ok (.istore 5, 2) := by decide +kernel
theorem dX4_digestOfWatchmen_5 : decode cX4_digestOfWatchmen 5 = .ok (.iload 5, 2) := by decide +kernel
theorem dX4_digestOfWatchmen_7 : decode cX4_digestOfWatchmen 7 = .ok (.aload_n 0, 1) := by decide +kernel
theorem dX4_digestOfWatchmen_8 : decode cX4_digestOfWatchmen 8 = .ok (.getfield 10, 3) := by decide +kernel
theorem dX4_digestOfWatchmen_11 : decode cX4_digestOfWatchmen 11 = .ok (.getfield 92, 3) := by decide +kernel
theorem dX4_digestOfWatchmen_14 : decode cX4_digestOfWatchmen 14 = .ok (.if_icmp .ge 40, 3) := by decide +kernel
theorem dX4_digestOfWatchmen_17 : decode cX4_digestOfWatchmen 17 = .ok (.iconst 0, 1) := by decide +kernel
theorem dX4_digestOfWatchmen_18 : decode cX4_digestOfWatchmen 18 = .ok (.istore 6, 2) := by decide +kernel
theorem dX4_digestOfWatchmen_20 : decode cX4_digestOfWatchmen 20 = .ok (.iload 6, 2) := by decide +kernel
theorem dX4_digestOfWatchmen_22 : decode cX4_digestOfWatchmen 22 = .ok (.iconst 4, 1) := by decide +kernel
theorem dX4_digestOfWatchmen_23 : decode cX4_digestOfWatchmen 23 = .ok (.if_icmp .gt 25, 3) := by decide +kernel
theorem dX4_digestOfWatchmen_26 : decode cX4_digestOfWatchmen 26 = .ok (.lload_n 3, 1) := by decide +kernel
theorem dX4_digestOfWatchmen_27 : decode cX4_digestOfWatchmen 27 = .ok (.ldc2_w 209, 3) := by decide +kernel
theorem dX4_digestOfWatchmen_30 : decode cX4_digestOfWatchmen 30 = .ok (.lmul, 1) := by decide +kernel
theorem dX4_digestOfWatchmen_31 : decode cX4_digestOfWatchmen 31 = .ok (.aload_n 0, 1) := by decide +kernel
theorem dX4_digestOfWatchmen_32 : decode cX4_digestOfWatchmen 32 = .ok (.iload 5, 2) := by decide +kernel
theorem dX4_digestOfWatchmen_34 : decode cX4_digestOfWatchmen 34 = .ok (.iload 6, 2) := by decide +kernel
theorem dX4_digestOfWatchmen_36 : decode cX4_digestOfWatchmen 36 = .ok (.invokevirtual 232, 3) := by decide +kernel
theorem dX4_digestOfWatchmen_39 : decode cX4_digestOfWatchmen 39 = .ok (.i2l, 1) := by decide +kernel
theorem dX4_digestOfWatchmen_40 : decode cX4_digestOfWatchmen 40 = .ok (.ladd, 1) := by decide +kernel
theorem dX4_digestOfWatchmen_41 : decode cX4_digestOfWatchmen 41 = .ok (.lstore_n 3, 1) := by decide +kernel
theorem dX4_digestOfWatchmen_42 : decode cX4_digestOfWatchmen 42 = .ok (.iinc 6 1, 3) := by decide +kernel
theorem dX4_digestOfWatchmen_45 : decode cX4_digestOfWatchmen 45 = .ok (.goto (-25), 3) := by decide +kernel
theorem dX4_digestOfWatchmen_48 : decode cX4_digestOfWatchmen 48 = .ok (.iinc 5 1, 3) := by decide +kernel
theorem dX4_digestOfWatchmen_51 : decode cX4_digestOfWatchmen 51 = .ok (.goto (-46), 3) := by decide +kernel
theorem dX4_digestOfWatchmen_54 : decode cX4_digestOfWatchmen 54 = .ok (.lload_n 3, 1) := by decide +kernel
theorem dX4_digestOfWatchmen_55 : decode cX4_digestOfWatchmen 55 = .ok (.lreturn, 1) := by decide +kernel
theorem dX4_digestOfBoats_0 : decode cX4_digestOfBoats 0 = .ok (.lload_n 1, 1) := by decide +kernel
theorem dX4_digestOfBoats_1 : decode cX4_digestOfBoats 1 = .ok (.lstore_n 3, 1) := by decide +kernel
theorem dX4_digestOfBoats_2 : decode cX4_digestOfBoats 2 = .ok (.iconst 0, 1) := by decide +kernel
theorem dX4_digestOfBoats_3 : decode cX4_digestOfBoats 3 = .ok (.istore 5, 2) := by decide +kernel
theorem dX4_digestOfBoats_5 : decode cX4_digestOfBoats 5 = .ok (.iload 5, 2) := by decide +kernel
theorem dX4_digestOfBoats_7 : decode cX4_digestOfBoats 7 = .ok (.aload_n 0, 1) := by decide +kernel
theorem dX4_digestOfBoats_8 : decode cX4_digestOfBoats 8 = .ok (.getfield 10, 3) := by decide +kernel
theorem dX4_digestOfBoats_11 : decode cX4_digestOfBoats 11 = .ok (.getfield 109, 3) := by decide +kernel
theorem dX4_digestOfBoats_14 : decode cX4_digestOfBoats 14 = .ok (.if_icmp .ge 41, 3) := by decide +kernel
theorem dX4_digestOfBoats_17 : decode cX4_digestOfBoats 17 = .ok (.iconst 0, 1) := by decide +kernel
theorem dX4_digestOfBoats_18 : decode cX4_digestOfBoats 18 = .ok (.istore 6, 2) := by decide +kernel
theorem dX4_digestOfBoats_20 : decode cX4_digestOfBoats 20 = .ok (.iload 6, 2) := by decide +kernel
theorem dX4_digestOfBoats_22 : decode cX4_digestOfBoats 22 = .ok (.bipush 6, 2) := by decide +kernel
theorem dX4_digestOfBoats_24 : decode cX4_digestOfBoats 24 = .ok (.if_icmp .gt 25, 3) := by decide +kernel
theorem dX4_digestOfBoats_27 : decode cX4_digestOfBoats 27 = .ok (.lload_n 3, 1) := by decide +kernel
theorem dX4_digestOfBoats_28 : decode cX4_digestOfBoats 28 = .ok (.ldc2_w 209, 3) := by decide +kernel
theorem dX4_digestOfBoats_31 : decode cX4_digestOfBoats 31 = .ok (.lmul, 1) := by decide +kernel
theorem dX4_digestOfBoats_32 : decode cX4_digestOfBoats 32 = .ok (.aload_n 0, 1) := by decide +kernel
theorem dX4_digestOfBoats_33 : decode cX4_digestOfBoats 33 = .ok (.iload 5, 2) := by decide +kernel
theorem dX4_digestOfBoats_35 : decode cX4_digestOfBoats 35 = .ok (.iload 6, 2) := by decide +kernel
theorem dX4_digestOfBoats_37 : decode cX4_digestOfBoats 37 = .ok (.invokevirtual 235, 3) := by decide +kernel
theorem dX4_digestOfBoats_40 : decode cX4_digestOfBoats 40 = .ok (.i2l, 1) := by decide +kernel
theorem dX4_digestOfBoats_41 : decode cX4_digestOfBoats 41 = .ok (.ladd, 1) := by decide +kernel
theorem dX4_digestOfBoats_42 : decode cX4_digestOfBoats 42 = .ok (.lstore_n 3, 1) := by decide +kernel
theorem dX4_digestOfBoats_43 : decode cX4_digestOfBoats 43 = .ok (.iinc 6 1, 3) := by decide +kernel
theorem dX4_digestOfBoats_46 : decode cX4_digestOfBoats 46 = .ok (.goto (-26), 3) := by decide +kernel
theorem dX4_digestOfBoats_49 : decode cX4_digestOfBoats 49 = .ok (.iinc 5 1, 3) := by decide +kernel
theorem dX4_digestOfBoats_52 : decode cX4_digestOfBoats 52 = .ok (.goto (-47), 3) := by decide +kernel
theorem dX4_digestOfBoats_55 : decode cX4_digestOfBoats 55 = .ok (.lload_n 3, 1) := by decide +kernel
theorem dX4_digestOfBoats_56 : decode cX4_digestOfBoats 56 = .ok (.lreturn, 1) := by decide +kernel
theorem dX4_requirePlace_0 : decode cX4_requirePlace 0 = .ok (.iload_n 0, 1) := by decide +kernel
theorem dX4_requirePlace_1 : decode cX4_requirePlace 1 = .ok (.ifCond .lt 9, 3) := by decide +kernel
theorem dX4_requirePlace_4 : decode cX4_requirePlace 4 = .ok (.iload_n 0, 1) := by decide +kernel
theorem dX4_requirePlace_5 : decode cX4_requirePlace 5 = .ok (.bipush 16, 2) := by decide +kernel
theorem dX4_requirePlace_7 : decode cX4_requirePlace 7 = .ok (.if_icmp .lt 13, 3) := by decide +kernel
theorem dX4_requirePlace_10 : decode cX4_requirePlace 10 = .ok (.new 78, 3) := by decide +kernel
theorem dX4_requirePlace_13 : decode cX4_requirePlace 13 = .ok (.dup, 1) := by decide +kernel
theorem dX4_requirePlace_14 : decode cX4_requirePlace 14 = .ok (.ldc 241, 2) := by decide +kernel
theorem dX4_requirePlace_16 : decode cX4_requirePlace 16 = .ok (.invokespecial 82, 3) := by decide +kernel
theorem dX4_requirePlace_19 : decode cX4_requirePlace 19 = .ok (.athrow, 1) := by decide +kernel
theorem dX4_requirePlace_20 : decode cX4_requirePlace 20 = .ok (.return_, 1) := by decide +kernel
theorem dX4_requirePlaceOrNone_0 : decode cX4_requirePlaceOrNone 0 = .ok (.iload_n 0, 1) := by decide +kernel
theorem dX4_requirePlaceOrNone_1 : decode cX4_requirePlaceOrNone 1 = .ok (.iconst (-1), 1) := by decide +kernel
theorem dX4_requirePlaceOrNone_2 : decode cX4_requirePlaceOrNone 2 = .ok (.if_icmp .lt 9, 3) := by decide +kernel
theorem dX4_requirePlaceOrNone_5 : decode cX4_requirePlaceOrNone 5 = .ok (.iload_n 0, 1) := by decide +kernel
theorem dX4_requirePlaceOrNone_6 : decode cX4_requirePlaceOrNone 6 = .ok (.bipush 16, 2) := by decide +kernel
theorem dX4_requirePlaceOrNone_8 : decode cX4_requirePlaceOrNone 8 = .ok (.if_icmp .lt 13, 3) := by decide +kernel
theorem dX4_requirePlaceOrNone_11 : decode cX4_requirePlaceOrNone 11 = .ok (.new 78, 3) := by decide +kernel
theorem dX4_requirePlaceOrNone_14 : decode cX4_requirePlaceOrNone 14 = .ok (.dup, 1) := by decide +kernel
theorem dX4_requirePlaceOrNone_15 : decode cX4_requirePlaceOrNone 15 = .ok (.ldc 243, 2) := by decide +kernel
theorem dX4_requirePlaceOrNone_17 : decode cX4_requirePlaceOrNone 17 = .ok (.invokespecial 82, 3) := by decide +kernel
theorem dX4_requirePlaceOrNone_20 : decode cX4_requirePlaceOrNone 20 = .ok (.athrow, 1) := by decide +kernel
theorem dX4_requirePlaceOrNone_21 : decode cX4_requirePlaceOrNone 21 = .ok (.return_, 1) := by decide +kernel
theorem dX4_requireCode_0 : decode cX4_requireCode 0 = .ok (.iload_n 0, 1) := by decide +kernel
theorem dX4_requireCode_1 : decode cX4_requireCode 1 = .ok (.iconst 1, 1) := by decide +kernel
theorem dX4_requireCode_2 : decode cX4_requireCode 2 = .ok (.if_icmp .lt 9, 3) := by decide +kernel
theorem dX4_requireCode_5 : decode cX4_requireCode 5 = .ok (.iload_n 0, 1) := by decide +kernel
theorem dX4_requireCode_6 : decode cX4_requireCode 6 = .ok (.bipush 7, 2) := by decide +kernel
theorem dX4_requireCode_8 : decode cX4_requireCode 8 = .ok (.if_icmp .le 13, 3) := by decide +kernel
theorem dX4_requireCode_11 : decode cX4_requireCode 11 = .ok (.new 78, 3) := by decide +kernel
theorem dX4_requireCode_14 : decode cX4_requireCode 14 = .ok (.dup, 1) := by decide +kernel
theorem dX4_requireCode_15 : decode cX4_requireCode 15 = .ok (.ldc 245, 2) := by decide +kernel
theorem dX4_requireCode_17 : decode cX4_requireCode 17 = .ok (.invokespecial 82, 3) := by decide +kernel
theorem dX4_requireCode_20 : decode cX4_requireCode 20 = .ok (.athrow, 1) := by decide +kernel
theorem dX4_requireCode_21 : decode cX4_requireCode 21 = .ok (.return_, 1) := by decide +kernel
theorem dX4_requireWhat_0 : decode cX4_requireWhat 0 = .ok (.iload_n 0, 1) := by decide +kernel
theorem dX4_requireWhat_1 : decode cX4_requireWhat 1 = .ok (.iload_n 1, 1) := by decide +kernel
theorem dX4_requireWhat_2 : decode cX4_requireWhat 2 = .ok (.if_icmp .lt 8, 3) := by decide +kernel
theorem dX4_requireWhat_5 : decode cX4_requireWhat 5 = .ok (.iload_n 0, 1) := by decide +kernel
theorem dX4_requireWhat_6 : decode cX4_requireWhat 6 = .ok (.iload_n 2, 1) := by decide +kernel
theorem dX4_requireWhat_7 : decode cX4_requireWhat 7 = .ok (.if_icmp .le 13, 3) := by decide +kernel
theorem dX4_requireWhat_10 : decode cX4_requireWhat 10 = .ok (.new 78, 3) := by decide +kernel
theorem dX4_requireWhat_13 : decode cX4_requireWhat 13 = .ok (.dup, 1) := by decide +kernel
theorem dX4_requireWhat_14 : decode cX4_requireWhat 14 = .ok (.ldc 247, 2) := by decide +kernel
theorem dX4_requireWhat_16 : decode cX4_requireWhat 16 = .ok (.invokespecial 82, 3) := by decide +kernel
theorem dX4_requireWhat_19 : decode cX4_requireWhat 19 = .ok (.athrow, 1) := by decide +kernel
theorem dX4_requireWhat_20 : decode cX4_requireWhat 20 = .ok (.return_, 1) := by decide +kernel
theorem dX4_requireHours_0 : decode cX4_requireHours 0 = .ok (.iload_n 0, 1) := by decide +kernel
theorem dX4_requireHours_1 : decode cX4_requireHours 1 = .ok (.iconst 1, 1) := by decide +kernel
theorem dX4_requireHours_2 : decode cX4_requireHours 2 = .ok (.if_icmp .lt 9, 3) := by decide +kernel
theorem dX4_requireHours_5 : decode cX4_requireHours 5 = .ok (.iload_n 0, 1) := by decide +kernel
theorem dX4_requireHours_6 : decode cX4_requireHours 6 = .ok (.bipush 60, 2) := by decide +kernel
theorem dX4_requireHours_8 : decode cX4_requireHours 8 = .ok (.if_icmp .le 13, 3) := by decide +kernel
theorem dX4_requireHours_11 : decode cX4_requireHours 11 = .ok (.new 23, 3) := by decide +kernel
theorem dX4_requireHours_14 : decode cX4_requireHours 14 = .ok (.dup, 1) := by decide +kernel
theorem dX4_requireHours_15 : decode cX4_requireHours 15 = .ok (.ldc 249, 2) := by decide +kernel
theorem dX4_requireHours_17 : decode cX4_requireHours 17 = .ok (.invokespecial 27, 3) := by decide +kernel
theorem dX4_requireHours_20 : decode cX4_requireHours 20 = .ok (.athrow, 1) := by decide +kernel
theorem dX4_requireHours_21 : decode cX4_requireHours 21 = .ok (.return_, 1) := by decide +kernel
theorem dX4_requireLantern_0 : decode cX4_requireLantern 0 = .ok (.iload_n 1, 1) := by decide +kernel
theorem dX4_requireLantern_1 : decode cX4_requireLantern 1 = .ok (.ifCond .lt 14, 3) := by decide +kernel
theorem dX4_requireLantern_4 : decode cX4_requireLantern 4 = .ok (.iload_n 1, 1) := by decide +kernel
theorem dX4_requireLantern_5 : decode cX4_requireLantern 5 = .ok (.aload_n 0, 1) := by decide +kernel
theorem dX4_requireLantern_6 : decode cX4_requireLantern 6 = .ok (.getfield 10, 3) := by decide +kernel
theorem dX4_requireLantern_9 : decode cX4_requireLantern 9 = .ok (.getfield 54, 3) := by decide +kernel
theorem dX4_requireLantern_12 : decode cX4_requireLantern 12 = .ok (.if_icmp .lt 13, 3) := by decide +kernel
theorem dX4_requireLantern_15 : decode cX4_requireLantern 15 = .ok (.new 78, 3) := by decide +kernel
theorem dX4_requireLantern_18 : decode cX4_requireLantern 18 = .ok (.dup, 1) := by decide +kernel
theorem dX4_requireLantern_19 : decode cX4_requireLantern 19 = .ok (.ldc 251, 2) := by decide +kernel
theorem dX4_requireLantern_21 : decode cX4_requireLantern 21 = .ok (.invokespecial 82, 3) := by decide +kernel
theorem dX4_requireLantern_24 : decode cX4_requireLantern 24 = .ok (.athrow, 1) := by decide +kernel
theorem dX4_requireLantern_25 : decode cX4_requireLantern 25 = .ok (.return_, 1) := by decide +kernel
theorem dX4_requireBoat_0 : decode cX4_requireBoat 0 = .ok (.iload_n 1, 1) := by decide +kernel
theorem dX4_requireBoat_1 : decode cX4_requireBoat 1 = .ok (.ifCond .lt 14, 3) := by decide +kernel
theorem dX4_requireBoat_4 : decode cX4_requireBoat 4 = .ok (.iload_n 1, 1) := by decide +kernel
theorem dX4_requireBoat_5 : decode cX4_requireBoat 5 = .ok (.aload_n 0, 1) := by decide +kernel
theorem dX4_requireBoat_6 : decode cX4_requireBoat 6 = .ok (.getfield 10, 3) := by decide +kernel
theorem dX4_requireBoat_9 : decode cX4_requireBoat 9 = .ok (.getfield 109, 3) := by decide +kernel
theorem dX4_requireBoat_12 : decode cX4_requireBoat 12 = .ok (.if_icmp .lt 13, 3) := by decide +kernel
theorem dX4_requireBoat_15 : decode cX4_requireBoat 15 = .ok (.new 78, 3) := by decide +kernel
theorem dX4_requireBoat_18 : decode cX4_requireBoat 18 = .ok (.dup, 1) := by decide +kernel
theorem dX4_requireBoat_19 : decode cX4_requireBoat 19 = .ok (.ldc 253, 2) := by decide +kernel
theorem dX4_requireBoat_21 : decode cX4_requireBoat 21 = .ok (.invokespecial 82, 3) := by decide +kernel
theorem dX4_requireBoat_24 : decode cX4_requireBoat 24 = .ok (.athrow, 1) := by decide +kernel
theorem dX4_requireBoat_25 : decode cX4_requireBoat 25 = .ok (.return_, 1) := by decide +kernel
theorem dX4_requireAtSea_0 : decode cX4_requireAtSea 0 = .ok (.aload_n 0, 1) := by decide +kernel
theorem dX4_requireAtSea_1 : decode cX4_requireAtSea 1 = .ok (.getfield 10, 3) := by decide +kernel
theorem dX4_requireAtSea_4 : decode cX4_requireAtSea 4 = .ok (.getfield 114, 3) := by decide +kernel
theorem dX4_requireAtSea_7 : decode cX4_requireAtSea 7 = .ok (.iload_n 1, 1) := by decide +kernel
theorem dX4_requireAtSea_8 : decode cX4_requireAtSea 8 = .ok (.aaload, 1) := by decide +kernel
theorem dX4_requireAtSea_9 : decode cX4_requireAtSea 9 = .ok (.getfield 189, 3) := by decide +kernel
theorem dX4_requireAtSea_12 : decode cX4_requireAtSea 12 = .ok (.ifCond .eq 13, 3) := by decide +kernel
theorem dX4_requireAtSea_15 : decode cX4_requireAtSea 15 = .ok (.new 34, 3) := by decide +kernel
theorem dX4_requireAtSea_18 : decode cX4_requireAtSea 18 = .ok (.dup, 1) := by decide +kernel
theorem dX4_requireAtSea_19 : decode cX4_requireAtSea 19 = .ok (.ldc 255, 2) := by decide +kernel
theorem dX4_requireAtSea_21 : decode cX4_requireAtSea 21 = .ok (.invokespecial 38, 3) := by decide +kernel
theorem dX4_requireAtSea_24 : decode cX4_requireAtSea 24 = .ok (.athrow, 1) := by decide +kernel
theorem dX4_requireAtSea_25 : decode cX4_requireAtSea 25 = .ok (.return_, 1) := by decide +kernel
theorem dX4_moonOf_0 : decode cX4_moonOf 0 = .ok (.iload_n 0, 1) := by decide +kernel
theorem dX4_moonOf_1 : decode cX4_moonOf 1 = .ok (.bipush 12, 2) := by decide +kernel
theorem dX4_moonOf_3 : decode cX4_moonOf 3 = .ok (.invokestatic 257, 3) := by decide +kernel
theorem dX4_moonOf_6 : decode cX4_moonOf 6 = .ok (.bipush 6, 2) := by decide +kernel
theorem dX4_moonOf_8 : decode cX4_moonOf 8 = .ok (.isub, 1) := by decide +kernel
theorem dX4_moonOf_9 : decode cX4_moonOf 9 = .ok (.istore_n 1, 1) := by decide +kernel
theorem dX4_moonOf_10 : decode cX4_moonOf 10 = .ok (.iload_n 1, 1) := by decide +kernel
theorem dX4_moonOf_11 : decode cX4_moonOf 11 = .ok (.ifCond .ge 8, 3) := by decide +kernel
theorem dX4_moonOf_14 : decode cX4_moonOf 14 = .ok (.iload_n 1, 1) := by decide +kernel
theorem dX4_moonOf_15 : decode cX4_moonOf 15 = .ok (.ineg, 1) := by decide +kernel
theorem dX4_moonOf_16 : decode cX4_moonOf 16 = .ok (.goto 4, 3) := by decide +kernel
theorem dX4_moonOf_19 : decode cX4_moonOf 19 = .ok (.iload_n 1, 1) := by decide +kernel
theorem dX4_moonOf_20 : decode cX4_moonOf 20 = .ok (.ireturn, 1) := by decide +kernel
theorem dX4_distance_0 : decode cX4_distance 0 = .ok (.iload_n 0, 1) := by decide +kernel
theorem dX4_distance_1 : decode cX4_distance 1 = .ok (.iload_n 1, 1) := by decide +kernel
theorem dX4_distance_2 : decode cX4_distance 2 = .ok (.if_icmp .ge 9, 3) := by decide +kernel
theorem dX4_distance_5 : decode cX4_distance 5 = .ok (.iload_n 1, 1) := by decide +kernel
theorem dX4_distance_6 : decode cX4_distance 6 = .ok (.iload_n 0, 1) := by decide +kernel
theorem dX4_distance_7 : decode cX4_distance 7 = .ok (.isub, 1) := by decide +kernel
theorem dX4_distance_8 : decode cX4_distance 8 = .ok (.goto 6, 3) := by decide +kernel
theorem dX4_distance_11 : decode cX4_distance 11 = .ok (.iload_n 0, 1) := by decide +kernel
theorem dX4_distance_12 : decode cX4_distance 12 = .ok (.iload_n 1, 1) := by decide +kernel
theorem dX4_distance_13 : decode cX4_distance 13 = .ok (.isub, 1) := by decide +kernel
theorem dX4_distance_14 : decode cX4_distance 14 = .ok (.ireturn, 1) := by decide +kernel
theorem dX5_init_0 : decode cX5_init 0 = .ok (.aload_n 0, 1) := by decide +kernel
theorem dX5_init_1 : decode cX5_init 1 = .ok (.invokespecial 1, 3) := by decide +kernel
theorem dX5_init_4 : decode cX5_init 4 = .ok (.aload_n 0, 1) := by decide +kernel
theorem dX5_init_5 : decode cX5_init 5 = .ok (.bipush 16, 2) := by decide +kernel
theorem dX5_init_7 : decode cX5_init 7 = .ok (.newarray .int, 2) := by decide +kernel
theorem dX5_init_9 : decode cX5_init 9 = .ok (.putfield 7, 3) := by decide +kernel
theorem dX5_init_12 : decode cX5_init 12 = .ok (.aload_n 0, 1) := by decide +kernel
theorem dX5_init_13 : decode cX5_init 13 = .ok (.bipush 16, 2) := by decide +kernel
theorem dX5_init_15 : decode cX5_init 15 = .ok (.newarray .int, 2) := by decide +kernel
theorem dX5_init_17 : decode cX5_init 17 = .ok (.putfield 13, 3) := by decide +kernel
theorem dX5_init_20 : decode cX5_init 20 = .ok (.aload_n 0, 1) := by decide +kernel
theorem dX5_init_21 : decode cX5_init 21 = .ok (.bipush 8, 2) := by decide +kernel
theorem dX5_init_23 : decode cX5_init 23 = .ok (.newarray .int, 2) := by decide +kernel
theorem dX5_init_25 : decode cX5_init 25 = .ok (.dup, 1) := by decide +kernel
theorem dX5_init_26 : decode cX5_init 26 = .ok (.iconst 0, 1) := by decide +kernel
theorem dX5_init_27 : decode cX5_init 27 = .ok (.iconst (-1), 1) := by decide +kernel
theorem dX5_init_28 : decode cX5_init 28 = .ok (.iastore, 1) := by decide +kernel
theorem dX5_init_29 : decode cX5_init 29 = .ok (.dup, 1) := by decide +kernel
theorem dX5_init_30 : decode cX5_init 30 = .ok (.iconst 1, 1) := by decide +kernel
theorem dX5_init_31 : decode cX5_init 31 = .ok (.iconst (-1), 1) := by decide +kernel
theorem dX5_init_32 : decode cX5_init 32 = .ok (.iastore, 1) := by decide +kernel
theorem dX5_init_33 : decode cX5_init 33 = .ok (.dup, 1) := by decide +kernel
theorem dX5_init_34 : decode cX5_init 34 = .ok (.iconst 2, 1) := by decide +kernel
theorem dX5_init_35 : decode cX5_init 35 = .ok (.iconst (-1), 1) := by decide +kernel
theorem dX5_init_36 : decode cX5_init 36 = .ok (.iastore, 1) := by decide +kernel
theorem dX5_init_37 : decode cX5_init 37 = .ok (.dup, 1) := by decide +kernel
theorem dX5_init_38 : decode cX5_init 38 = .ok (.iconst 3, 1) := by decide +kernel
theorem dX5_init_39 : decode cX5_init 39 = .ok (.iconst (-1), 1) := by decide +kernel
theorem dX5_init_40 : decode cX5_init 40 = .ok (.iastore, 1) := by decide +kernel
theorem dX5_init_41 : decode cX5_init 41 = .ok (.dup, 1) := by decide +kernel
theorem dX5_init_42 : decode cX5_init 42 = .ok (.iconst 4, 1) := by decide +kernel
theorem dX5_init_43 : decode cX5_init 43 = .ok (.iconst (-1), 1) := by decide +kernel
theorem dX5_init_44 : decode cX5_init 44 = .ok (.iastore, 1) := by decide +kernel
theorem dX5_init_45 : decode cX5_init 45 = .ok (.dup, 1) := by decide +kernel
theorem dX5_init_46 : decode cX5_init 46 = .ok (.iconst 5, 1) := by decide +kernel
theorem dX5_init_47 : decode cX5_init 47 = .ok (.iconst (-1), 1) := by decide +kernel
theorem dX5_init_48 : decode cX5_init 48 = .ok (.iastore, 1) := by decide +kernel
theorem dX5_init_49 : decode cX5_init 49 = .ok (.dup, 1) := by decide +kernel
theorem dX5_init_50 : decode cX5_init 50 = .ok (.bipush 6, 2) := by decide +kernel
theorem dX5_init_52 : decode cX5_init 52 = .ok (.iconst (-1), 1) := by decide +kernel
theorem dX5_init_53 : decode cX5_init 53 = .ok (.iastore, 1) := by decide +kernel
theorem dX5_init_54 : decode cX5_init 54 = .ok (.dup, 1) := by decide +kernel
theorem dX5_init_55 : decode cX5_init 55 = .ok (.bipush 7, 2) := by decide +kernel
theorem dX5_init_57 : decode cX5_init 57 = .ok (.iconst (-1), 1) := by decide +kernel
theorem dX5_init_58 : decode cX5_init 58 = .ok (.iastore, 1) := by decide +kernel
theorem dX5_init_59 : decode cX5_init 59 = .ok (.putfield 16, 3) := by decide +kernel
theorem dX5_init_62 : decode cX5_init 62 = .ok (.aload_n 0, 1) := by decide +kernel
theorem dX5_init_63 : decode cX5_init 63 = .ok (.bipush 8, 2) := by decide +kernel
theorem dX5_init_65 : decode cX5_init 65 = .ok (.newarray .int, 2) := by decide +kernel
theorem dX5_init_67 : decode cX5_init 67 = .ok (.putfield 19, 3) := by decide +kernel
theorem dX5_init_70 : decode cX5_init 70 = .ok (.aload_n 0, 1) := by decide +kernel
theorem dX5_init_71 : decode cX5_init 71 = .ok (.iconst 0, 1) := by decide +kernel
theorem dX5_init_72 : decode cX5_init 72 = .ok (.anewarray 22, 3) := by decide +kernel
theorem dX5_init_75 : decode cX5_init 75 = .ok (.putfield 23, 3) := by decide +kernel
theorem dX5_init_78 : decode cX5_init 78 = .ok (.aload_n 0, 1) := by decide +kernel
theorem dX5_init_79 : decode cX5_init 79 = .ok (.iconst 0, 1) := by decide +kernel
theorem dX5_init_80 : decode cX5_init 80 = .ok (.anewarray 22, 3) := by decide +kernel
theorem dX5_init_83 : decode cX5_init 83 = .ok (.putfield 27, 3) := by decide +kernel
theorem dX5_init_86 : decode cX5_init 86 = .ok (.aload_n 0, 1) := by decide +kernel
theorem dX5_init_87 : decode cX5_init 87 = .ok (.iconst 0, 1) := by decide +kernel
theorem dX5_init_88 : decode cX5_init 88 = .ok (.anewarray 22, 3) := by decide +kernel
theorem dX5_init_91 : decode cX5_init 91 = .ok (.putfield 30, 3) := by decide +kernel
theorem dX5_init_94 : decode cX5_init 94 = .ok (.return_, 1) := by decide +kernel
theorem dX5_with_0 : decode cX5_with 0 = .ok (.aload_n 0, 1) := by decide +kernel
theorem dX5_with_1 : decode cX5_with 1 = .ok (.arraylength, 1) := by decide +kernel
theorem dX5_with_2 : decode cX5_with 2 = .ok (.iconst 1, 1) := by decide +kernel
theorem dX5_with_3 : decode cX5_with 3 = .ok (.iadd, 1) := by decide +kernel
theorem dX5_with_4 : decode cX5_with 4 = .ok (.anewarray 22, 3) := by decide +kernel
theorem dX5_with_7 : decode cX5_with 7 = .ok (.astore_n 2, 1) := by decide +kernel
theorem dX5_with_8 : decode cX5_with 8 = .ok (.iconst 0, 1) := by decide +kernel
theorem dX5_with_9 : decode cX5_with 9 = .ok (.istore_n 3, 1) := by decide +kernel
theorem dX5_with_10 : decode cX5_with 10 = .ok (.iload_n 3, 1) := by decide +kernel
theorem dX5_with_11 : decode cX5_with 11 = .ok (.aload_n 0, 1) := by decide +kernel
theorem dX5_with_12 : decode cX5_with 12 = .ok (.arraylength, 1) := by decide +kernel
theorem dX5_with_13 : decode cX5_with 13 = .ok (.if_icmp .ge 15, 3) := by decide +kernel
theorem dX5_with_16 : decode cX5_with 16 = .ok (.aload_n 2, 1) := by decide +kernel
theorem dX5_with_17 : decode cX5_with 17 = .ok (.iload_n 3, 1) := by decide +kernel
theorem dX5_with_18 : decode cX5_with 18 = .ok (.aload_n 0, 1) := by decide +kernel
theorem dX5_with_19 : decode cX5_with 19 = .ok (.iload_n 3, 1) := by decide +kernel
theorem dX5_with_20 : decode cX5_with 20 = .ok (.aaload, 1) := by decide +kernel
theorem dX5_with_21 : decode cX5_with 21 = .ok (.aastore, 1) := by decide +kernel
theorem dX5_with_22 : decode cX5_with 22 = .ok (.iinc 3 1, 3) := by decide +kernel
theorem dX5_with_25 : decode cX5_with 25 = .ok (.goto (-15), 3) := by decide +kernel
theorem dX5_with_28 : decode cX5_with 28 = .ok (.aload_n 2, 1) := by decide +kernel
theorem dX5_with_29 : decode cX5_with 29 = .ok (.aload_n 0, 1) := by decide +kernel
theorem dX5_with_30 : decode cX5_with 30 = .ok (.arraylength, 1) := by decide +kernel
theorem dX5_with_31 : decode cX5_with 31 = .ok (.aload_n 1, 1) := by decide +kernel
theorem dX5_with_32 : decode cX5_with 32 = .ok (.aastore, 1) := by decide +kernel
theorem dX5_with_33 : decode cX5_with 33 = .ok (.aload_n 2, 1) := by decide +kernel
theorem dX5_with_34 : decode cX5_with 34 = .ok (.areturn, 1) := by decide +kernel
theorem dX5_moon_0 : decode cX5_moon 0 = .ok (.aload_n 0, 1) := by decide +kernel
theorem dX5_moon_1 : decode cX5_moon 1 = .ok (.getfield 40, 3) := by decide +kernel
theorem dX5_moon_4 : decode cX5_moon 4 = .ok (.bipush 10, 2) := by decide +kernel
theorem dX5_moon_6 : decode cX5_moon 6 = .ok (.idiv, 1) := by decide +kernel
theorem dX5_moon_7 : decode cX5_moon 7 = .ok (.bipush 12, 2) := by decide +kernel
theorem dX5_moon_9 : decode cX5_moon 9 = .ok (.irem, 1) := by decide +kernel
theorem dX5_moon_10 : decode cX5_moon 10 = .ok (.istore_n 1, 1) := by decide +kernel
theorem dX5_moon_11 : decode cX5_moon 11 = .ok (.iload_n 1, 1) := by decide +kernel
theorem dX5_moon_12 : decode cX5_moon 12 = .ok (.bipush 6, 2) := by decide +kernel
theorem dX5_moon_14 : decode cX5_moon 14 = .ok (.if_icmp .ge 10, 3) := by decide +kernel
theorem dX5_moon_17 : decode cX5_moon 17 = .ok (.bipush 6, 2) := by decide +kernel
theorem dX5_moon_19 : decode cX5_moon 19 = .ok (.iload_n 1, 1) := by decide +kernel
theorem dX5_moon_20 : decode cX5_moon 20 = .ok (.isub, 1) := by decide +kernel
theorem dX5_moon_21 : decode cX5_moon 21 = .ok (.goto 7, 3) := by decide +kernel
theorem dX5_moon_24 : decode cX5_moon 24 = .ok (.iload_n 1, 1) := by decide +kernel
theorem dX5_moon_25 : decode cX5_moon 25 = .ok (.bipush 6, 2) := by decide +kernel
theorem dX5_moon_27 : decode cX5_moon 27 = .ok (.isub, 1) := by decide +kernel
theorem dX5_moon_28 : decode cX5_moon 28 = .ok (.ireturn, 1) := by decide +kernel
theorem dX5_shown_0 : decode cX5_shown 0 = .ok (.aload_n 0, 1) := by decide +kernel
theorem dX5_shown_1 : decode cX5_shown 1 = .ok (.getfield 23, 3) := by decide +kernel
theorem dX5_shown_4 : decode cX5_shown 4 = .ok (.iload_n 1, 1) := by decide +kernel
theorem dX5_shown_5 : decode cX5_shown 5 = .ok (.aaload, 1) := by decide +kernel
theorem dX5_shown_6 : decode cX5_shown 6 = .ok (.iconst 1, 1) := by decide +kernel
theorem dX5_shown_7 : decode cX5_shown 7 = .ok (.aload_n 0, 1) := by decide +kernel
theorem dX5_shown_8 : decode cX5_shown 8 = .ok (.getfield 40, 3) := by decide +kernel
theorem dX5_shown_11 : decode cX5_shown 11 = .ok (.bipush 10, 2) := by decide +kernel
theorem dX5_shown_13 : decode cX5_shown 13 = .ok (.irem, 1) := by decide +kernel
theorem dX5_shown_14 : decode cX5_shown 14 = .ok (.iadd, 1) := by decide +kernel
theorem dX5_shown_15 : decode cX5_shown 15 = .ok (.iaload, 1) := by decide +kernel
theorem dX5_shown_16 : decode cX5_shown 16 = .ok (.ireturn, 1) := by decide +kernel
theorem dX5_far_0 : decode cX5_far 0 = .ok (.iload_n 0, 1) := by decide +kernel
theorem dX5_far_1 : decode cX5_far 1 = .ok (.iload_n 1, 1) := by decide +kernel
theorem dX5_far_2 : decode cX5_far 2 = .ok (.if_icmp .ge 9, 3) := by decide +kernel
theorem dX5_far_5 : decode cX5_far 5 = .ok (.iload_n 1, 1) := by decide +kernel
theorem dX5_far_6 : decode cX5_far 6 = .ok (.iload_n 0, 1) := by decide +kernel
theorem dX5_far_7 : decode cX5_far 7 = .ok (.isub, 1) := by decide +kernel
theorem dX5_far_8 : decode cX5_far 8 = .ok (.goto 6, 3) := by decide +kernel
theorem dX5_far_11 : decode cX5_far 11 = .ok (.iload_n 0, 1) := by decide +kernel
theorem dX5_far_12 : decode cX5_far 12 = .ok (.iload_n 1, 1) := by decide +kernel
theorem dX5_far_13 : decode cX5_far 13 = .ok (.isub, 1) := by decide +kernel
theorem dX5_far_14 : decode cX5_far 14 = .ok (.ireturn, 1) := by decide +kernel
theorem dX5_sees_0 : decode cX5_sees 0 = .ok (.aload_n 0, 1) := by decide +kernel
theorem dX5_sees_1 : decode cX5_sees 1 = .ok (.getfield 27, 3) := by decide +kernel
theorem dX5_sees_4 : decode cX5_sees 4 = .ok (.iload_n 1, 1) := by decide +kernel
theorem dX5_sees_5 : decode cX5_sees 5 = .ok (.aaload, 1) := by decide +kernel
theorem dX5_sees_6 : decode cX5_sees 6 = .ok (.iconst 3, 1) := by decide +kernel
theorem dX5_sees_7 : decode cX5_sees 7 = .ok (.iaload, 1) := by decide +kernel
theorem dX5_sees_8 : decode cX5_sees 8 = .ok (.iload_n 2, 1) := by decide +kernel
theorem dX5_sees_9 : decode cX5_sees 9 = .ok (.invokestatic 54, 3) := by decide +kernel
theorem dX5_sees_12 : decode cX5_sees 12 = .ok (.aload_n 0, 1) := by decide +kernel
theorem dX5_sees_13 : decode cX5_sees 13 = .ok (.getfield 27, 3) := by decide +kernel
theorem dX5_sees_16 : decode cX5_sees 16 = .ok (.iload_n 1, 1) := by decide +kernel
theorem dX5_sees_17 : decode cX5_sees 17 = .ok (.aaload, 1) := by decide +kernel
theorem dX5_sees_18 : decode cX5_sees 18 = .ok (.iconst 2, 1) := by decide +kernel
theorem dX5_sees_19 : decode cX5_sees 19 = .ok (.iaload, 1) := by decide +kernel
theorem dX5_sees_20 : decode cX5_sees 20 = .ok (.aload_n 0, 1) := by decide +kernel
theorem dX5_sees_21 : decode cX5_sees 21 = .ok (.invokevirtual 58, 3) := by decide +kernel
theorem dX5_sees_24 : decode cX5_sees 24 = .ok (.iconst 2, 1) := by decide +kernel
theorem dX5_sees_25 : decode cX5_sees 25 = .ok (.idiv, 1) := by decide +kernel
theorem dX5_sees_26 : decode cX5_sees 26 = .ok (.iadd, 1) := by decide +kernel
theorem dX5_sees_27 : decode cX5_sees 27 = .ok (.iload_n 3, 1) := by decide +kernel
theorem dX5_sees_28 : decode cX5_sees 28 = .ok (.iadd, 1) := by decide +kernel
theorem dX5_sees_29 : decode cX5_sees 29 = .ok (.if_icmp .gt 7, 3) := by decide +kernel
theorem dX5_sees_32 : decode cX5_sees 32 = .ok (.iconst 1, 1) := by decide +kernel
theorem dX5_sees_33 : decode cX5_sees 33 = .ok (.goto 4, 3) := by decide +kernel
theorem dX5_sees_36 : decode cX5_sees 36 = .ok (.iconst 0, 1) := by decide +kernel
theorem dX5_sees_37 : decode cX5_sees 37 = .ok (.ireturn, 1) := by decide +kernel
theorem dX5_seesLight_0 : decode cX5_seesLight 0 = .ok (.aload_n 0, 1) := by decide +kernel
theorem dX5_seesLight_1 : decode cX5_seesLight 1 = .ok (.getfield 27, 3) := by decide +kernel
theorem dX5_seesLight_4 : decode cX5_seesLight 4 = .ok (.iload_n 1, 1) := by decide +kernel
theorem dX5_seesLight_5 : decode cX5_seesLight 5 = .ok (.aaload, 1) := by decide +kernel
theorem dX5_seesLight_6 : decode cX5_seesLight 6 = .ok (.iconst 3, 1) := by decide +kernel
theorem dX5_seesLight_7 : decode cX5_seesLight 7 = .ok (.iaload, 1) := by decide +kernel
theorem dX5_seesLight_8 : decode cX5_seesLight 8 = .ok (.aload_n 0, 1) := by decide +kernel
theorem dX5_seesLight_9 : decode cX5_seesLight 9 = .ok (.getfield 23, 3) := by decide +kernel
theorem dX5_seesLight_12 : decode cX5_seesLight 12 = .ok (.iload_n 2, 1) := by decide +kernel
theorem dX5_seesLight_13 : decode cX5_seesLight 13 = .ok (.aaload, 1) := by decide +kernel
theorem dX5_seesLight_14 : decode cX5_seesLight 14 = .ok (.iconst 0, 1) := by decide +kernel
theorem dX5_seesLight_15 : decode cX5_seesLight 15 = .ok (.iaload, 1) := by decide +kernel
theorem dX5_seesLight_16 : decode cX5_seesLight 16 = .ok (.invokestatic 54, 3) := by decide +kernel
theorem dX5_seesLight_19 : decode cX5_seesLight 19 = .ok (.iconst 2, 1) := by decide +kernel
theorem dX5_seesLight_20 : decode cX5_seesLight 20 = .ok (.aload_n 0, 1) := by decide +kernel
theorem dX5_seesLight_21 : decode cX5_seesLight 21 = .ok (.getfield 27, 3) := by decide +kernel
theorem dX5_seesLight_24 : decode cX5_seesLight 24 = .ok (.iload_n 1, 1) := by decide +kernel
theorem dX5_seesLight_25 : decode cX5_seesLight 25 = .ok (.aaload, 1) := by decide +kernel
theorem dX5_seesLight_26 : decode cX5_seesLight 26 = .ok (.iconst 2, 1) := by decide +kernel
theorem dX5_seesLight_27 : decode cX5_seesLight 27 = .ok (.iaload, 1) := by decide +kernel
theorem dX5_seesLight_28 : decode cX5_seesLight 28 = .ok (.imul, 1) := by decide +kernel
theorem dX5_seesLight_29 : decode cX5_seesLight 29 = .ok (.bipush 6, 2) := by decide +kernel
theorem dX5_seesLight_31 : decode cX5_seesLight 31 = .ok (.iadd, 1) := by decide +kernel
theorem dX5_seesLight_32 : decode cX5_seesLight 32 = .ok (.aload_n 0, 1) := by decide +kernel
theorem dX5_seesLight_33 : decode cX5_seesLight 33 = .ok (.invokevirtual 58, 3) := by decide +kernel
theorem dX5_seesLight_36 : decode cX5_seesLight 36 = .ok (.isub, 1) := by decide +kernel
theorem dX5_seesLight_37 : decode cX5_seesLight 37 = .ok (.if_icmp .gt 7, 3) := by decide +kernel
theorem dX5_seesLight_40 : decode cX5_seesLight 40 = .ok (.iconst 1, 1) := by decide +kernel
theorem dX5_seesLight_41 : decode cX5_seesLight 41 = .ok (.goto 4, 3) := by decide +kernel
theorem dX5_seesLight_44 : decode cX5_seesLight 44 = .ok (.iconst 0, 1) := by decide +kernel
theorem dX5_seesLight_45 : decode cX5_seesLight 45 = .ok (.ireturn, 1) := by decide +kernel
theorem dX5_watchers_0 : decode cX5_watchers 0 = .ok (.iconst 0, 1) := by decide +kernel
theorem dX5_watchers_1 : decode cX5_watchers 1 = .ok (.istore_n 2, 1) := by decide +kernel
theorem dX5_watchers_2 : decode cX5_watchers 2 = .ok (.iconst 0, 1) := by decide +kernel
theorem dX5_watchers_3 : decode cX5_watchers 3 = .ok (.istore_n 3, 1) := by decide +kernel
theorem dX5_watchers_4 : decode cX5_watchers 4 = .ok (.iload_n 3, 1) := by decide +kernel
theorem dX5_watchers_5 : decode cX5_watchers 5 = .ok (.aload_n 0, 1) := by decide +kernel
theorem dX5_watchers_6 : decode cX5_watchers 6 = .ok (.getfield 27, 3) := by decide +kernel
theorem dX5_watchers_9 : decode cX5_watchers 9 = .ok (.arraylength, 1) := by decide +kernel
theorem dX5_watchers_10 : decode cX5_watchers 10 = .ok (.if_icmp .ge 27, 3) := by decide +kernel
theorem dX5_watchers_13 : decode cX5_watchers 13 = .ok (.iload_n 2, 1) := by decide +kernel
theorem dX5_watchers_14 : decode cX5_watchers 14 = .ok (.aload_n 0, 1) := by decide +kernel
theorem dX5_watchers_15 : decode cX5_watchers 15 = .ok (.iload_n 3, 1) := by decide +kernel
theorem dX5_watchers_16 : decode cX5_watchers 16 = .ok (.iload_n 1, 1) := by decide +kernel
theorem dX5_watchers_17 : decode cX5_watchers 17 = .ok (.iconst 0, 1) := by decide +kernel
theorem dX5_watchers_18 : decode cX5_watchers 18 = .ok (.invokevirtual 62, 3) := by decide +kernel
theorem dX5_watchers_21 : decode cX5_watchers 21 = .ok (.ifCond .eq 7, 3) := by decide +kernel
theorem dX5_watchers_24 : decode cX5_watchers 24 = .ok (.iconst 1, 1) := by decide +kernel
theorem dX5_watchers_25 : decode cX5_watchers 25 = .ok (.goto 4, 3) := by decide +kernel
theorem dX5_watchers_28 : decode cX5_watchers 28 = .ok (.iconst 0, 1) := by decide +kernel
theorem dX5_watchers_29 : decode cX5_watchers 29 = .ok (.iadd, 1) := by decide +kernel
theorem dX5_watchers_30 : decode cX5_watchers 30 = .ok (.istore_n 2, 1) := by decide +kernel
theorem dX5_watchers_31 : decode cX5_watchers 31 = .ok (.iinc 3 1, 3) := by decide +kernel
theorem dX5_watchers_34 : decode cX5_watchers 34 = .ok (.goto (-30), 3) := by decide +kernel
theorem dX5_watchers_37 : decode cX5_watchers 37 = .ok (.iload_n 2, 1) := by decide +kernel
theorem dX5_watchers_38 : decode cX5_watchers 38 = .ok (.ireturn, 1) := by decide +kernel
theorem dX5_lightWatchers_0 : decode cX5_lightWatchers 0 = .ok (.iconst 0, 1) := by decide +kernel
theorem dX5_lightWatchers_1 : decode cX5_lightWatchers 1 = .ok (.istore_n 2, 1) := by decide +kernel
theorem dX5_lightWatchers_2 : decode cX5_lightWatchers 2 = .ok (.iconst 0, 1) := by decide +kernel
theorem dX5_lightWatchers_3 : decode cX5_lightWatchers 3 = .ok (.istore_n 3, 1) := by decide +kernel
theorem dX5_lightWatchers_4 : decode cX5_lightWatchers 4 = .ok (.iload_n 3, 1) := by decide +kernel
theorem dX5_lightWatchers_5 : decode cX5_lightWatchers 5 = .ok (.aload_n 0, 1) := by decide +kernel
theorem dX5_lightWatchers_6 : decode cX5_lightWatchers 6 = .ok (.getfield 27, 3) := by decide +kernel
theorem dX5_lightWatchers_9 : decode cX5_lightWatchers 9 = .ok (.arraylength, 1) := by decide +kernel
theorem dX5_lightWatchers_10 : decode cX5_lightWatchers 10 = .ok (.if_icmp .ge 26, 3) := by decide +kernel
theorem dX5_lightWatchers_13 : decode cX5_lightWatchers 13 = .ok (.iload_n 2, 1) := by decide +kernel
theorem dX5_lightWatchers_14 : decode cX5_lightWatchers 14 = .ok (.aload_n 0, 1) := by decide +kernel
theorem dX5_lightWatchers_15 : decode cX5_lightWatchers 15 = .ok (.iload_n 3, 1) := by decide +kernel
theorem dX5_lightWatchers_16 : decode cX5_lightWatchers 16 = .ok (.iload_n 1, 1) := by decide +kernel
theorem dX5_lightWatchers_17 : decode cX5_lightWatchers 17 = .ok (.invokevirtual 66, 3) := by decide +kernel
theorem dX5_lightWatchers_20 : decode cX5_lightWatchers 20 = .ok (.ifCond .eq 7, 3) := by decide +kernel
theorem dX5_lightWatchers_23 : decode cX5_lightWatchers 23 = .ok (.iconst 1, 1) := by decide +kernel
theorem dX5_lightWatchers_24 : decode cX5_lightWatchers 24 = .ok (.goto 4, 3) := by decide +kernel
theorem dX5_lightWatchers_27 : decode cX5_lightWatchers 27 = .ok (.iconst 0, 1) := by decide +kernel
theorem dX5_lightWatchers_28 : decode cX5_lightWatchers 28 = .ok (.iadd, 1) := by decide +kernel
theorem dX5_lightWatchers_29 : decode cX5_lightWatchers 29 = .ok (.istore_n 2, 1) := by decide +kernel
theorem dX5_lightWatchers_30 : decode cX5_lightWatchers 30 = .ok (.iinc 3 1, 3) := by decide +kernel
theorem dX5_lightWatchers_33 : decode cX5_lightWatchers 33 = .ok (.goto (-29), 3) := by decide +kernel
theorem dX5_lightWatchers_36 : decode cX5_lightWatchers 36 = .ok (.iload_n 2, 1) := by decide +kernel
theorem dX5_lightWatchers_37 : decode cX5_lightWatchers 37 = .ok (.ireturn, 1) := by decide +kernel
theorem dX5_leads_0 : decode cX5_leads 0 = .ok (.iconst 0, 1) := by decide +kernel
theorem dX5_leads_1 : decode cX5_leads 1 = .ok (.istore_n 2, 1) := by decide +kernel
theorem dX5_leads_2 : decode cX5_leads 2 = .ok (.iload_n 2, 1) := by decide +kernel
theorem dX5_leads_3 : decode cX5_leads 3 = .ok (.bipush 9, 2) := by decide +kernel
theorem dX5_leads_5 : decode cX5_leads 5 = .ok (.aload_n 0, 1) := by decide +kernel
theorem dX5_leads_6 : decode cX5_leads 6 = .ok (.invokevirtual 58, 3) := by decide +kernel
theorem dX5_leads_9 : decode cX5_leads 9 = .ok (.isub, 1) := by decide +kernel
theorem dX5_leads_10 : decode cX5_leads 10 = .ok (.if_icmp .gt 67, 3) := by decide +kernel
theorem dX5_leads_13 : decode cX5_leads 13 = .ok (.iconst 0, 1) := by decide +kernel
theorem dX5_leads_14 : decode cX5_leads 14 = .ok (.istore_n 3, 1) := by decide +kernel
theorem dX5_leads_15 : decode cX5_leads 15 = .ok (.iload_n 3, 1) := by decide +kernel
theorem dX5_leads_16 : decode cX5_leads 16 = .ok (.aload_n 0, 1) := by decide +kernel
theorem dX5_leads_17 : decode cX5_leads 17 = .ok (.getfield 23, 3) := by decide +kernel
theorem dX5_leads_20 : decode cX5_leads 20 = .ok (.arraylength, 1) := by decide +kernel
theorem dX5_leads_21 : decode cX5_leads 21 = .ok (.if_icmp .ge 50, 3) := by decide +kernel
theorem dX5_leads_24 : decode cX5_leads 24 = .ok (.aload_n 0, 1) := by decide +kernel
theorem dX5_leads_25 : decode cX5_leads 25 = .ok (.getfield 23, 3) := by decide +kernel
theorem dX5_leads_28 : decode cX5_leads 28 = .ok (.iload_n 3, 1) := by decide +kernel
theorem dX5_leads_29 : decode cX5_leads 29 = .ok (.aaload, 1) := by decide +kernel
theorem dX5_leads_30 : decode cX5_leads 30 = .ok (.iconst 0, 1) := by decide +kernel
theorem dX5_leads_31 : decode cX5_leads 31 = .ok (.iaload, 1) := by decide +kernel
theorem dX5_leads_32 : decode cX5_leads 32 = .ok (.aload_n 1, 1) := by decide +kernel
theorem dX5_leads_33 : decode cX5_leads 33 = .ok (.iconst 0, 1) := by decide +kernel
theorem dX5_leads_34 : decode cX5_leads 34 = .ok (.iaload, 1) := by decide +kernel
theorem dX5_leads_35 : decode cX5_leads 35 = .ok (.invokestatic 54, 3) := by decide +kernel
theorem dX5_leads_38 : decode cX5_leads 38 = .ok (.iload_n 2, 1) := by decide +kernel
theorem dX5_leads_39 : decode cX5_leads 39 = .ok (.if_icmp .ne 26, 3) := by decide +kernel
theorem dX5_leads_42 : decode cX5_leads 42 = .ok (.aload_n 0, 1) := by decide +kernel
theorem dX5_leads_43 : decode cX5_leads 43 = .ok (.iload_n 3, 1) := by decide +kernel
theorem dX5_leads_44 : decode cX5_leads 44 = .ok (.invokevirtual 70, 3) := by decide +kernel
theorem dX5_leads_47 : decode cX5_leads 47 = .ok (.ifCond .le 18, 3) := by decide +kernel
theorem dX5_leads_50 : decode cX5_leads 50 = .ok (.aload_n 0, 1) := by decide +kernel
theorem dX5_leads_51 : decode cX5_leads 51 = .ok (.getfield 16, 3) := by decide +kernel
theorem dX5_leads_54 : decode cX5_leads 54 = .ok (.aload_n 0, 1) := by decide +kernel
theorem dX5_leads_55 : decode cX5_leads 55 = .ok (.iload_n 3, 1) := by decide +kernel
theorem dX5_leads_56 : decode cX5_leads 56 = .ok (.invokevirtual 70, 3) := by decide +kernel
theorem dX5_leads_59 : decode cX5_leads 59 = .ok (.iaload, 1) := by decide +kernel
theorem dX5_leads_60 : decode cX5_leads 60 = .ok (.ifCond .lt 5, 3) := by decide +kernel
theorem dX5_leads_63 : decode cX5_leads 63 = .ok (.iload_n 3, 1) := by decide +kernel
theorem dX5_leads_64 : decode cX5_leads 64 = .ok (.ireturn, 1) := by decide +kernel
theorem dX5_leads_65 : decode cX5_leads 65 = .ok (.iinc 3 1, 3) := by decide +kernel
theorem dX5_leads_68 : decode cX5_leads 68 = .ok (.goto (-53), 3) := by decide +kernel
theorem dX5_leads_71 : decode cX5_leads 71 = .ok (.iinc 2 1, 3) := by decide +kernel
theorem dX5_leads_74 : decode cX5_leads 74 = .ok (.goto (-72), 3) := by decide +kernel
theorem dX5_leads_77 : decode cX5_leads 77 = .ok (.iconst (-1), 1) := by decide +kernel
theorem dX5_leads_78 : decode cX5_leads 78 = .ok (.ireturn, 1) := by decide +kernel
theorem dX5_go_0 : decode cX5_go 0 = .ok (.iconst 0, 1) := by decide +kernel
theorem dX5_go_1 : decode cX5_go 1 = .ok (.istore_n 1, 1) := by decide +kernel
theorem dX5_go_2 : decode cX5_go 2 = .ok (.iconst 0, 1) := by decide +kernel
theorem dX5_go_3 : decode cX5_go 3 = .ok (.istore_n 2, 1) := by decide +kernel
theorem dX5_go_4 : decode cX5_go 4 = .ok (.iload_n 2, 1) := by decide +kernel
theorem dX5_go_5 : decode cX5_go 5 = .ok (.aload_n 0, 1) := by decide +kernel
theorem dX5_go_6 : decode cX5_go 6 = .ok (.getfield 23, 3) := by decide +kernel
theorem dX5_go_9 : decode cX5_go 9 = .ok (.arraylength, 1) := by decide +kernel
theorem dX5_go_10 : decode cX5_go 10 = .ok (.if_icmp .ge 55, 3) := by decide +kernel
theorem dX5_go_13 : decode cX5_go 13 = .ok (.aload_n 0, 1) := by decide +kernel
theorem dX5_go_14 : decode cX5_go 14 = .ok (.iload_n 2, 1) := by decide +kernel
theorem dX5_go_15 : decode cX5_go 15 = .ok (.invokevirtual 70, 3) := by decide +kernel
theorem dX5_go_18 : decode cX5_go 18 = .ok (.ifCond .eq 41, 3) := by decide +kernel
theorem dX5_go_21 : decode cX5_go 21 = .ok (.aload_n 0, 1) := by decide +kernel
theorem dX5_go_22 : decode cX5_go 22 = .ok (.iload_n 2, 1) := by decide +kernel
theorem dX5_go_23 : decode cX5_go 23 = .ok (.invokevirtual 74, 3) := by decide +kernel
theorem dX5_go_26 : decode cX5_go 26 = .ok (.ifCond .ne 6, 3) := by decide +kernel
theorem dX5_go_29 : decode cX5_go 29 = .ok (.goto 30, 3) := by decide +kernel
theorem dX5_go_32 : decode cX5_go 32 = .ok (.aload_n 0, 1) := by decide +kernel
theorem dX5_go_33 : decode cX5_go 33 = .ok (.getfield 19, 3) := by decide +kernel
theorem dX5_go_36 : decode cX5_go 36 = .ok (.aload_n 0, 1) := by decide +kernel
theorem dX5_go_37 : decode cX5_go 37 = .ok (.iload_n 2, 1) := by decide +kernel
theorem dX5_go_38 : decode cX5_go 38 = .ok (.invokevirtual 70, 3) := by decide +kernel
theorem dX5_go_41 : decode cX5_go 41 = .ok (.dup2, 1) := by decide +kernel
theorem dX5_go_42 : decode cX5_go 42 = .ok (.iaload, 1) := by decide +kernel
theorem dX5_go_43 : decode cX5_go 43 = .ok (.iconst 1, 1) := by decide +kernel
theorem dX5_go_44 : decode cX5_go 44 = .ok (.iadd, 1) := by decide +kernel
theorem dX5_go_45 : decode cX5_go 45 = .ok (.iastore, 1) := by decide +kernel
theorem dX5_go_46 : decode cX5_go 46 = .ok (.aload_n 0, 1) := by decide +kernel
theorem dX5_go_47 : decode cX5_go 47 = .ok (.getfield 23, 3) := by decide +kernel
theorem dX5_go_50 : decode cX5_go 50 = .ok (.iload_n 2, 1) := by decide +kernel
theorem dX5_go_51 : decode cX5_go 51 = .ok (.aaload, 1) := by decide +kernel
theorem dX5_go_52 : decode cX5_go 52 = .ok (.bipush 11, 2) := by decide +kernel
theorem dX5_go_54 : decode cX5_go 54 = .ok (.dup2, 1) := by decide +kernel
theorem dX5_go_55 : decode cX5_go 55 = .ok (.iaload, 1) := by decide +kernel
theorem dX5_go_56 : decode cX5_go 56 = .ok (.iconst 1, 1) := by decide +kernel
theorem dX5_go_57 : decode cX5_go 57 = .ok (.iadd, 1) := by decide +kernel
theorem dX5_go_58 : decode cX5_go 58 = .ok (.iastore, 1) := by decide +kernel
theorem dX5_go_59 : decode cX5_go 59 = .ok (.iinc 2 1, 3) := by decide +kernel
theorem dX5_go_62 : decode cX5_go 62 = .ok (.goto (-58), 3) := by decide +kernel
theorem dX5_go_65 : decode cX5_go 65 = .ok (.aload_n 0, 1) := by decide +kernel
theorem dX5_go_66 : decode cX5_go 66 = .ok (.getfield 30, 3) := by decide +kernel
theorem dX5_go_69 : decode cX5_go 69 = .ok (.astore_n 2, 1) := by decide +kernel
theorem dX5_go_70 : decode cX5_go 70 = .ok (.aload_n 2, 1) := by decide +kernel
theorem dX5_go_71 : decode cX5_go 71 = .ok (.arraylength, 1) := by decide +kernel
theorem dX5_go_72 : decode cX5_go 72 = .ok (.istore_n 3, 1) := by decide +kernel
theorem dX5_go_73 : decode cX5_go 73 = .ok (.iconst 0, 1) := by decide +kernel
theorem dX5_go_74 : decode cX5_go 74 = .ok (.istore 4, 2) := by decide +kernel
theorem dX5_go_76 : decode cX5_go 76 = .ok (.iload 4, 2) := by decide +kernel
theorem dX5_go_78 : decode cX5_go 78 = .ok (.iload_n 3, 1) := by decide +kernel
theorem dX5_go_79 : decode cX5_go 79 = .ok (.if_icmp .ge 233, 3) := by decide +kernel
theorem dX5_go_82 : decode cX5_go 82 = .ok (.aload_n 2, 1) := by decide +kernel
theorem dX5_go_83 : decode cX5_go 83 = .ok (.iload 4, 2) := by decide +kernel
theorem dX5_go_85 : decode cX5_go 85 = .ok (.aaload, 1) := by decide +kernel
theorem dX5_go_86 : decode cX5_go 86 = .ok (.astore 5, 2) := by decide +kernel
theorem dX5_go_88 : decode cX5_go 88 = .ok (.aload 5, 2) := by decide +kernel
theorem dX5_go_90 : decode cX5_go 90 = .ok (.iconst 3, 1) := by decide +kernel
theorem dX5_go_91 : decode cX5_go 91 = .ok (.iaload, 1) := by decide +kernel
theorem dX5_go_92 : decode cX5_go 92 = .ok (.ifCond .eq 6, 3) := by decide +kernel
theorem dX5_go_95 : decode cX5_go 95 = .ok (.goto 211, 3) := by decide +kernel
theorem dX5_go_98 : decode cX5_go 98 = .ok (.aload 5, 2) := by decide +kernel
theorem dX5_go_100 : decode cX5_go 100 = .ok (.iconst 0, 1) := by decide +kernel
theorem dX5_go_101 : decode cX5_go 101 = .ok (.iaload, 1) := by decide +kernel
theorem dX5_go_102 : decode cX5_go 102 = .ok (.aload 5, 2) := by decide +kernel
theorem dX5_go_104 : decode cX5_go 104 = .ok (.iconst 2, 1) := by decide +kernel
theorem dX5_go_105 : decode cX5_go 105 = .ok (.iaload, 1) := by decide +kernel
theorem dX5_go_106 : decode cX5_go 106 = .ok (.if_icmp .ne 93, 3) := by decide +kernel
theorem dX5_go_109 : decode cX5_go 109 = .ok (.iconst 0, 1) := by decide +kernel
theorem dX5_go_110 : decode cX5_go 110 = .ok (.istore 6, 2) := by decide +kernel
theorem dX5_go_112 : decode cX5_go 112 = .ok (.iload 6, 2) := by decide +kernel
theorem dX5_go_114 : decode cX5_go 114 = .ok (.iconst 4, 1) := by decide +kernel
theorem dX5_go_115 : decode cX5_go 115 = .ok (.if_icmp .ge 69, 3) := by decide +kernel
theorem dX5_go_118 : decode cX5_go 118 = .ok (.aload 5, 2) := by decide +kernel
theorem dX5_go_120 : decode cX5_go 120 = .ok (.iconst 1, 1) := by decide +kernel
theorem dX5_go_121 : decode cX5_go 121 = .ok (.iaload, 1) := by decide +kernel
theorem dX5_go_122 : decode cX5_go 122 = .ok (.ifCond .le 62, 3) := by decide +kernel
theorem dX5_go_125 : decode cX5_go 125 = .ok (.aload_n 0, 1) := by decide +kernel
theorem dX5_go_126 : decode cX5_go 126 = .ok (.getfield 13, 3) := by decide +kernel
theorem dX5_go_129 : decode cX5_go 129 = .ok (.aload 5, 2) := by decide +kernel
theorem dX5_go_131 : decode cX5_go 131 = .ok (.iconst 0, 1) := by decide +kernel
theorem dX5_go_132 : decode cX5_go 132 = .ok (.iaload, 1) := by decide +kernel
theorem dX5_go_133 : decode cX5_go 133 = .ok (.iaload, 1) := by decide +kernel
theorem dX5_go_134 : decode cX5_go 134 = .ok (.aload_n 0, 1) := by decide +kernel
theorem dX5_go_135 : decode cX5_go 135 = .ok (.getfield 7, 3) := by decide +kernel
theorem dX5_go_138 : decode cX5_go 138 = .ok (.aload 5, 2) := by decide +kernel
theorem dX5_go_140 : decode cX5_go 140 = .ok (.iconst 0, 1) := by decide +kernel
theorem dX5_go_141 : decode cX5_go 141 = .ok (.iaload, 1) := by decide +kernel
theorem dX5_go_142 : decode cX5_go 142 = .ok (.iaload, 1) := by decide +kernel
theorem dX5_go_143 : decode cX5_go 143 = .ok (.if_icmp .ge 41, 3) := by decide +kernel
theorem dX5_go_146 : decode cX5_go 146 = .ok (.aload 5, 2) := by decide +kernel
theorem dX5_go_148 : decode cX5_go 148 = .ok (.iconst 1, 1) := by decide +kernel
theorem dX5_go_149 : decode cX5_go 149 = .ok (.dup2, 1) := by decide +kernel
theorem dX5_go_150 : decode cX5_go 150 = .ok (.iaload, 1) := by decide +kernel
theorem dX5_go_151 : decode cX5_go 151 = .ok (.iconst 1, 1) := by decide +kernel
theorem dX5_go_152 : decode cX5_go 152 = .ok (.isub, 1) := by decide +kernel
theorem dX5_go_153 : decode cX5_go 153 = .ok (.iastore, 1) := by decide +kernel
theorem dX5_go_154 : decode cX5_go 154 = .ok (.aload 5, 2) := by decide +kernel
theorem dX5_go_156 : decode cX5_go 156 = .ok (.iconst 4, 1) := by decide +kernel
theorem dX5_go_157 : decode cX5_go 157 = .ok (.dup2, 1) := by decide +kernel
theorem dX5_go_158 : decode cX5_go 158 = .ok (.iaload, 1) := by decide +kernel
theorem dX5_go_159 : decode cX5_go 159 = .ok (.iconst 1, 1) := by decide +kernel
theorem dX5_go_160 : decode cX5_go 160 = .ok (.iadd, 1) := by decide +kernel
theorem dX5_go_161 : decode cX5_go 161 = .ok (.iastore, 1) := by decide +kernel
theorem dX5_go_162 : decode cX5_go 162 = .ok (.aload_n 0, 1) := by decide +kernel
theorem dX5_go_163 : decode cX5_go 163 = .ok (.getfield 13, 3) := by decide +kernel
theorem dX5_go_166 : decode cX5_go 166 = .ok (.aload 5, 2) := by decide +kernel
theorem dX5_go_168 : decode cX5_go 168 = .ok (.iconst 0, 1) := by decide +kernel
theorem dX5_go_169 : decode cX5_go 169 = .ok (.iaload, 1) := by decide +kernel
theorem dX5_go_170 : decode cX5_go 170 = .ok (.dup2, 1) := by decide +kernel
theorem dX5_go_171 : decode cX5_go 171 = .ok (.iaload, 1) := by decide +kernel
theorem dX5_go_172 : decode cX5_go 172 = .ok (.iconst 1, 1) := by decide +kernel
theorem dX5_go_173 : decode cX5_go 173 = .ok (.iadd, 1) := by decide +kernel
theorem dX5_go_174 : decode cX5_go 174 = .ok (.iastore, 1) := by decide +kernel
theorem dX5_go_175 : decode cX5_go 175 = .ok (.iinc 1 1, 3) := by decide +kernel
theorem dX5_go_178 : decode cX5_go 178 = .ok (.iinc 6 1, 3) := by decide +kernel
theorem dX5_go_181 : decode cX5_go 181 = .ok (.goto (-69), 3) := by decide +kernel
theorem dX5_go_184 : decode cX5_go 184 = .ok (.aload 5, 2) := by decide +kernel
theorem dX5_go_186 : decode cX5_go 186 = .ok (.iconst 1, 1) := by decide +kernel
theorem dX5_go_187 : decode cX5_go 187 = .ok (.iaload, 1) := by decide +kernel
theorem dX5_go_188 : decode cX5_go 188 = .ok (.ifCond .ne 118, 3) := by decide +kernel
theorem dX5_go_191 : decode cX5_go 191 = .ok (.aload 5, 2) := by decide +kernel
theorem dX5_go_193 : decode cX5_go 193 = .ok (.iconst 3, 1) := by decide +kernel
theorem dX5_go_194 : decode cX5_go 194 = .ok (.iconst 3, 1) := by decide +kernel
theorem dX5_go_195 : decode cX5_go 195 = .ok (.iastore, 1) := by decide +kernel
theorem dX5_go_196 : decode cX5_go 196 = .ok (.goto 110, 3) := by decide +kernel
theorem dX5_go_199 : decode cX5_go 199 = .ok (.aload 5, 2) := by decide +kernel
theorem dX5_go_201 : decode cX5_go 201 = .ok (.bipush 6, 2) := by decide +kernel
theorem dX5_go_203 : decode cX5_go 203 = .ok (.iaload, 1) := by decide +kernel
theorem dX5_go_204 : decode cX5_go 204 = .ok (.iconst 1, 1) := by decide +kernel
theorem dX5_go_205 : decode cX5_go 205 = .ok (.if_icmp .ne 12, 3) := by decide +kernel
theorem dX5_go_208 : decode cX5_go 208 = .ok (.aload_n 0, 1) := by decide +kernel
theorem dX5_go_209 : decode cX5_go 209 = .ok (.aload 5, 2) := by decide +kernel
theorem dX5_go_211 : decode cX5_go 211 = .ok (.invokevirtual 77, 3) := by decide +kernel
theorem dX5_go_214 : decode cX5_go 214 = .ok (.goto 4, 3) := by decide +kernel
theorem dX5_go_217 : decode cX5_go 217 = .ok (.iconst (-1), 1) := by decide +kernel
theorem dX5_go_218 : decode cX5_go 218 = .ok (.istore 6, 2) := by decide +kernel
theorem dX5_go_220 : decode cX5_go 220 = .ok (.iload 6, 2) := by decide +kernel
theorem dX5_go_222 : decode cX5_go 222 = .ok (.ifCond .lt 28, 3) := by decide +kernel
theorem dX5_go_225 : decode cX5_go 225 = .ok (.aload 5, 2) := by decide +kernel
theorem dX5_go_227 : decode cX5_go 227 = .ok (.iconst 2, 1) := by decide +kernel
theorem dX5_go_228 : decode cX5_go 228 = .ok (.aload_n 0, 1) := by decide +kernel
theorem dX5_go_229 : decode cX5_go 229 = .ok (.getfield 16, 3) := by decide +kernel
theorem dX5_go_232 : decode cX5_go 232 = .ok (.aload_n 0, 1) := by decide +kernel
theorem dX5_go_233 : decode cX5_go 233 = .ok (.iload 6, 2) := by decide +kernel
theorem dX5_go_235 : decode cX5_go 235 = .ok (.invokevirtual 70, 3) := by decide +kernel
theorem dX5_go_238 : decode cX5_go 238 = .ok (.iaload, 1) := by decide +kernel
theorem dX5_go_239 : decode cX5_go 239 = .ok (.iastore, 1) := by decide +kernel
theorem dX5_go_240 : decode cX5_go 240 = .ok (.aload 5, 2) := by decide +kernel
theorem dX5_go_242 : decode cX5_go 242 = .ok (.iconst 5, 1) := by decide +kernel
theorem dX5_go_243 : decode cX5_go 243 = .ok (.aload_n 0, 1) := by decide +kernel
theorem dX5_go_244 : decode cX5_go 244 = .ok (.iload 6, 2) := by decide +kernel
theorem dX5_go_246 : decode cX5_go 246 = .ok (.invokevirtual 70, 3) := by decide +kernel
theorem dX5_go_249 : decode cX5_go 249 = .ok (.iastore, 1) := by decide +kernel
theorem dX5_go_250 : decode cX5_go 250 = .ok (.iconst 0, 1) := by decide +kernel
theorem dX5_go_251 : decode cX5_go 251 = .ok (.istore 7, 2) := by decide +kernel
theorem dX5_go_253 : decode cX5_go 253 = .ok (.iload 7, 2) := by decide +kernel
theorem dX5_go_255 : decode cX5_go 255 = .ok (.iconst 2, 1) := by decide +kernel
theorem dX5_go_256 : decode cX5_go 256 = .ok (.if_icmp .ge 50, 3) := by decide +kernel
theorem dX5_go_259 : decode cX5_go 259 = .ok (.aload 5, 2) := by decide +kernel
theorem dX5_go_261 : decode cX5_go 261 = .ok (.iconst 2, 1) := by decide +kernel
theorem dX5_go_262 : decode cX5_go 262 = .ok (.iaload, 1) := by decide +kernel
theorem dX5_go_263 : decode cX5_go 263 = .ok (.ifCond .lt 43, 3) := by decide +kernel
theorem dX5_go_266 : decode cX5_go 266 = .ok (.aload 5, 2) := by decide +kernel
theorem dX5_go_268 : decode cX5_go 268 = .ok (.iconst 0, 1) := by decide +kernel
theorem dX5_go_269 : decode cX5_go 269 = .ok (.iaload, 1) := by decide +kernel
theorem dX5_go_270 : decode cX5_go 270 = .ok (.aload 5, 2) := by decide +kernel
theorem dX5_go_272 : decode cX5_go 272 = .ok (.iconst 2, 1) := by decide +kernel
theorem dX5_go_273 : decode cX5_go 273 = .ok (.iaload, 1) := by decide +kernel
theorem dX5_go_274 : decode cX5_go 274 = .ok (.if_icmp .eq 32, 3) := by decide +kernel
theorem dX5_go_277 : decode cX5_go 277 = .ok (.aload 5, 2) := by decide +kernel
theorem dX5_go_279 : decode cX5_go 279 = .ok (.iconst 0, 1) := by decide +kernel
theorem dX5_go_280 : decode cX5_go 280 = .ok (.dup2, 1) := by decide +kernel
theorem dX5_go_281 : decode cX5_go 281 = .ok (.iaload, 1) := by decide +kernel
theorem dX5_go_282 : decode cX5_go 282 = .ok (.aload 5, 2) := by decide +kernel
theorem dX5_go_284 : decode cX5_go 284 = .ok (.iconst 0, 1) := by decide +kernel
theorem dX5_go_285 : decode cX5_go 285 = .ok (.iaload, 1) := by decide +kernel
theorem dX5_go_286 : decode cX5_go 286 = .ok (.aload 5, 2) := by decide +kernel
theorem dX5_go_288 : decode cX5_go 288 = .ok (.iconst 2, 1) := by decide +kernel
theorem dX5_go_289 : decode cX5_go 289 = .ok (.iaload, 1) := by decide +kernel
theorem dX5_go_290 : decode cX5_go 290 = .ok (.if_icmp .ge 7, 3) := by decide +kernel
theorem dX5_go_293 : decode cX5_go 293 = .ok (.iconst 1, 1) := by decide +kernel
theorem dX5_go_294 : decode cX5_go 294 = .ok (.goto 4, 3) := by decide +kernel
theorem dX5_go_297 : decode cX5_go 297 = .ok (.iconst (-1), 1) := by decide +kernel
theorem dX5_go_298 : decode cX5_go 298 = .ok (.iadd, 1) := by decide +kernel
theorem dX5_go_299 : decode cX5_go 299 = .ok (.iastore, 1) := by decide +kernel
theorem dX5_go_300 : decode cX5_go 300 = .ok (.iinc 7 1, 3) := by decide +kernel
theorem dX5_go_303 : decode cX5_go 303 = .ok (.goto (-50), 3) := by decide +kernel
theorem dX5_go_306 : decode cX5_go 306 = .ok (.iinc 4 1, 3) := by decide +kernel
theorem dX5_go_309 : decode cX5_go 309 = .ok (.goto (-233), 3) := by decide +kernel
theorem dX5_go_312 : decode cX5_go 312 = .ok (.iconst 0, 1) := by decide +kernel
theorem dX5_go_313 : decode cX5_go 313 = .ok (.istore_n 2, 1) := by decide +kernel
theorem dX5_go_314 : decode cX5_go 314 = .ok (.iload_n 2, 1) := by decide +kernel
theorem dX5_go_315 : decode cX5_go 315 = .ok (.aload_n 0, 1) := by decide +kernel
theorem dX5_go_316 : decode cX5_go 316 = .ok (.getfield 27, 3) := by decide +kernel
theorem dX5_go_319 : decode cX5_go 319 = .ok (.arraylength, 1) := by decide +kernel
theorem dX5_go_320 : decode cX5_go 320 = .ok (.if_icmp .ge 210, 3) := by decide +kernel
theorem dX5_go_323 : decode cX5_go 323 = .ok (.aload_n 0, 1) := by decide +kernel
theorem dX5_go_324 : decode cX5_go 324 = .ok (.getfield 27, 3) := by decide +kernel
theorem dX5_go_327 : decode cX5_go 327 = .ok (.iload_n 2, 1) := by decide +kernel
theorem dX5_go_328 : decode cX5_go 328 = .ok (.aaload, 1) := by decide +kernel
theorem dX5_go_329 : decode cX5_go 329 = .ok (.astore_n 3, 1) := by decide +kernel
theorem dX5_go_330 : decode cX5_go 330 = .ok (.aload_n 3, 1) := by decide +kernel
theorem dX5_go_331 : decode cX5_go 331 = .ok (.iconst 0, 1) := by decide +kernel
theorem dX5_go_332 : decode cX5_go 332 = .ok (.iaload, 1) := by decide +kernel
theorem dX5_go_333 : decode cX5_go 333 = .ok (.aload_n 3, 1) := by decide +kernel
theorem dX5_go_334 : decode cX5_go 334 = .ok (.iconst 1, 1) := by decide +kernel
theorem dX5_go_335 : decode cX5_go 335 = .ok (.iaload, 1) := by decide +kernel
theorem dX5_go_336 : decode cX5_go 336 = .ok (.if_icmp .ge 55, 3) := by decide +kernel
theorem dX5_go_339 : decode cX5_go 339 = .ok (.aload_n 3, 1) := by decide +kernel
theorem dX5_go_340 : decode cX5_go 340 = .ok (.iconst 4, 1) := by decide +kernel
theorem dX5_go_341 : decode cX5_go 341 = .ok (.iaload, 1) := by decide +kernel
theorem dX5_go_342 : decode cX5_go 342 = .ok (.iconst 1, 1) := by decide +kernel
theorem dX5_go_343 : decode cX5_go 343 = .ok (.if_icmp .ne 19, 3) := by decide +kernel
theorem dX5_go_346 : decode cX5_go 346 = .ok (.aload_n 3, 1) := by decide +kernel
theorem dX5_go_347 : decode cX5_go 347 = .ok (.iconst 3, 1) := by decide +kernel
theorem dX5_go_348 : decode cX5_go 348 = .ok (.iaload, 1) := by decide +kernel
theorem dX5_go_349 : decode cX5_go 349 = .ok (.aload_n 3, 1) := by decide +kernel
theorem dX5_go_350 : decode cX5_go 350 = .ok (.iconst 1, 1) := by decide +kernel
theorem dX5_go_351 : decode cX5_go 351 = .ok (.iaload, 1) := by decide +kernel
theorem dX5_go_352 : decode cX5_go 352 = .ok (.if_icmp .ne 10, 3) := by decide +kernel
theorem dX5_go_355 : decode cX5_go 355 = .ok (.aload_n 3, 1) := by decide +kernel
theorem dX5_go_356 : decode cX5_go 356 = .ok (.iconst 4, 1) := by decide +kernel
theorem dX5_go_357 : decode cX5_go 357 = .ok (.iconst (-1), 1) := by decide +kernel
theorem dX5_go_358 : decode cX5_go 358 = .ok (.iastore, 1) := by decide +kernel
theorem dX5_go_359 : decode cX5_go 359 = .ok (.goto 23, 3) := by decide +kernel
theorem dX5_go_362 : decode cX5_go 362 = .ok (.aload_n 3, 1) := by decide +kernel
theorem dX5_go_363 : decode cX5_go 363 = .ok (.iconst 4, 1) := by decide +kernel
theorem dX5_go_364 : decode cX5_go 364 = .ok (.iaload, 1) := by decide +kernel
theorem dX5_go_365 : decode cX5_go 365 = .ok (.iconst (-1), 1) := by decide +kernel
theorem dX5_go_366 : decode cX5_go 366 = .ok (.if_icmp .ne 16, 3) := by decide +kernel
theorem dX5_go_369 : decode cX5_go 369 = .ok (.aload_n 3, 1) := by decide +kernel
theorem dX5_go_370 : decode cX5_go 370 = .ok (.iconst 3, 1) := by decide +kernel
theorem dX5_go_371 : decode cX5_go 371 = .ok (.iaload, 1) := by decide +kernel
theorem dX5_go_372 : decode cX5_go 372 = .ok (.aload_n 3, 1) := by decide +kernel
theorem dX5_go_373 : decode cX5_go 373 = .ok (.iconst 0, 1) := by decide +kernel
theorem dX5_go_374 : decode cX5_go 374 = .ok (.iaload, 1) := by decide +kernel
theorem dX5_go_375 : decode cX5_go 375 = .ok (.if_icmp .ne 7, 3) := by decide +kernel
theorem dX5_go_378 : decode cX5_go 378 = .ok (.aload_n 3, 1) := by decide +kernel
theorem dX5_go_379 : decode cX5_go 379 = .ok (.iconst 4, 1) := by decide +kernel
theorem dX5_go_380 : decode cX5_go 380 = .ok (.iconst 1, 1) := by decide +kernel
theorem dX5_go_381 : decode cX5_go 381 = .ok (.iastore, 1) := by decide +kernel
theorem dX5_go_382 : decode cX5_go 382 = .ok (.aload_n 3, 1) := by decide +kernel
theorem dX5_go_383 : decode cX5_go 383 = .ok (.iconst 3, 1) := by decide +kernel
theorem dX5_go_384 : decode cX5_go 384 = .ok (.dup2, 1) := by decide +kernel
theorem dX5_go_385 : decode cX5_go 385 = .ok (.iaload, 1) := by decide +kernel
theorem dX5_go_386 : decode cX5_go 386 = .ok (.aload_n 3, 1) := by decide +kernel
theorem dX5_go_387 : decode cX5_go 387 = .ok (.iconst 4, 1) := by decide +kernel
theorem dX5_go_388 : decode cX5_go 388 = .ok (.iaload, 1) := by decide +kernel
theorem dX5_go_389 : decode cX5_go 389 = .ok (.iadd, 1) := by decide +kernel
theorem dX5_go_390 : decode cX5_go 390 = .ok (.iastore, 1) := by decide +kernel
theorem dX5_go_391 : decode cX5_go 391 = .ok (.iconst 0, 1) := by decide +kernel
theorem dX5_go_392 : decode cX5_go 392 = .ok (.istore 4, 2) := by decide +kernel
theorem dX5_go_394 : decode cX5_go 394 = .ok (.aload_n 0, 1) := by decide +kernel
theorem dX5_go_395 : decode cX5_go 395 = .ok (.getfield 30, 3) := by decide +kernel
theorem dX5_go_398 : decode cX5_go 398 = .ok (.astore 5, 2) := by decide +kernel
theorem dX5_go_400 : decode cX5_go 400 = .ok (.aload 5, 2) := by decide +kernel
theorem dX5_go_402 : decode cX5_go 402 = .ok (.arraylength, 1) := by decide +kernel
theorem dX5_go_403 : decode cX5_go 403 = .ok (.istore 6, 2) := by decide +kernel
theorem dX5_go_405 : decode cX5_go 405 = .ok (.iconst 0, 1) := by decide +kernel
theorem dX5_go_406 : decode cX5_go 406 = .ok (.istore 7, 2) := by decide +kernel
theorem dX5_go_408 : decode cX5_go 408 = .ok (.iload 7, 2) := by decide +kernel
theorem dX5_go_410 : decode cX5_go 410 = .ok (.iload 6, 2) := by decide +kernel
theorem dX5_go_412 : decode cX5_go 412 = .ok (.if_icmp .ge 112, 3) := by decide +kernel
theorem dX5_go_415 : decode cX5_go 415 = .ok (.aload 5, 2) := by decide +kernel
theorem dX5_go_417 : decode cX5_go 417 = .ok (.iload 7, 2) := by decide +kernel
theorem dX5_go_419 : decode cX5_go 419 = .ok (.aaload, 1) := by decide +kernel
theorem dX5_go_420 : decode cX5_go 420 = .ok (.astore 8, 2) := by decide +kernel
theorem dX5_go_422 : decode cX5_go 422 = .ok (.iload 4, 2) := by decide +kernel
theorem dX5_go_424 : decode cX5_go 424 = .ok (.ifCond .ne 94, 3) := by decide +kernel
theorem dX5_go_427 : decode cX5_go 427 = .ok (.aload 8, 2) := by decide +kernel
theorem dX5_go_429 : decode cX5_go 429 = .ok (.iconst 3, 1) := by decide +kernel
theorem dX5_go_430 : decode cX5_go 430 = .ok (.iaload, 1) := by decide +kernel
theorem dX5_go_431 : decode cX5_go 431 = .ok (.ifCond .ne 87, 3) := by decide +kernel
theorem dX5_go_434 : decode cX5_go 434 = .ok (.aload 8, 2) := by decide +kernel
theorem dX5_go_436 : decode cX5_go 436 = .ok (.iconst 0, 1) := by decide +kernel
theorem dX5_go_437 : decode cX5_go 437 = .ok (.iaload, 1) := by decide +kernel
theorem dX5_go_438 : decode cX5_go 438 = .ok (.aload 8, 2) := by decide +kernel
theorem dX5_go_440 : decode cX5_go 440 = .ok (.iconst 2, 1) := by decide +kernel
theorem dX5_go_441 : decode cX5_go 441 = .ok (.iaload, 1) := by decide +kernel
theorem dX5_go_442 : decode cX5_go 442 = .ok (.if_icmp .ne 76, 3) := by decide +kernel
theorem dX5_go_445 : decode cX5_go 445 = .ok (.aload_n 0, 1) := by decide +kernel
theorem dX5_go_446 : decode cX5_go 446 = .ok (.iload_n 2, 1) := by decide +kernel
theorem dX5_go_447 : decode cX5_go 447 = .ok (.aload 8, 2) := by decide +kernel
theorem dX5_go_449 : decode cX5_go 449 = .ok (.iconst 0, 1) := by decide +kernel
theorem dX5_go_450 : decode cX5_go 450 = .ok (.iaload, 1) := by decide +kernel
theorem dX5_go_451 : decode cX5_go 451 = .ok (.aload 8, 2) := by decide +kernel
theorem dX5_go_453 : decode cX5_go 453 = .ok (.iconst 5, 1) := by decide +kernel
theorem dX5_go_454 : decode cX5_go 454 = .ok (.iaload, 1) := by decide +kernel
theorem dX5_go_455 : decode cX5_go 455 = .ok (.ifCond .le 20, 3) := by decide +kernel
theorem dX5_go_458 : decode cX5_go 458 = .ok (.aload_n 0, 1) := by decide +kernel
theorem dX5_go_459 : decode cX5_go 459 = .ok (.getfield 19, 3) := by decide +kernel
theorem dX5_go_462 : decode cX5_go 462 = .ok (.aload 8, 2) := by decide +kernel
theorem dX5_go_464 : decode cX5_go 464 = .ok (.iconst 5, 1) := by decide +kernel
theorem dX5_go_465 : decode cX5_go 465 = .ok (.iaload, 1) := by decide +kernel
theorem dX5_go_466 : decode cX5_go 466 = .ok (.iaload, 1) := by decide +kernel
theorem dX5_go_467 : decode cX5_go 467 = .ok (.iconst 2, 1) := by decide +kernel
theorem dX5_go_468 : decode cX5_go 468 = .ok (.if_icmp .le 7, 3) := by decide +kernel
theorem dX5_go_471 : decode cX5_go 471 = .ok (.iconst 3, 1) := by decide +kernel
theorem dX5_go_472 : decode cX5_go 472 = .ok (.goto 4, 3) := by decide +kernel
theorem dX5_go_475 : decode cX5_go 475 = .ok (.iconst 0, 1) := by decide +kernel
theorem dX5_go_476 : decode cX5_go 476 = .ok (.invokevirtual 62, 3) := by decide +kernel
theorem dX5_go_479 : decode cX5_go 479 = .ok (.ifCond .ne 6, 3) := by decide +kernel
theorem dX5_go_482 : decode cX5_go 482 = .ok (.goto 36, 3) := by decide +kernel
theorem dX5_go_485 : decode cX5_go 485 = .ok (.aload 8, 2) := by decide +kernel
theorem dX5_go_487 : decode cX5_go 487 = .ok (.iconst 3, 1) := by decide +kernel
theorem dX5_go_488 : decode cX5_go 488 = .ok (.iconst 4, 1) := by decide +kernel
theorem dX5_go_489 : decode cX5_go 489 = .ok (.iastore, 1) := by decide +kernel
theorem dX5_go_490 : decode cX5_go 490 = .ok (.aload_n 0, 1) := by decide +kernel
theorem dX5_go_491 : decode cX5_go 491 = .ok (.dup, 1) := by decide +kernel
theorem dX5_go_492 : decode cX5_go 492 = .ok (.getfield 44, 3) := by decide +kernel
theorem dX5_go_495 : decode cX5_go 495 = .ok (.aload 8, 2) := by decide +kernel
theorem dX5_go_497 : decode cX5_go 497 = .ok (.iconst 1, 1) := by decide +kernel
theorem dX5_go_498 : decode cX5_go 498 = .ok (.iaload, 1) := by decide +kernel
theorem dX5_go_499 : decode cX5_go 499 = .ok (.iadd, 1) := by decide +kernel
theorem dX5_go_500 : decode cX5_go 500 = .ok (.putfield 44, 3) := by decide +kernel
theorem dX5_go_503 : decode cX5_go 503 = .ok (.aload 8, 2) := by decide +kernel
theorem dX5_go_505 : decode cX5_go 505 = .ok (.iconst 1, 1) := by decide +kernel
theorem dX5_go_506 : decode cX5_go 506 = .ok (.iconst 0, 1) := by decide +kernel
theorem dX5_go_507 : decode cX5_go 507 = .ok (.iastore, 1) := by decide +kernel
theorem dX5_go_508 : decode cX5_go 508 = .ok (.aload_n 3, 1) := by decide +kernel
theorem dX5_go_509 : decode cX5_go 509 = .ok (.iconst 5, 1) := by decide +kernel
theorem dX5_go_510 : decode cX5_go 510 = .ok (.dup2, 1) := by decide +kernel
theorem dX5_go_511 : decode cX5_go 511 = .ok (.iaload, 1) := by decide +kernel
theorem dX5_go_512 : decode cX5_go 512 = .ok (.iconst 1, 1) := by decide +kernel
theorem dX5_go_513 : decode cX5_go 513 = .ok (.iadd, 1) := by decide +kernel
theorem dX5_go_514 : decode cX5_go 514 = .ok (.iastore, 1) := by decide +kernel
theorem dX5_go_515 : decode cX5_go 515 = .ok (.iconst 1, 1) := by decide +kernel
theorem dX5_go_516 : decode cX5_go 516 = .ok (.istore 4, 2) := by decide +kernel
theorem dX5_go_518 : decode cX5_go 518 = .ok (.iinc 7 1, 3) := by decide +kernel
theorem dX5_go_521 : decode cX5_go 521 = .ok (.goto (-113), 3) := by decide +kernel
theorem dX5_go_524 : decode cX5_go 524 = .ok (.iinc 2 1, 3) := by decide +kernel
theorem dX5_go_527 : decode cX5_go 527 = .ok (.goto (-213), 3) := by decide +kernel
theorem dX5_go_530 : decode cX5_go 530 = .ok (.aload_n 0, 1) := by decide +kernel
theorem dX5_go_531 : decode cX5_go 531 = .ok (.dup, 1) := by decide +kernel
theorem dX5_go_532 : decode cX5_go 532 = .ok (.getfield 40, 3) := by decide +kernel
theorem dX5_go_535 : decode cX5_go 535 = .ok (.iconst 1, 1) := by decide +kernel
theorem dX5_go_536 : decode cX5_go 536 = .ok (.iadd, 1) := by decide +kernel
theorem dX5_go_537 : decode cX5_go 537 = .ok (.putfield 40, 3) := by decide +kernel
theorem dX5_go_540 : decode cX5_go 540 = .ok (.iload_n 1, 1) := by decide +kernel
theorem dX5_go_541 : decode cX5_go 541 = .ok (.ireturn, 1) := by decide +kernel
theorem dX5_in_0 : decode cX5_in 0 = .ok (.iconst 0, 1) := by decide +kernel
theorem dX5_in_1 : decode cX5_in 1 = .ok (.istore_n 2, 1) := by decide +kernel
theorem dX5_in_2 : decode cX5_in 2 = .ok (.aload_n 0, 1) := by decide +kernel
theorem dX5_in_3 : decode cX5_in 3 = .ok (.getfield 30, 3) := by decide +kernel
theorem dX5_in_6 : decode cX5_in 6 = .ok (.astore_n 3, 1) := by decide +kernel
theorem dX5_in_7 : decode cX5_in 7 = .ok (.aload_n 3, 1) := by decide +kernel
theorem dX5_in_8 : decode cX5_in 8 = .ok (.arraylength, 1) := by decide +kernel
theorem dX5_in_9 : decode cX5_in 9 = .ok (.istore 4, 2) := by decide +kernel
theorem dX5_in_11 : decode cX5_in 11 = .ok (.iconst 0, 1) := by decide +kernel
theorem dX5_in_12 : decode cX5_in 12 = .ok (.istore 5, 2) := by decide +kernel
theorem dX5_in_14 : decode cX5_in 14 = .ok (.iload 5, 2) := by decide +kernel
theorem dX5_in_16 : decode cX5_in 16 = .ok (.iload 4, 2) := by decide +kernel
theorem dX5_in_18 : decode cX5_in 18 = .ok (.if_icmp .ge 31, 3) := by decide +kernel
theorem dX5_in_21 : decode cX5_in 21 = .ok (.aload_n 3, 1) := by decide +kernel
theorem dX5_in_22 : decode cX5_in 22 = .ok (.iload 5, 2) := by decide +kernel
theorem dX5_in_24 : decode cX5_in 24 = .ok (.aaload, 1) := by decide +kernel
theorem dX5_in_25 : decode cX5_in 25 = .ok (.astore 6, 2) := by decide +kernel
theorem dX5_in_27 : decode cX5_in 27 = .ok (.iload_n 2, 1) := by decide +kernel
theorem dX5_in_28 : decode cX5_in 28 = .ok (.aload 6, 2) := by decide +kernel
theorem dX5_in_30 : decode cX5_in 30 = .ok (.iconst 3, 1) := by decide +kernel
theorem dX5_in_31 : decode cX5_in 31 = .ok (.iaload, 1) := by decide +kernel
theorem dX5_in_32 : decode cX5_in 32 = .ok (.iload_n 1, 1) := by decide +kernel
theorem dX5_in_33 : decode cX5_in 33 = .ok (.if_icmp .ne 7, 3) := by decide +kernel
theorem dX5_in_36 : decode cX5_in 36 = .ok (.iconst 1, 1) := by decide +kernel
theorem dX5_in_37 : decode cX5_in 37 = .ok (.goto 4, 3) := by decide +kernel
theorem dX5_in_40 : decode cX5_in 40 = .ok (.iconst 0, 1) := by decide +kernel
theorem dX5_in_41 : decode cX5_in 41 = .ok (.iadd, 1) := by decide +kernel
theorem dX5_in_42 : decode cX5_in 42 = .ok (.istore_n 2, 1) := by decide +kernel
theorem dX5_in_43 : decode cX5_in 43 = .ok (.iinc 5 1, 3) := by decide +kernel
theorem dX5_in_46 : decode cX5_in 46 = .ok (.goto (-32), 3) := by decide +kernel
theorem dX5_in_49 : decode cX5_in 49 = .ok (.iload_n 2, 1) := by decide +kernel
theorem dX5_in_50 : decode cX5_in 50 = .ok (.ireturn, 1) := by decide +kernel
theorem dX5_caves_0 : decode cX5_caves 0 = .ok (.iconst 0, 1) := by decide +kernel
theorem dX5_caves_1 : decode cX5_caves 1 = .ok (.istore_n 1, 1) := by decide +kernel
theorem dX5_caves_2 : decode cX5_caves 2 = .ok (.aload_n 0, 1) := by decide +kernel
theorem dX5_caves_3 : decode cX5_caves 3 = .ok (.getfield 13, 3) := by decide +kernel
theorem dX5_caves_6 : decode cX5_caves 6 = .ok (.astore_n 2, 1) := by decide +kernel
theorem dX5_caves_7 : decode cX5_caves 7 = .ok (.aload_n 2, 1) := by decide +kernel
theorem dX5_caves_8 : decode cX5_caves 8 = .ok (.arraylength, 1) := by decide +kernel
theorem dX5_caves_9 : decode cX5_caves 9 = .ok (.istore_n 3, 1) := by decide +kernel
theorem dX5_caves_10 : decode cX5_caves 10 = .ok (.iconst 0, 1) := by decide +kernel
theorem dX5_caves_11 : decode cX5_caves 11 = .ok (.istore 4, 2) := by decide +kernel
theorem dX5_caves_13 : decode cX5_caves 13 = .ok (.iload 4, 2) := by decide +kernel
theorem dX5_caves_15 : decode cX5_caves 15 = .ok (.iload_n 3, 1) := by decide +kernel
theorem dX5_caves_16 : decode cX5_caves 16 = .ok (.if_icmp .ge 20, 3) := by decide +kernel
theorem dX5_caves_19 : decode cX5_caves 19 = .ok (.aload_n 2, 1) := by decide +kernel
theorem dX5_caves_20 : decode cX5_caves 20 = .ok (.iload 4, 2) := by decide +kernel
theorem dX5_caves_22 : decode cX5_caves 22 = .ok (.iaload, 1) := by decide +kernel
theorem dX5_caves_23 : decode cX5_caves 23 = .ok (.istore 5, 2) := by decide +kernel
theorem dX5_caves_25 : decode cX5_caves 25 = .ok (.iload_n 1, 1) := by decide +kernel
theorem dX5_caves_26 : decode cX5_caves 26 = .ok (.iload 5, 2) := by decide +kernel
theorem dX5_caves_28 : decode cX5_caves 28 = .ok (.iadd, 1) := by decide +kernel
theorem dX5_caves_29 : decode cX5_caves 29 = .ok (.istore_n 1, 1) := by decide +kernel
theorem dX5_caves_30 : decode cX5_caves 30 = .ok (.iinc 4 1, 3) := by decide +kernel
theorem dX5_caves_33 : decode cX5_caves 33 = .ok (.goto (-20), 3) := by decide +kernel
theorem dX5_caves_36 : decode cX5_caves 36 = .ok (.iload_n 1, 1) := by decide +kernel
theorem dX5_caves_37 : decode cX5_caves 37 = .ok (.ireturn, 1) := by decide +kernel
theorem dX5_counted_0 : decode cX5_counted 0 = .ok (.iconst 0, 1) := by decide +kernel
theorem dX5_counted_1 : decode cX5_counted 1 = .ok (.istore_n 2, 1) := by decide +kernel
theorem dX5_counted_2 : decode cX5_counted 2 = .ok (.iconst 1, 1) := by decide +kernel
theorem dX5_counted_3 : decode cX5_counted 3 = .ok (.istore_n 3, 1) := by decide +kernel
theorem dX5_counted_4 : decode cX5_counted 4 = .ok (.iload_n 3, 1) := by decide +kernel
theorem dX5_counted_5 : decode cX5_counted 5 = .ok (.bipush 8, 2) := by decide +kernel
theorem dX5_counted_7 : decode cX5_counted 7 = .ok (.if_icmp .ge 27, 3) := by decide +kernel
theorem dX5_counted_10 : decode cX5_counted 10 = .ok (.iload_n 2, 1) := by decide +kernel
theorem dX5_counted_11 : decode cX5_counted 11 = .ok (.aload_n 0, 1) := by decide +kernel
theorem dX5_counted_12 : decode cX5_counted 12 = .ok (.getfield 19, 3) := by decide +kernel
theorem dX5_counted_15 : decode cX5_counted 15 = .ok (.iload_n 3, 1) := by decide +kernel
theorem dX5_counted_16 : decode cX5_counted 16 = .ok (.iaload, 1) := by decide +kernel
theorem dX5_counted_17 : decode cX5_counted 17 = .ok (.iconst 2, 1) := by decide +kernel
theorem dX5_counted_18 : decode cX5_counted 18 = .ok (.if_icmp .le 7, 3) := by decide +kernel
theorem dX5_counted_21 : decode cX5_counted 21 = .ok (.iconst 1, 1) := by decide +kernel
theorem dX5_counted_22 : decode cX5_counted 22 = .ok (.goto 4, 3) := by decide +kernel
theorem dX5_counted_25 : decode cX5_counted 25 = .ok (.iconst 0, 1) := by decide +kernel
theorem dX5_counted_26 : decode cX5_counted 26 = .ok (.iadd, 1) := by decide +kernel
theorem dX5_counted_27 : decode cX5_counted 27 = .ok (.istore_n 2, 1) := by decide +kernel
theorem dX5_counted_28 : decode cX5_counted 28 = .ok (.iinc 3 1, 3) := by decide +kernel
theorem dX5_counted_31 : decode cX5_counted 31 = .ok (.goto (-27), 3) := by decide +kernel
theorem dX5_counted_34 : decode cX5_counted 34 = .ok (.bipush 11, 2) := by decide +kernel
theorem dX5_counted_36 : decode cX5_counted 36 = .ok (.newarray .int, 2) := by decide +kernel
theorem dX5_counted_38 : decode cX5_counted 38 = .ok (.dup, 1) := by decide +kernel
theorem dX5_counted_39 : decode cX5_counted 39 = .ok (.iconst 0, 1) := by decide +kernel
theorem dX5_counted_40 : decode cX5_counted 40 = .ok (.aload_n 0, 1) := by decide +kernel
theorem dX5_counted_41 : decode cX5_counted 41 = .ok (.getfield 40, 3) := by decide +kernel
theorem dX5_counted_44 : decode cX5_counted 44 = .ok (.iastore, 1) := by decide +kernel
theorem dX5_counted_45 : decode cX5_counted 45 = .ok (.dup, 1) := by decide +kernel
theorem dX5_counted_46 : decode cX5_counted 46 = .ok (.iconst 1, 1) := by decide +kernel
theorem dX5_counted_47 : decode cX5_counted 47 = .ok (.aload_n 0, 1) := by decide +kernel
theorem dX5_counted_48 : decode cX5_counted 48 = .ok (.getfield 23, 3) := by decide +kernel
theorem dX5_counted_51 : decode cX5_counted 51 = .ok (.arraylength, 1) := by decide +kernel
theorem dX5_counted_52 : decode cX5_counted 52 = .ok (.iastore, 1) := by decide +kernel
theorem dX5_counted_53 : decode cX5_counted 53 = .ok (.dup, 1) := by decide +kernel
theorem dX5_counted_54 : decode cX5_counted 54 = .ok (.iconst 2, 1) := by decide +kernel
theorem dX5_counted_55 : decode cX5_counted 55 = .ok (.aload_n 0, 1) := by decide +kernel
theorem dX5_counted_56 : decode cX5_counted 56 = .ok (.getfield 27, 3) := by decide +kernel
theorem dX5_counted_59 : decode cX5_counted 59 = .ok (.arraylength, 1) := by decide +kernel
theorem dX5_counted_60 : decode cX5_counted 60 = .ok (.iastore, 1) := by decide +kernel
theorem dX5_counted_61 : decode cX5_counted 61 = .ok (.dup, 1) := by decide +kernel
theorem dX5_counted_62 : decode cX5_counted 62 = .ok (.iconst 3, 1) := by decide +kernel
theorem dX5_counted_63 : decode cX5_counted 63 = .ok (.aload_n 0, 1) := by decide +kernel
theorem dX5_counted_64 : decode cX5_counted 64 = .ok (.getfield 30, 3) := by decide +kernel
theorem dX5_counted_67 : decode cX5_counted 67 = .ok (.arraylength, 1) := by decide +kernel
theorem dX5_counted_68 : decode cX5_counted 68 = .ok (.iastore, 1) := by decide +kernel
theorem dX5_counted_69 : decode cX5_counted 69 = .ok (.dup, 1) := by decide +kernel
theorem dX5_counted_70 : decode cX5_counted 70 = .ok (.iconst 4, 1) := by decide +kernel
theorem dX5_counted_71 : decode cX5_counted 71 = .ok (.aload_n 0, 1) := by decide +kernel
theorem dX5_counted_72 : decode cX5_counted 72 = .ok (.iconst 0, 1) := by decide +kernel
theorem dX5_counted_73 : decode cX5_counted 73 = .ok (.invokevirtual 81, 3) := by decide +kernel
theorem dX5_counted_76 : decode cX5_counted 76 = .ok (.iastore, 1) := by decide +kernel
theorem dX5_counted_77 : decode cX5_counted 77 = .ok (.dup, 1) := by decide +kernel
theorem dX5_counted_78 : decode cX5_counted 78 = .ok (.iconst 5, 1) := by decide +kernel
theorem dX5_counted_79 : decode cX5_counted 79 = .ok (.aload_n 0, 1) := by decide +kernel
theorem dX5_counted_80 : decode cX5_counted 80 = .ok (.iconst 3, 1) := by decide +kernel
theorem dX5_counted_81 : decode cX5_counted 81 = .ok (.invokevirtual 81, 3) := by decide +kernel
theorem dX5_counted_84 : decode cX5_counted 84 = .ok (.iastore, 1) := by decide +kernel
theorem dX5_counted_85 : decode cX5_counted 85 = .ok (.dup, 1) := by decide +kernel
theorem dX5_counted_86 : decode cX5_counted 86 = .ok (.bipush 6, 2) := by decide +kernel
theorem dX5_counted_88 : decode cX5_counted 88 = .ok (.aload_n 0, 1) := by decide +kernel
theorem dX5_counted_89 : decode cX5_counted 89 = .ok (.iconst 4, 1) := by decide +kernel
theorem dX5_counted_90 : decode cX5_counted 90 = .ok (.invokevirtual 81, 3) := by decide +kernel
theorem dX5_counted_93 : decode cX5_counted 93 = .ok (.iastore, 1) := by decide +kernel
theorem dX5_counted_94 : decode cX5_counted 94 = .ok (.dup, 1) := by decide +kernel
theorem dX5_counted_95 : decode cX5_counted 95 = .ok (.bipush 7, 2) := by decide +kernel
theorem dX5_counted_97 : decode cX5_counted 97 = .ok (.aload_n 0, 1) := by decide +kernel
theorem dX5_counted_98 : decode cX5_counted 98 = .ok (.invokevirtual 84, 3) := by decide +kernel
theorem dX5_counted_101 : decode cX5_counted 101 = .ok (.iastore, 1) := by decide +kernel
theorem dX5_counted_102 : decode cX5_counted 102 = .ok (.dup, 1) := by decide +kernel
theorem dX5_counted_103 : decode cX5_counted 103 = .ok (.bipush 8, 2) := by decide +kernel
theorem dX5_counted_105 : decode cX5_counted 105 = .ok (.aload_n 0, 1) := by decide +kernel
theorem dX5_counted_106 : decode cX5_counted 106 = .ok (.getfield 44, 3) := by decide +kernel
theorem dX5_counted_109 : decode cX5_counted 109 = .ok (.iastore, 1) := by decide +kernel
theorem dX5_counted_110 : decode cX5_counted 110 = .ok (.dup, 1) := by decide +kernel
theorem dX5_counted_111 : decode cX5_counted 111 = .ok (.bipush 9, 2) := by decide +kernel
theorem dX5_counted_113 : decode cX5_counted 113 = .ok (.aload_n 0, 1) := by decide +kernel
theorem dX5_counted_114 : decode cX5_counted 114 = .ok (.getfield 47, 3) := by decide +kernel
theorem dX5_counted_117 : decode cX5_counted 117 = .ok (.iastore, 1) := by decide +kernel
theorem dX5_counted_118 : decode cX5_counted 118 = .ok (.dup, 1) := by decide +kernel
theorem dX5_counted_119 : decode cX5_counted 119 = .ok (.bipush 10, 2) := by decide +kernel
theorem dX5_counted_121 : decode cX5_counted 121 = .ok (.iload_n 2, 1) := by decide +kernel
theorem dX5_counted_122 : decode cX5_counted 122 = .ok (.iastore, 1) := by decide +kernel
theorem dX5_counted_123 : decode cX5_counted 123 = .ok (.astore_n 3, 1) := by decide +kernel
theorem dX5_counted_124 : decode cX5_counted 124 = .ok (.aload_n 3, 1) := by decide +kernel
theorem dX5_counted_125 : decode cX5_counted 125 = .ok (.iload_n 1, 1) := by decide +kernel
theorem dX5_counted_126 : decode cX5_counted 126 = .ok (.iaload, 1) := by decide +kernel
theorem dX5_counted_127 : decode cX5_counted 127 = .ok (.ireturn, 1) := by decide +kernel
theorem dX5_isSame_0 : decode cX5_isSame 0 = .ok (.iconst 0, 1) := by decide +kernel
theorem dX5_isSame_1 : decode cX5_isSame 1 = .ok (.istore_n 2, 1) := by decide +kernel
theorem dX5_isSame_2 : decode cX5_isSame 2 = .ok (.iload_n 2, 1) := by decide +kernel
theorem dX5_isSame_3 : decode cX5_isSame 3 = .ok (.bipush 11, 2) := by decide +kernel
theorem dX5_isSame_5 : decode cX5_isSame 5 = .ok (.if_icmp .ge 24, 3) := by decide +kernel
theorem dX5_isSame_8 : decode cX5_isSame 8 = .ok (.aload_n 1, 1) := by decide +kernel
theorem dX5_isSame_9 : decode cX5_isSame 9 = .ok (.iload_n 2, 1) := by decide +kernel
theorem dX5_isSame_10 : decode cX5_isSame 10 = .ok (.invokevirtual 87, 3) := by decide +kernel
theorem dX5_isSame_13 : decode cX5_isSame 13 = .ok (.aload_n 0, 1) := by decide +kernel
theorem dX5_isSame_14 : decode cX5_isSame 14 = .ok (.iload_n 2, 1) := by decide +kernel
theorem dX5_isSame_15 : decode cX5_isSame 15 = .ok (.invokevirtual 92, 3) := by decide +kernel
theorem dX5_isSame_18 : decode cX5_isSame 18 = .ok (.if_icmp .eq 5, 3) := by decide +kernel
theorem dX5_isSame_21 : decode cX5_isSame 21 = .ok (.iconst 0, 1) := by decide +kernel
theorem dX5_isSame_22 : decode cX5_isSame 22 = .ok (.ireturn, 1) := by decide +kernel
theorem dX5_isSame_23 : decode cX5_isSame 23 = .ok (.iinc 2 1, 3) := by decide +kernel
theorem dX5_isSame_26 : decode cX5_isSame 26 = .ok (.goto (-24), 3) := by decide +kernel
theorem dX5_isSame_29 : decode cX5_isSame 29 = .ok (.iconst 0, 1) := by decide +kernel
theorem dX5_isSame_30 : decode cX5_isSame 30 = .ok (.istore_n 2, 1) := by decide +kernel
theorem dX5_isSame_31 : decode cX5_isSame 31 = .ok (.iconst 0, 1) := by decide +kernel
theorem dX5_isSame_32 : decode cX5_isSame 32 = .ok (.istore_n 3, 1) := by decide +kernel
theorem dX5_isSame_33 : decode cX5_isSame 33 = .ok (.iload_n 3, 1) := by decide +kernel
theorem dX5_isSame_34 : decode cX5_isSame 34 = .ok (.bipush 16, 2) := by decide +kernel
theorem dX5_isSame_36 : decode cX5_isSame 36 = .ok (.if_icmp .ge 199, 3) := by decide +kernel
theorem dX5_isSame_39 : decode cX5_isSame 39 = .ok (.iconst 0, 1) := by decide +kernel
theorem dX5_isSame_40 : decode cX5_isSame 40 = .ok (.istore 4, 2) := by decide +kernel
theorem dX5_isSame_42 : decode cX5_isSame 42 = .ok (.iconst 0, 1) := by decide +kernel
theorem dX5_isSame_43 : decode cX5_isSame 43 = .ok (.istore 5, 2) := by decide +kernel
theorem dX5_isSame_45 : decode cX5_isSame 45 = .ok (.aload_n 0, 1) := by decide +kernel
theorem dX5_isSame_46 : decode cX5_isSame 46 = .ok (.getfield 27, 3) := by decide +kernel
theorem dX5_isSame_49 : decode cX5_isSame 49 = .ok (.astore 6, 2) := by decide +kernel
theorem dX5_isSame_51 : decode cX5_isSame 51 = .ok (.aload 6, 2) := by decide +kernel
theorem dX5_isSame_53 : decode cX5_isSame 53 = .ok (.arraylength, 1) := by decide +kernel
theorem dX5_isSame_54 : decode cX5_isSame 54 = .ok (.istore 7, 2) := by decide +kernel
theorem dX5_isSame_56 : decode cX5_isSame 56 = .ok (.iconst 0, 1) := by decide +kernel
theorem dX5_isSame_57 : decode cX5_isSame 57 = .ok (.istore 8, 2) := by decide +kernel
theorem dX5_isSame_59 : decode cX5_isSame 59 = .ok (.iload 8, 2) := by decide +kernel
theorem dX5_isSame_61 : decode cX5_isSame 61 = .ok (.iload 7, 2) := by decide +kernel
theorem dX5_isSame_63 : decode cX5_isSame 63 = .ok (.if_icmp .ge 34, 3) := by decide +kernel
theorem dX5_isSame_66 : decode cX5_isSame 66 = .ok (.aload 6, 2) := by decide +kernel
theorem dX5_isSame_68 : decode cX5_isSame 68 = .ok (.iload 8, 2) := by decide +kernel
theorem dX5_isSame_70 : decode cX5_isSame 70 = .ok (.aaload, 1) := by decide +kernel
theorem dX5_isSame_71 : decode cX5_isSame 71 = .ok (.astore 9, 2) := by decide +kernel
theorem dX5_isSame_73 : decode cX5_isSame 73 = .ok (.iload 4, 2) := by decide +kernel
theorem dX5_isSame_75 : decode cX5_isSame 75 = .ok (.aload 9, 2) := by decide +kernel
theorem dX5_isSame_77 : decode cX5_isSame 77 = .ok (.iconst 3, 1) := by decide +kernel
theorem dX5_isSame_78 : decode cX5_isSame 78 = .ok (.iaload, 1) := by decide +kernel
theorem dX5_isSame_79 : decode cX5_isSame 79 = .ok (.iload_n 3, 1) := by decide +kernel
theorem dX5_isSame_80 : decode cX5_isSame 80 = .ok (.if_icmp .ne 7, 3) := by decide +kernel
theorem dX5_isSame_83 : decode cX5_isSame 83 = .ok (.iconst 1, 1) := by decide +kernel
theorem dX5_isSame_84 : decode cX5_isSame 84 = .ok (.goto 4, 3) := by decide +kernel
theorem dX5_isSame_87 : decode cX5_isSame 87 = .ok (.iconst 0, 1) := by decide +kernel
theorem dX5_isSame_88 : decode cX5_isSame 88 = .ok (.iadd, 1) := by decide +kernel
theorem dX5_isSame_89 : decode cX5_isSame 89 = .ok (.istore 4, 2) := by decide +kernel
theorem dX5_isSame_91 : decode cX5_isSame 91 = .ok (.iinc 8 1, 3) := by decide +kernel
theorem dX5_isSame_94 : decode cX5_isSame 94 = .ok (.goto (-35), 3) := by decide +kernel
theorem dX5_isSame_97 : decode cX5_isSame 97 = .ok (.aload_n 0, 1) := by decide +kernel
theorem dX5_isSame_98 : decode cX5_isSame 98 = .ok (.getfield 30, 3) := by decide +kernel
theorem dX5_isSame_101 : decode cX5_isSame 101 = .ok (.astore 6, 2) := by decide +kernel
theorem dX5_isSame_103 : decode cX5_isSame 103 = .ok (.aload 6, 2) := by decide +kernel
theorem dX5_isSame_105 : decode cX5_isSame 105 = .ok (.arraylength, 1) := by decide +kernel
theorem dX5_isSame_106 : decode cX5_isSame 106 = .ok (.istore 7, 2) := by decide +kernel
theorem dX5_isSame_108 : decode cX5_isSame 108 = .ok (.iconst 0, 1) := by decide +kernel
theorem dX5_isSame_109 : decode cX5_isSame 109 = .ok (.istore 8, 2) := by decide +kernel
theorem dX5_isSame_111 : decode cX5_isSame 111 = .ok (.iload 8, 2) := by decide +kernel
theorem dX5_isSame_113 : decode cX5_isSame 113 = .ok (.iload 7, 2) := by decide +kernel
theorem dX5_isSame_115 : decode cX5_isSame 115 = .ok (.if_icmp .ge 41, 3) := by decide +kernel
theorem dX5_isSame_118 : decode cX5_isSame 118 = .ok (.aload 6, 2) := by decide +kernel
theorem dX5_isSame_120 : decode cX5_isSame 120 = .ok (.iload 8, 2) := by decide +kernel
theorem dX5_isSame_122 : decode cX5_isSame 122 = .ok (.aaload, 1) := by decide +kernel
theorem dX5_isSame_123 : decode cX5_isSame 123 = .ok (.astore 9, 2) := by decide +kernel
theorem dX5_isSame_125 : decode cX5_isSame 125 = .ok (.iload 5, 2) := by decide +kernel
theorem dX5_isSame_127 : decode cX5_isSame 127 = .ok (.aload 9, 2) := by decide +kernel
theorem dX5_isSame_129 : decode cX5_isSame 129 = .ok (.iconst 3, 1) := by decide +kernel
theorem dX5_isSame_130 : decode cX5_isSame 130 = .ok (.iaload, 1) := by decide +kernel
theorem dX5_isSame_131 : decode cX5_isSame 131 = .ok (.ifCond .ne 15, 3) := by decide +kernel
theorem dX5_isSame_134 : decode cX5_isSame 134 = .ok (.aload 9, 2) := by decide +kernel
theorem dX5_isSame_136 : decode cX5_isSame 136 = .ok (.iconst 0, 1) := by decide +kernel
theorem dX5_isSame_137 : decode cX5_isSame 137 = .ok (.iaload, 1) := by decide +kernel
theorem dX5_isSame_138 : decode cX5_isSame 138 = .ok (.iload_n 3, 1) := by decide +kernel
theorem dX5_isSame_139 : decode cX5_isSame 139 = .ok (.if_icmp .ne 7, 3) := by decide +kernel
theorem dX5_isSame_142 : decode cX5_isSame 142 = .ok (.iconst 1, 1) := by decide +kernel
theorem dX5_isSame_143 : decode cX5_isSame 143 = .ok (.goto 4, 3) := by decide +kernel
theorem dX5_isSame_146 : decode cX5_isSame 146 = .ok (.iconst 0, 1) := by decide +kernel
theorem dX5_isSame_147 : decode cX5_isSame 147 = .ok (.iadd, 1) := by decide +kernel
theorem dX5_isSame_148 : decode cX5_isSame 148 = .ok (.istore 5, 2) := by decide +kernel
theorem dX5_isSame_150 : decode cX5_isSame 150 = .ok (.iinc 8 1, 3) := by decide +kernel
theorem dX5_isSame_153 : decode cX5_isSame 153 = .ok (.goto (-42), 3) := by decide +kernel
theorem dX5_isSame_156 : decode cX5_isSame 156 = .ok (.iconst 5, 1) := by decide +kernel
theorem dX5_isSame_157 : decode cX5_isSame 157 = .ok (.newarray .int, 2) := by decide +kernel
theorem dX5_isSame_159 : decode cX5_isSame 159 = .ok (.dup, 1) := by decide +kernel
theorem dX5_isSame_160 : decode cX5_isSame 160 = .ok (.iconst 0, 1) := by decide +kernel
theorem dX5_isSame_161 : decode cX5_isSame 161 = .ok (.aload_n 0, 1) := by decide +kernel
theorem dX5_isSame_162 : decode cX5_isSame 162 = .ok (.getfield 7, 3) := by decide +kernel
theorem dX5_isSame_165 : decode cX5_isSame 165 = .ok (.iload_n 3, 1) := by decide +kernel
theorem dX5_isSame_166 : decode cX5_isSame 166 = .ok (.iaload, 1) := by decide +kernel
theorem dX5_isSame_167 : decode cX5_isSame 167 = .ok (.iastore, 1) := by decide +kernel
theorem dX5_isSame_168 : decode cX5_isSame 168 = .ok (.dup, 1) := by decide +kernel
theorem dX5_isSame_169 : decode cX5_isSame 169 = .ok (.iconst 1, 1) := by decide +kernel
theorem dX5_isSame_170 : decode cX5_isSame 170 = .ok (.aload_n 0, 1) := by decide +kernel
theorem dX5_isSame_171 : decode cX5_isSame 171 = .ok (.getfield 13, 3) := by decide +kernel
theorem dX5_isSame_174 : decode cX5_isSame 174 = .ok (.iload_n 3, 1) := by decide +kernel
theorem dX5_isSame_175 : decode cX5_isSame 175 = .ok (.iaload, 1) := by decide +kernel
theorem dX5_isSame_176 : decode cX5_isSame 176 = .ok (.iastore, 1) := by decide +kernel
theorem dX5_isSame_177 : decode cX5_isSame 177 = .ok (.dup, 1) := by decide +kernel
theorem dX5_isSame_178 : decode cX5_isSame 178 = .ok (.iconst 2, 1) := by decide +kernel
theorem dX5_isSame_179 : decode cX5_isSame 179 = .ok (.iload 4, 2) := by decide +kernel
theorem dX5_isSame_181 : decode cX5_isSame 181 = .ok (.iastore, 1) := by decide +kernel
theorem dX5_isSame_182 : decode cX5_isSame 182 = .ok (.dup, 1) := by decide +kernel
theorem dX5_isSame_183 : decode cX5_isSame 183 = .ok (.iconst 3, 1) := by decide +kernel
theorem dX5_isSame_184 : decode cX5_isSame 184 = .ok (.iload 5, 2) := by decide +kernel
theorem dX5_isSame_186 : decode cX5_isSame 186 = .ok (.iastore, 1) := by decide +kernel
theorem dX5_isSame_187 : decode cX5_isSame 187 = .ok (.dup, 1) := by decide +kernel
theorem dX5_isSame_188 : decode cX5_isSame 188 = .ok (.iconst 4, 1) := by decide +kernel
theorem dX5_isSame_189 : decode cX5_isSame 189 = .ok (.aload_n 0, 1) := by decide +kernel
theorem dX5_isSame_190 : decode cX5_isSame 190 = .ok (.iload_n 3, 1) := by decide +kernel
theorem dX5_isSame_191 : decode cX5_isSame 191 = .ok (.invokevirtual 95, 3) := by decide +kernel
theorem dX5_isSame_194 : decode cX5_isSame 194 = .ok (.iastore, 1) := by decide +kernel
theorem dX5_isSame_195 : decode cX5_isSame 195 = .ok (.astore 6, 2) := by decide +kernel
theorem dX5_isSame_197 : decode cX5_isSame 197 = .ok (.iconst 0, 1) := by decide +kernel
theorem dX5_isSame_198 : decode cX5_isSame 198 = .ok (.istore 7, 2) := by decide +kernel
theorem dX5_isSame_200 : decode cX5_isSame 200 = .ok (.iload 7, 2) := by decide +kernel
theorem dX5_isSame_202 : decode cX5_isSame 202 = .ok (.iconst 5, 1) := by decide +kernel
theorem dX5_isSame_203 : decode cX5_isSame 203 = .ok (.if_icmp .ge 26, 3) := by decide +kernel
theorem dX5_isSame_206 : decode cX5_isSame 206 = .ok (.aload_n 1, 1) := by decide +kernel
theorem dX5_isSame_207 : decode cX5_isSame 207 = .ok (.iload_n 3, 1) := by decide +kernel
theorem dX5_isSame_208 : decode cX5_isSame 208 = .ok (.iload 7, 2) := by decide +kernel
theorem dX5_isSame_210 : decode cX5_isSame 210 = .ok (.invokevirtual 98, 3) := by decide +kernel
theorem dX5_isSame_213 : decode cX5_isSame 213 = .ok (.aload 6, 2) := by decide +kernel
theorem dX5_isSame_215 : decode cX5_isSame 215 = .ok (.iload 7, 2) := by decide +kernel
theorem dX5_isSame_217 : decode cX5_isSame 217 = .ok (.iaload, 1) := by decide +kernel
theorem dX5_isSame_218 : decode cX5_isSame 218 = .ok (.if_icmp .eq 5, 3) := by decide +kernel
theorem dX5_isSame_221 : decode cX5_isSame 221 = .ok (.iconst 0, 1) := by decide +kernel
theorem dX5_isSame_222 : decode cX5_isSame 222 = .ok (.ireturn, 1) := by decide +kernel
theorem dX5_isSame_223 : decode cX5_isSame 223 = .ok (.iinc 7 1, 3) := by decide +kernel
theorem dX5_isSame_226 : decode cX5_isSame 226 = .ok (.goto (-26), 3) := by decide +kernel
theorem dX5_isSame_229 : decode cX5_isSame 229 = .ok (.iinc 3 1, 3) := by decide +kernel
theorem dX5_isSame_232 : decode cX5_isSame 232 = .ok (.goto (-199), 3) := by decide +kernel
theorem dX5_isSame_235 : decode cX5_isSame 235 = .ok (.iconst 1, 1) := by decide +kernel
theorem dX5_isSame_236 : decode cX5_isSame 236 = .ok (.istore_n 3, 1) := by decide +kernel
theorem dX5_isSame_237 : decode cX5_isSame 237 = .ok (.iload_n 3, 1) := by decide +kernel
theorem dX5_isSame_238 : decode cX5_isSame 238 = .ok (.bipush 8, 2) := by decide +kernel
theorem dX5_isSame_240 : decode cX5_isSame 240 = .ok (.if_icmp .ge 149, 3) := by decide +kernel
theorem dX5_isSame_243 : decode cX5_isSame 243 = .ok (.iconst 0, 1) := by decide +kernel
theorem dX5_isSame_244 : decode cX5_isSame 244 = .ok (.istore 4, 2) := by decide +kernel
theorem dX5_isSame_246 : decode cX5_isSame 246 = .ok (.aload_n 0, 1) := by decide +kernel
theorem dX5_isSame_247 : decode cX5_isSame 247 = .ok (.getfield 30, 3) := by decide +kernel
theorem dX5_isSame_250 : decode cX5_isSame 250 = .ok (.astore 5, 2) := by decide +kernel
theorem dX5_isSame_252 : decode cX5_isSame 252 = .ok (.aload 5, 2) := by decide +kernel
theorem dX5_isSame_254 : decode cX5_isSame 254 = .ok (.arraylength, 1) := by decide +kernel
theorem dX5_isSame_255 : decode cX5_isSame 255 = .ok (.istore 6, 2) := by decide +kernel
theorem dX5_isSame_257 : decode cX5_isSame 257 = .ok (.iconst 0, 1) := by decide +kernel
theorem dX5_isSame_258 : decode cX5_isSame 258 = .ok (.istore 7, 2) := by decide +kernel
theorem dX5_isSame_260 : decode cX5_isSame 260 = .ok (.iload 7, 2) := by decide +kernel
theorem dX5_isSame_262 : decode cX5_isSame 262 = .ok (.iload 6, 2) := by decide +kernel
theorem dX5_isSame_264 : decode cX5_isSame 264 = .ok (.if_icmp .ge 41, 3) := by decide +kernel
theorem dX5_isSame_267 : decode cX5_isSame 267 = .ok (.aload 5, 2) := by decide +kernel
theorem dX5_isSame_269 : decode cX5_isSame 269 = .ok (.iload 7, 2) := by decide +kernel
theorem dX5_isSame_271 : decode cX5_isSame 271 = .ok (.aaload, 1) := by decide +kernel
theorem dX5_isSame_272 : decode cX5_isSame 272 = .ok (.astore 8, 2) := by decide +kernel
theorem dX5_isSame_274 : decode cX5_isSame 274 = .ok (.iload 4, 2) := by decide +kernel
theorem dX5_isSame_276 : decode cX5_isSame 276 = .ok (.aload 8, 2) := by decide +kernel
theorem dX5_isSame_278 : decode cX5_isSame 278 = .ok (.iconst 3, 1) := by decide +kernel
theorem dX5_isSame_279 : decode cX5_isSame 279 = .ok (.iaload, 1) := by decide +kernel
theorem dX5_isSame_280 : decode cX5_isSame 280 = .ok (.ifCond .ne 15, 3) := by decide +kernel
theorem dX5_isSame_283 : decode cX5_isSame 283 = .ok (.aload 8, 2) := by decide +kernel
theorem dX5_isSame_285 : decode cX5_isSame 285 = .ok (.iconst 5, 1) := by decide +kernel
theorem dX5_isSame_286 : decode cX5_isSame 286 = .ok (.iaload, 1) := by decide +kernel
theorem dX5_isSame_287 : decode cX5_isSame 287 = .ok (.iload_n 3, 1) := by decide +kernel
theorem dX5_isSame_288 : decode cX5_isSame 288 = .ok (.if_icmp .ne 7, 3) := by decide +kernel
theorem dX5_isSame_291 : decode cX5_isSame 291 = .ok (.iconst 1, 1) := by decide +kernel
theorem dX5_isSame_292 : decode cX5_isSame 292 = .ok (.goto 4, 3) := by decide +kernel
theorem dX5_isSame_295 : decode cX5_isSame 295 = .ok (.iconst 0, 1) := by decide +kernel
theorem dX5_isSame_296 : decode cX5_isSame 296 = .ok (.iadd, 1) := by decide +kernel
theorem dX5_isSame_297 : decode cX5_isSame 297 = .ok (.istore 4, 2) := by decide +kernel
theorem dX5_isSame_299 : decode cX5_isSame 299 = .ok (.iinc 7 1, 3) := by decide +kernel
theorem dX5_isSame_302 : decode cX5_isSame 302 = .ok (.goto (-42), 3) := by decide +kernel
theorem dX5_isSame_305 : decode cX5_isSame 305 = .ok (.iconst 4, 1) := by decide +kernel
theorem dX5_isSame_306 : decode cX5_isSame 306 = .ok (.newarray .int, 2) := by decide +kernel
theorem dX5_isSame_308 : decode cX5_isSame 308 = .ok (.dup, 1) := by decide +kernel
theorem dX5_isSame_309 : decode cX5_isSame 309 = .ok (.iconst 0, 1) := by decide +kernel
theorem dX5_isSame_310 : decode cX5_isSame 310 = .ok (.aload_n 0, 1) := by decide +kernel
theorem dX5_isSame_311 : decode cX5_isSame 311 = .ok (.getfield 16, 3) := by decide +kernel
theorem dX5_isSame_314 : decode cX5_isSame 314 = .ok (.iload_n 3, 1) := by decide +kernel
theorem dX5_isSame_315 : decode cX5_isSame 315 = .ok (.iaload, 1) := by decide +kernel
theorem dX5_isSame_316 : decode cX5_isSame 316 = .ok (.iastore, 1) := by decide +kernel
theorem dX5_isSame_317 : decode cX5_isSame 317 = .ok (.dup, 1) := by decide +kernel
theorem dX5_isSame_318 : decode cX5_isSame 318 = .ok (.iconst 1, 1) := by decide +kernel
theorem dX5_isSame_319 : decode cX5_isSame 319 = .ok (.aload_n 0, 1) := by decide +kernel
theorem dX5_isSame_320 : decode cX5_isSame 320 = .ok (.getfield 19, 3) := by decide +kernel
theorem dX5_isSame_323 : decode cX5_isSame 323 = .ok (.iload_n 3, 1) := by decide +kernel
theorem dX5_isSame_324 : decode cX5_isSame 324 = .ok (.iaload, 1) := by decide +kernel
theorem dX5_isSame_325 : decode cX5_isSame 325 = .ok (.iastore, 1) := by decide +kernel
theorem dX5_isSame_326 : decode cX5_isSame 326 = .ok (.dup, 1) := by decide +kernel
theorem dX5_isSame_327 : decode cX5_isSame 327 = .ok (.iconst 2, 1) := by decide +kernel
theorem dX5_isSame_328 : decode cX5_isSame 328 = .ok (.aload_n 0, 1) := by decide +kernel
theorem dX5_isSame_329 : decode cX5_isSame 329 = .ok (.getfield 19, 3) := by decide +kernel
theorem dX5_isSame_332 : decode cX5_isSame 332 = .ok (.iload_n 3, 1) := by decide +kernel
theorem dX5_isSame_333 : decode cX5_isSame 333 = .ok (.iaload, 1) := by decide +kernel
theorem dX5_isSame_334 : decode cX5_isSame 334 = .ok (.iconst 2, 1) := by decide +kernel
theorem dX5_isSame_335 : decode cX5_isSame 335 = .ok (.if_icmp .le 7, 3) := by decide +kernel
theorem dX5_isSame_338 : decode cX5_isSame 338 = .ok (.iconst 1, 1) := by decide +kernel
theorem dX5_isSame_339 : decode cX5_isSame 339 = .ok (.goto 4, 3) := by decide +kernel
theorem dX5_isSame_342 : decode cX5_isSame 342 = .ok (.iconst 0, 1) := by decide +kernel
theorem dX5_isSame_343 : decode cX5_isSame 343 = .ok (.iastore, 1) := by decide +kernel
theorem dX5_isSame_344 : decode cX5_isSame 344 = .ok (.dup, 1) := by decide +kernel
theorem dX5_isSame_345 : decode cX5_isSame 345 = .ok (.iconst 3, 1) := by decide +kernel
theorem dX5_isSame_346 : decode cX5_isSame 346 = .ok (.iload 4, 2) := by decide +kernel
theorem dX5_isSame_348 : decode cX5_isSame 348 = .ok (.iastore, 1) := by decide +kernel
theorem dX5_isSame_349 : decode cX5_isSame 349 = .ok (.astore 5, 2) := by decide +kernel
theorem dX5_isSame_351 : decode cX5_isSame 351 = .ok (.iconst 0, 1) := by decide +kernel
theorem dX5_isSame_352 : decode cX5_isSame 352 = .ok (.istore 6, 2) := by decide +kernel
theorem dX5_isSame_354 : decode cX5_isSame 354 = .ok (.iload 6, 2) := by decide +kernel
theorem dX5_isSame_356 : decode cX5_isSame 356 = .ok (.iconst 4, 1) := by decide +kernel
theorem dX5_isSame_357 : decode cX5_isSame 357 = .ok (.if_icmp .ge 26, 3) := by decide +kernel
theorem dX5_isSame_360 : decode cX5_isSame 360 = .ok (.aload_n 1, 1) := by decide +kernel
theorem dX5_isSame_361 : decode cX5_isSame 361 = .ok (.iload_n 3, 1) := by decide +kernel
theorem dX5_isSame_362 : decode cX5_isSame 362 = .ok (.iload 6, 2) := by decide +kernel
theorem dX5_isSame_364 : decode cX5_isSame 364 = .ok (.invokevirtual 101, 3) := by decide +kernel
theorem dX5_isSame_367 : decode cX5_isSame 367 = .ok (.aload 5, 2) := by decide +kernel
theorem dX5_isSame_369 : decode cX5_isSame 369 = .ok (.iload 6, 2) := by decide +kernel
theorem dX5_isSame_371 : decode cX5_isSame 371 = .ok (.iaload, 1) := by decide +kernel
theorem dX5_isSame_372 : decode cX5_isSame 372 = .ok (.if_icmp .eq 5, 3) := by decide +kernel
theorem dX5_isSame_375 : decode cX5_isSame 375 = .ok (.iconst 0, 1) := by decide +kernel
theorem dX5_isSame_376 : decode cX5_isSame 376 = .ok (.ireturn, 1) := by decide +kernel
theorem dX5_isSame_377 : decode cX5_isSame 377 = .ok (.iinc 6 1, 3) := by decide +kernel
theorem dX5_isSame_380 : decode cX5_isSame 380 = .ok (.goto (-26), 3) := by decide +kernel
theorem dX5_isSame_383 : decode cX5_isSame 383 = .ok (.iinc 3 1, 3) := by decide +kernel
theorem dX5_isSame_386 : decode cX5_isSame 386 = .ok (.goto (-149), 3) := by decide +kernel
theorem dX5_isSame_389 : decode cX5_isSame 389 = .ok (.iconst 0, 1) := by decide +kernel
theorem dX5_isSame_390 : decode cX5_isSame 390 = .ok (.istore_n 3, 1) := by decide +kernel
theorem dX5_isSame_391 : decode cX5_isSame 391 = .ok (.iload_n 3, 1) := by decide +kernel
theorem dX5_isSame_392 : decode cX5_isSame 392 = .ok (.aload_n 0, 1) := by decide +kernel
theorem dX5_isSame_393 : decode cX5_isSame 393 = .ok (.getfield 23, 3) := by decide +kernel
theorem dX5_isSame_396 : decode cX5_isSame 396 = .ok (.arraylength, 1) := by decide +kernel
theorem dX5_isSame_397 : decode cX5_isSame 397 = .ok (.if_icmp .ge 85, 3) := by decide +kernel
theorem dX5_isSame_400 : decode cX5_isSame 400 = .ok (.iconst 4, 1) := by decide +kernel
theorem dX5_isSame_401 : decode cX5_isSame 401 = .ok (.newarray .int, 2) := by decide +kernel
theorem dX5_isSame_403 : decode cX5_isSame 403 = .ok (.dup, 1) := by decide +kernel
theorem dX5_isSame_404 : decode cX5_isSame 404 = .ok (.iconst 0, 1) := by decide +kernel
theorem dX5_isSame_405 : decode cX5_isSame 405 = .ok (.aload_n 0, 1) := by decide +kernel
theorem dX5_isSame_406 : decode cX5_isSame 406 = .ok (.getfield 23, 3) := by decide +kernel
theorem dX5_isSame_409 : decode cX5_isSame 409 = .ok (.iload_n 3, 1) := by decide +kernel
theorem dX5_isSame_410 : decode cX5_isSame 410 = .ok (.aaload, 1) := by decide +kernel
theorem dX5_isSame_411 : decode cX5_isSame 411 = .ok (.iconst 0, 1) := by decide +kernel
theorem dX5_isSame_412 : decode cX5_isSame 412 = .ok (.iaload, 1) := by decide +kernel
theorem dX5_isSame_413 : decode cX5_isSame 413 = .ok (.iastore, 1) := by decide +kernel
theorem dX5_isSame_414 : decode cX5_isSame 414 = .ok (.dup, 1) := by decide +kernel
theorem dX5_isSame_415 : decode cX5_isSame 415 = .ok (.iconst 1, 1) := by decide +kernel
theorem dX5_isSame_416 : decode cX5_isSame 416 = .ok (.aload_n 0, 1) := by decide +kernel
theorem dX5_isSame_417 : decode cX5_isSame 417 = .ok (.iload_n 3, 1) := by decide +kernel
theorem dX5_isSame_418 : decode cX5_isSame 418 = .ok (.invokevirtual 70, 3) := by decide +kernel
theorem dX5_isSame_421 : decode cX5_isSame 421 = .ok (.iastore, 1) := by decide +kernel
theorem dX5_isSame_422 : decode cX5_isSame 422 = .ok (.dup, 1) := by decide +kernel
theorem dX5_isSame_423 : decode cX5_isSame 423 = .ok (.iconst 2, 1) := by decide +kernel
theorem dX5_isSame_424 : decode cX5_isSame 424 = .ok (.aload_n 0, 1) := by decide +kernel
theorem dX5_isSame_425 : decode cX5_isSame 425 = .ok (.iload_n 3, 1) := by decide +kernel
theorem dX5_isSame_426 : decode cX5_isSame 426 = .ok (.invokevirtual 74, 3) := by decide +kernel
theorem dX5_isSame_429 : decode cX5_isSame 429 = .ok (.iastore, 1) := by decide +kernel
theorem dX5_isSame_430 : decode cX5_isSame 430 = .ok (.dup, 1) := by decide +kernel
theorem dX5_isSame_431 : decode cX5_isSame 431 = .ok (.iconst 3, 1) := by decide +kernel
theorem dX5_isSame_432 : decode cX5_isSame 432 = .ok (.aload_n 0, 1) := by decide +kernel
theorem dX5_isSame_433 : decode cX5_isSame 433 = .ok (.getfield 23, 3) := by decide +kernel
theorem dX5_isSame_436 : decode cX5_isSame 436 = .ok (.iload_n 3, 1) := by decide +kernel
theorem dX5_isSame_437 : decode cX5_isSame 437 = .ok (.aaload, 1) := by decide +kernel
theorem dX5_isSame_438 : decode cX5_isSame 438 = .ok (.bipush 11, 2) := by decide +kernel
theorem dX5_isSame_440 : decode cX5_isSame 440 = .ok (.iaload, 1) := by decide +kernel
theorem dX5_isSame_441 : decode cX5_isSame 441 = .ok (.iastore, 1) := by decide +kernel
theorem dX5_isSame_442 : decode cX5_isSame 442 = .ok (.astore 4, 2) := by decide +kernel
theorem dX5_isSame_444 : decode cX5_isSame 444 = .ok (.iconst 0, 1) := by decide +kernel
theorem dX5_isSame_445 : decode cX5_isSame 445 = .ok (.istore 5, 2) := by decide +kernel
theorem dX5_isSame_447 : decode cX5_isSame 447 = .ok (.iload 5, 2) := by decide +kernel
theorem dX5_isSame_449 : decode cX5_isSame 449 = .ok (.iconst 4, 1) := by decide +kernel
theorem dX5_isSame_450 : decode cX5_isSame 450 = .ok (.if_icmp .ge 26, 3) := by decide +kernel
theorem dX5_isSame_453 : decode cX5_isSame 453 = .ok (.aload_n 1, 1) := by decide +kernel
theorem dX5_isSame_454 : decode cX5_isSame 454 = .ok (.iload_n 3, 1) := by decide +kernel
theorem dX5_isSame_455 : decode cX5_isSame 455 = .ok (.iload 5, 2) := by decide +kernel
theorem dX5_isSame_457 : decode cX5_isSame 457 = .ok (.invokevirtual 104, 3) := by decide +kernel
theorem dX5_isSame_460 : decode cX5_isSame 460 = .ok (.aload 4, 2) := by decide +kernel
theorem dX5_isSame_462 : decode cX5_isSame 462 = .ok (.iload 5, 2) := by decide +kernel
theorem dX5_isSame_464 : decode cX5_isSame 464 = .ok (.iaload, 1) := by decide +kernel
theorem dX5_isSame_465 : decode cX5_isSame 465 = .ok (.if_icmp .eq 5, 3) := by decide +kernel
theorem dX5_isSame_468 : decode cX5_isSame 468 = .ok (.iconst 0, 1) := by decide +kernel
theorem dX5_isSame_469 : decode cX5_isSame 469 = .ok (.ireturn, 1) := by decide +kernel
theorem dX5_isSame_470 : decode cX5_isSame 470 = .ok (.iinc 5 1, 3) := by decide +kernel
theorem dX5_isSame_473 : decode cX5_isSame 473 = .ok (.goto (-26), 3) := by decide +kernel
theorem dX5_isSame_476 : decode cX5_isSame 476 = .ok (.iinc 3 1, 3) := by decide +kernel
theorem dX5_isSame_479 : decode cX5_isSame 479 = .ok (.goto (-88), 3) := by decide +kernel
theorem dX5_isSame_482 : decode cX5_isSame 482 = .ok (.iconst 0, 1) := by decide +kernel
theorem dX5_isSame_483 : decode cX5_isSame 483 = .ok (.istore_n 3, 1) := by decide +kernel
theorem dX5_isSame_484 : decode cX5_isSame 484 = .ok (.iload_n 3, 1) := by decide +kernel
theorem dX5_isSame_485 : decode cX5_isSame 485 = .ok (.aload_n 0, 1) := by decide +kernel
theorem dX5_isSame_486 : decode cX5_isSame 486 = .ok (.getfield 27, 3) := by decide +kernel
theorem dX5_isSame_489 : decode cX5_isSame 489 = .ok (.arraylength, 1) := by decide +kernel
theorem dX5_isSame_490 : decode cX5_isSame 490 = .ok (.if_icmp .ge 106, 3) := by decide +kernel
theorem dX5_isSame_493 : decode cX5_isSame 493 = .ok (.aload_n 0, 1) := by decide +kernel
theorem dX5_isSame_494 : decode cX5_isSame 494 = .ok (.getfield 27, 3) := by decide +kernel
theorem dX5_isSame_497 : decode cX5_isSame 497 = .ok (.iload_n 3, 1) := by decide +kernel
theorem dX5_isSame_498 : decode cX5_isSame 498 = .ok (.aaload, 1) := by decide +kernel
theorem dX5_isSame_499 : decode cX5_isSame 499 = .ok (.astore 4, 2) := by decide +kernel
theorem dX5_isSame_501 : decode cX5_isSame 501 = .ok (.iconst 5, 1) := by decide +kernel
theorem dX5_isSame_502 : decode cX5_isSame 502 = .ok (.newarray .int, 2) := by decide +kernel
theorem dX5_isSame_504 : decode cX5_isSame 504 = .ok (.dup, 1) := by decide +kernel
theorem dX5_isSame_505 : decode cX5_isSame 505 = .ok (.iconst 0, 1) := by decide +kernel
theorem dX5_isSame_506 : decode cX5_isSame 506 = .ok (.aload 4, 2) := by decide +kernel
theorem dX5_isSame_508 : decode cX5_isSame 508 = .ok (.iconst 3, 1) := by decide +kernel
theorem dX5_isSame_509 : decode cX5_isSame 509 = .ok (.iaload, 1) := by decide +kernel
theorem dX5_isSame_510 : decode cX5_isSame 510 = .ok (.iastore, 1) := by decide +kernel
theorem dX5_isSame_511 : decode cX5_isSame 511 = .ok (.dup, 1) := by decide +kernel
theorem dX5_isSame_512 : decode cX5_isSame 512 = .ok (.iconst 1, 1) := by decide +kernel
theorem dX5_isSame_513 : decode cX5_isSame 513 = .ok (.aload 4, 2) := by decide +kernel
theorem dX5_isSame_515 : decode cX5_isSame 515 = .ok (.iconst 4, 1) := by decide +kernel
theorem dX5_isSame_516 : decode cX5_isSame 516 = .ok (.iaload, 1) := by decide +kernel
theorem dX5_isSame_517 : decode cX5_isSame 517 = .ok (.iastore, 1) := by decide +kernel
theorem dX5_isSame_518 : decode cX5_isSame 518 = .ok (.dup, 1) := by decide +kernel
theorem dX5_isSame_519 : decode cX5_isSame 519 = .ok (.iconst 2, 1) := by decide +kernel
theorem dX5_isSame_520 : decode cX5_isSame 520 = .ok (.aload 4, 2) := by decide +kernel
theorem dX5_isSame_522 : decode cX5_isSame 522 = .ok (.iconst 2, 1) := by decide +kernel
theorem dX5_isSame_523 : decode cX5_isSame 523 = .ok (.iaload, 1) := by decide +kernel
theorem dX5_isSame_524 : decode cX5_isSame 524 = .ok (.aload_n 0, 1) := by decide +kernel
theorem dX5_isSame_525 : decode cX5_isSame 525 = .ok (.invokevirtual 58, 3) := by decide +kernel
theorem dX5_isSame_528 : decode cX5_isSame 528 = .ok (.iconst 2, 1) := by decide +kernel
theorem dX5_isSame_529 : decode cX5_isSame 529 = .ok (.idiv, 1) := by decide +kernel
theorem dX5_isSame_530 : decode cX5_isSame 530 = .ok (.iadd, 1) := by decide +kernel
theorem dX5_isSame_531 : decode cX5_isSame 531 = .ok (.iastore, 1) := by decide +kernel
theorem dX5_isSame_532 : decode cX5_isSame 532 = .ok (.dup, 1) := by decide +kernel
theorem dX5_isSame_533 : decode cX5_isSame 533 = .ok (.iconst 3, 1) := by decide +kernel
theorem dX5_isSame_534 : decode cX5_isSame 534 = .ok (.iconst 2, 1) := by decide +kernel
theorem dX5_isSame_535 : decode cX5_isSame 535 = .ok (.aload 4, 2) := by decide +kernel
theorem dX5_isSame_537 : decode cX5_isSame 537 = .ok (.iconst 2, 1) := by decide +kernel
theorem dX5_isSame_538 : decode cX5_isSame 538 = .ok (.iaload, 1) := by decide +kernel
theorem dX5_isSame_539 : decode cX5_isSame 539 = .ok (.imul, 1) := by decide +kernel
theorem dX5_isSame_540 : decode cX5_isSame 540 = .ok (.bipush 6, 2) := by decide +kernel
theorem dX5_isSame_542 : decode cX5_isSame 542 = .ok (.iadd, 1) := by decide +kernel
theorem dX5_isSame_543 : decode cX5_isSame 543 = .ok (.aload_n 0, 1) := by decide +kernel
theorem dX5_isSame_544 : decode cX5_isSame 544 = .ok (.invokevirtual 58, 3) := by decide +kernel
theorem dX5_isSame_547 : decode cX5_isSame 547 = .ok (.isub, 1) := by decide +kernel
theorem dX5_isSame_548 : decode cX5_isSame 548 = .ok (.iastore, 1) := by decide +kernel
theorem dX5_isSame_549 : decode cX5_isSame 549 = .ok (.dup, 1) := by decide +kernel
theorem dX5_isSame_550 : decode cX5_isSame 550 = .ok (.iconst 4, 1) := by decide +kernel
theorem dX5_isSame_551 : decode cX5_isSame 551 = .ok (.aload 4, 2) := by decide +kernel
theorem dX5_isSame_553 : decode cX5_isSame 553 = .ok (.iconst 5, 1) := by decide +kernel
theorem dX5_isSame_554 : decode cX5_isSame 554 = .ok (.iaload, 1) := by decide +kernel
theorem dX5_isSame_555 : decode cX5_isSame 555 = .ok (.iastore, 1) := by decide +kernel
theorem dX5_isSame_556 : decode cX5_isSame 556 = .ok (.astore 5, 2) := by decide +kernel
theorem dX5_isSame_558 : decode cX5_isSame 558 = .ok (.iconst 0, 1) := by decide +kernel
theorem dX5_isSame_559 : decode cX5_isSame 559 = .ok (.istore 6, 2) := by decide +kernel
theorem dX5_isSame_561 : decode cX5_isSame 561 = .ok (.iload 6, 2) := by decide +kernel
theorem dX5_isSame_563 : decode cX5_isSame 563 = .ok (.iconst 5, 1) := by decide +kernel
theorem dX5_isSame_564 : decode cX5_isSame 564 = .ok (.if_icmp .ge 26, 3) := by decide +kernel
theorem dX5_isSame_567 : decode cX5_isSame 567 = .ok (.aload_n 1, 1) := by decide +kernel
theorem dX5_isSame_568 : decode cX5_isSame 568 = .ok (.iload_n 3, 1) := by decide +kernel
theorem dX5_isSame_569 : decode cX5_isSame 569 = .ok (.iload 6, 2) := by decide +kernel
theorem dX5_isSame_571 : decode cX5_isSame 571 = .ok (.invokevirtual 107, 3) := by decide +kernel
theorem dX5_isSame_574 : decode cX5_isSame 574 = .ok (.aload 5, 2) := by decide +kernel
theorem dX5_isSame_576 : decode cX5_isSame 576 = .ok (.iload 6, 2) := by decide +kernel
theorem dX5_isSame_578 : decode cX5_isSame 578 = .ok (.iaload, 1) := by decide +kernel
theorem dX5_isSame_579 : decode cX5_isSame 579 = .ok (.if_icmp .eq 5, 3) := by decide +kernel
theorem dX5_isSame_582 : decode cX5_isSame 582 = .ok (.iconst 0, 1) := by decide +kernel
theorem dX5_isSame_583 : decode cX5_isSame 583 = .ok (.ireturn, 1) := by decide +kernel
theorem dX5_isSame_584 : decode cX5_isSame 584 = .ok (.iinc 6 1, 3) := by decide +kernel
theorem dX5_isSame_587 : decode cX5_isSame 587 = .ok (.goto (-26), 3) := by decide +kernel
theorem dX5_isSame_590 : decode cX5_isSame 590 = .ok (.iinc 3 1, 3) := by decide +kernel
theorem dX5_isSame_593 : decode cX5_isSame 593 = .ok (.goto (-109), 3) := by decide +kernel
theorem dX5_isSame_596 : decode cX5_isSame 596 = .ok (.iconst 0, 1) := by decide +kernel
theorem dX5_isSame_597 : decode cX5_isSame 597 = .ok (.istore_n 3, 1) := by decide +kernel
theorem dX5_isSame_598 : decode cX5_isSame 598 = .ok (.iload_n 3, 1) := by decide +kernel
theorem dX5_isSame_599 : decode cX5_isSame 599 = .ok (.aload_n 0, 1) := by decide +kernel
theorem dX5_isSame_600 : decode cX5_isSame 600 = .ok (.getfield 30, 3) := by decide +kernel
theorem dX5_isSame_603 : decode cX5_isSame 603 = .ok (.arraylength, 1) := by decide +kernel
theorem dX5_isSame_604 : decode cX5_isSame 604 = .ok (.if_icmp .ge 166, 3) := by decide +kernel
theorem dX5_isSame_607 : decode cX5_isSame 607 = .ok (.aload_n 0, 1) := by decide +kernel
theorem dX5_isSame_608 : decode cX5_isSame 608 = .ok (.getfield 30, 3) := by decide +kernel
theorem dX5_isSame_611 : decode cX5_isSame 611 = .ok (.iload_n 3, 1) := by decide +kernel
theorem dX5_isSame_612 : decode cX5_isSame 612 = .ok (.aaload, 1) := by decide +kernel
end
section
theorem dX5_isSame_613 : decode cX5_isSame 613 = .ok (.astore 4, 2) := by decide +kernel
theorem dX5_isSame_615 : decode cX5_isSame 615 = .ok (.aload 4, 2) := by decide +kernel
theorem dX5_isSame_617 : decode cX5_isSame 617 = .ok (.iconst 3, 1) := by decide +kernel
theorem dX5_isSame_618 : decode cX5_isSame 618 = .ok (.iaload, 1) := by decide +kernel
theorem dX5_isSame_619 : decode cX5_isSame 619 = .ok (.ifCond .le 10, 3) := by decide +kernel
theorem dX5_isSame_622 : decode cX5_isSame 622 = .ok (.aload 4, 2) := by decide +kernel
theorem dX5_isSame_624 : decode cX5_isSame 624 = .ok (.iconst 3, 1) := by decide +kernel
theorem dX5_isSame_625 : decode cX5_isSame 625 = .ok (.iaload, 1) := by decide +kernel
theorem dX5_isSame_626 : decode cX5_isSame 626 = .ok (.goto 30, 3) := by decide +kernel
theorem dX5_isSame_629 : decode cX5_isSame 629 = .ok (.aload 4, 2) := by decide +kernel
theorem dX5_isSame_631 : decode cX5_isSame 631 = .ok (.iconst 2, 1) := by decide +kernel
theorem dX5_isSame_632 : decode cX5_isSame 632 = .ok (.iaload, 1) := by decide +kernel
theorem dX5_isSame_633 : decode cX5_isSame 633 = .ok (.ifCond .ge 7, 3) := by decide +kernel
theorem dX5_isSame_636 : decode cX5_isSame 636 = .ok (.iconst 0, 1) := by decide +kernel
theorem dX5_isSame_637 : decode cX5_isSame 637 = .ok (.goto 19, 3) := by decide +kernel
theorem dX5_isSame_640 : decode cX5_isSame 640 = .ok (.aload 4, 2) := by decide +kernel
theorem dX5_isSame_642 : decode cX5_isSame 642 = .ok (.iconst 0, 1) := by decide +kernel
theorem dX5_isSame_643 : decode cX5_isSame 643 = .ok (.iaload, 1) := by decide +kernel
theorem dX5_isSame_644 : decode cX5_isSame 644 = .ok (.aload 4, 2) := by decide +kernel
theorem dX5_isSame_646 : decode cX5_isSame 646 = .ok (.iconst 2, 1) := by decide +kernel
theorem dX5_isSame_647 : decode cX5_isSame 647 = .ok (.iaload, 1) := by decide +kernel
theorem dX5_isSame_648 : decode cX5_isSame 648 = .ok (.if_icmp .ne 7, 3) := by decide +kernel
theorem dX5_isSame_651 : decode cX5_isSame 651 = .ok (.iconst 2, 1) := by decide +kernel
theorem dX5_isSame_652 : decode cX5_isSame 652 = .ok (.goto 4, 3) := by decide +kernel
theorem dX5_isSame_655 : decode cX5_isSame 655 = .ok (.iconst 1, 1) := by decide +kernel
theorem dX5_isSame_656 : decode cX5_isSame 656 = .ok (.istore 5, 2) := by decide +kernel
theorem dX5_isSame_658 : decode cX5_isSame 658 = .ok (.bipush 7, 2) := by decide +kernel
theorem dX5_isSame_660 : decode cX5_isSame 660 = .ok (.newarray .int, 2) := by decide +kernel
theorem dX5_isSame_662 : decode cX5_isSame 662 = .ok (.dup, 1) := by decide +kernel
theorem dX5_isSame_663 : decode cX5_isSame 663 = .ok (.iconst 0, 1) := by decide +kernel
theorem dX5_isSame_664 : decode cX5_isSame 664 = .ok (.aload 4, 2) := by decide +kernel
theorem dX5_isSame_666 : decode cX5_isSame 666 = .ok (.iconst 0, 1) := by decide +kernel
theorem dX5_isSame_667 : decode cX5_isSame 667 = .ok (.iaload, 1) := by decide +kernel
theorem dX5_isSame_668 : decode cX5_isSame 668 = .ok (.iastore, 1) := by decide +kernel
theorem dX5_isSame_669 : decode cX5_isSame 669 = .ok (.dup, 1) := by decide +kernel
theorem dX5_isSame_670 : decode cX5_isSame 670 = .ok (.iconst 1, 1) := by decide +kernel
theorem dX5_isSame_671 : decode cX5_isSame 671 = .ok (.aload 4, 2) := by decide +kernel
theorem dX5_isSame_673 : decode cX5_isSame 673 = .ok (.iconst 1, 1) := by decide +kernel
theorem dX5_isSame_674 : decode cX5_isSame 674 = .ok (.iaload, 1) := by decide +kernel
theorem dX5_isSame_675 : decode cX5_isSame 675 = .ok (.iastore, 1) := by decide +kernel
theorem dX5_isSame_676 : decode cX5_isSame 676 = .ok (.dup, 1) := by decide +kernel
theorem dX5_isSame_677 : decode cX5_isSame 677 = .ok (.iconst 2, 1) := by decide +kernel
theorem dX5_isSame_678 : decode cX5_isSame 678 = .ok (.aload 4, 2) := by decide +kernel
theorem dX5_isSame_680 : decode cX5_isSame 680 = .ok (.iconst 2, 1) := by decide +kernel
theorem dX5_isSame_681 : decode cX5_isSame 681 = .ok (.iaload, 1) := by decide +kernel
theorem dX5_isSame_682 : decode cX5_isSame 682 = .ok (.iastore, 1) := by decide +kernel
theorem dX5_isSame_683 : decode cX5_isSame 683 = .ok (.dup, 1) := by decide +kernel
theorem dX5_isSame_684 : decode cX5_isSame 684 = .ok (.iconst 3, 1) := by decide +kernel
theorem dX5_isSame_685 : decode cX5_isSame 685 = .ok (.iload 5, 2) := by decide +kernel
theorem dX5_isSame_687 : decode cX5_isSame 687 = .ok (.iastore, 1) := by decide +kernel
theorem dX5_isSame_688 : decode cX5_isSame 688 = .ok (.dup, 1) := by decide +kernel
theorem dX5_isSame_689 : decode cX5_isSame 689 = .ok (.iconst 4, 1) := by decide +kernel
theorem dX5_isSame_690 : decode cX5_isSame 690 = .ok (.aload 4, 2) := by decide +kernel
theorem dX5_isSame_692 : decode cX5_isSame 692 = .ok (.iconst 4, 1) := by decide +kernel
theorem dX5_isSame_693 : decode cX5_isSame 693 = .ok (.iaload, 1) := by decide +kernel
theorem dX5_isSame_694 : decode cX5_isSame 694 = .ok (.iastore, 1) := by decide +kernel
theorem dX5_isSame_695 : decode cX5_isSame 695 = .ok (.dup, 1) := by decide +kernel
theorem dX5_isSame_696 : decode cX5_isSame 696 = .ok (.iconst 5, 1) := by decide +kernel
theorem dX5_isSame_697 : decode cX5_isSame 697 = .ok (.aload 4, 2) := by decide +kernel
theorem dX5_isSame_699 : decode cX5_isSame 699 = .ok (.iconst 5, 1) := by decide +kernel
theorem dX5_isSame_700 : decode cX5_isSame 700 = .ok (.iaload, 1) := by decide +kernel
theorem dX5_isSame_701 : decode cX5_isSame 701 = .ok (.iastore, 1) := by decide +kernel
theorem dX5_isSame_702 : decode cX5_isSame 702 = .ok (.dup, 1) := by decide +kernel
theorem dX5_isSame_703 : decode cX5_isSame 703 = .ok (.bipush 6, 2) := by decide +kernel
theorem dX5_isSame_705 : decode cX5_isSame 705 = .ok (.aload 4, 2) := by decide +kernel
theorem dX5_isSame_707 : decode cX5_isSame 707 = .ok (.bipush 6, 2) := by decide +kernel
theorem dX5_isSame_709 : decode cX5_isSame 709 = .ok (.iaload, 1) := by decide +kernel
theorem dX5_isSame_710 : decode cX5_isSame 710 = .ok (.iastore, 1) := by decide +kernel
theorem dX5_isSame_711 : decode cX5_isSame 711 = .ok (.astore 6, 2) := by decide +kernel
theorem dX5_isSame_713 : decode cX5_isSame 713 = .ok (.iconst 0, 1) := by decide +kernel
theorem dX5_isSame_714 : decode cX5_isSame 714 = .ok (.istore 7, 2) := by decide +kernel
theorem dX5_isSame_716 : decode cX5_isSame 716 = .ok (.iload 7, 2) := by decide +kernel
theorem dX5_isSame_718 : decode cX5_isSame 718 = .ok (.bipush 7, 2) := by decide +kernel
theorem dX5_isSame_720 : decode cX5_isSame 720 = .ok (.if_icmp .ge 26, 3) := by decide +kernel
theorem dX5_isSame_723 : decode cX5_isSame 723 = .ok (.aload_n 1, 1) := by decide +kernel
theorem dX5_isSame_724 : decode cX5_isSame 724 = .ok (.iload_n 3, 1) := by decide +kernel
theorem dX5_isSame_725 : decode cX5_isSame 725 = .ok (.iload 7, 2) := by decide +kernel
theorem dX5_isSame_727 : decode cX5_isSame 727 = .ok (.invokevirtual 110, 3) := by decide +kernel
theorem dX5_isSame_730 : decode cX5_isSame 730 = .ok (.aload 6, 2) := by decide +kernel
theorem dX5_isSame_732 : decode cX5_isSame 732 = .ok (.iload 7, 2) := by decide +kernel
theorem dX5_isSame_734 : decode cX5_isSame 734 = .ok (.iaload, 1) := by decide +kernel
theorem dX5_isSame_735 : decode cX5_isSame 735 = .ok (.if_icmp .eq 5, 3) := by decide +kernel
theorem dX5_isSame_738 : decode cX5_isSame 738 = .ok (.iconst 0, 1) := by decide +kernel
theorem dX5_isSame_739 : decode cX5_isSame 739 = .ok (.ireturn, 1) := by decide +kernel
theorem dX5_isSame_740 : decode cX5_isSame 740 = .ok (.iinc 7 1, 3) := by decide +kernel
theorem dX5_isSame_743 : decode cX5_isSame 743 = .ok (.goto (-27), 3) := by decide +kernel
theorem dX5_isSame_746 : decode cX5_isSame 746 = .ok (.iload_n 2, 1) := by decide +kernel
theorem dX5_isSame_747 : decode cX5_isSame 747 = .ok (.aload 4, 2) := by decide +kernel
theorem dX5_isSame_749 : decode cX5_isSame 749 = .ok (.iconst 3, 1) := by decide +kernel
theorem dX5_isSame_750 : decode cX5_isSame 750 = .ok (.iaload, 1) := by decide +kernel
theorem dX5_isSame_751 : decode cX5_isSame 751 = .ok (.ifCond .ne 10, 3) := by decide +kernel
theorem dX5_isSame_754 : decode cX5_isSame 754 = .ok (.aload 4, 2) := by decide +kernel
theorem dX5_isSame_756 : decode cX5_isSame 756 = .ok (.iconst 1, 1) := by decide +kernel
theorem dX5_isSame_757 : decode cX5_isSame 757 = .ok (.iaload, 1) := by decide +kernel
theorem dX5_isSame_758 : decode cX5_isSame 758 = .ok (.goto 4, 3) := by decide +kernel
theorem dX5_isSame_761 : decode cX5_isSame 761 = .ok (.iconst 0, 1) := by decide +kernel
theorem dX5_isSame_762 : decode cX5_isSame 762 = .ok (.iadd, 1) := by decide +kernel
theorem dX5_isSame_763 : decode cX5_isSame 763 = .ok (.istore_n 2, 1) := by decide +kernel
theorem dX5_isSame_764 : decode cX5_isSame 764 = .ok (.iinc 3 1, 3) := by decide +kernel
theorem dX5_isSame_767 : decode cX5_isSame 767 = .ok (.goto (-169), 3) := by decide +kernel
theorem dX5_isSame_770 : decode cX5_isSame 770 = .ok (.aload_n 1, 1) := by decide +kernel
theorem dX5_isSame_771 : decode cX5_isSame 771 = .ok (.aload_n 0, 1) := by decide +kernel
theorem dX5_isSame_772 : decode cX5_isSame 772 = .ok (.getfield 40, 3) := by decide +kernel
theorem dX5_isSame_775 : decode cX5_isSame 775 = .ok (.bipush 10, 2) := by decide +kernel
theorem dX5_isSame_777 : decode cX5_isSame 777 = .ok (.idiv, 1) := by decide +kernel
theorem dX5_isSame_778 : decode cX5_isSame 778 = .ok (.invokevirtual 113, 3) := by decide +kernel
theorem dX5_isSame_781 : decode cX5_isSame 781 = .ok (.aload_n 0, 1) := by decide +kernel
theorem dX5_isSame_782 : decode cX5_isSame 782 = .ok (.invokevirtual 58, 3) := by decide +kernel
theorem dX5_isSame_785 : decode cX5_isSame 785 = .ok (.if_icmp .ne 36, 3) := by decide +kernel
theorem dX5_isSame_788 : decode cX5_isSame 788 = .ok (.aload_n 1, 1) := by decide +kernel
theorem dX5_isSame_789 : decode cX5_isSame 789 = .ok (.invokevirtual 115, 3) := by decide +kernel
theorem dX5_isSame_792 : decode cX5_isSame 792 = .ok (.aload_n 0, 1) := by decide +kernel
theorem dX5_isSame_793 : decode cX5_isSame 793 = .ok (.iconst 0, 1) := by decide +kernel
theorem dX5_isSame_794 : decode cX5_isSame 794 = .ok (.invokevirtual 81, 3) := by decide +kernel
theorem dX5_isSame_797 : decode cX5_isSame 797 = .ok (.ifCond .ne 7, 3) := by decide +kernel
theorem dX5_isSame_800 : decode cX5_isSame 800 = .ok (.dconst 0, 1) := by decide +kernel
theorem dX5_isSame_801 : decode cX5_isSame 801 = .ok (.goto 12, 3) := by decide +kernel
theorem dX5_isSame_804 : decode cX5_isSame 804 = .ok (.iload_n 2, 1) := by decide +kernel
theorem dX5_isSame_805 : decode cX5_isSame 805 = .ok (.i2d, 1) := by decide +kernel
theorem dX5_isSame_806 : decode cX5_isSame 806 = .ok (.aload_n 0, 1) := by decide +kernel
theorem dX5_isSame_807 : decode cX5_isSame 807 = .ok (.iconst 0, 1) := by decide +kernel
theorem dX5_isSame_808 : decode cX5_isSame 808 = .ok (.invokevirtual 81, 3) := by decide +kernel
theorem dX5_isSame_811 : decode cX5_isSame 811 = .ok (.i2d, 1) := by decide +kernel
theorem dX5_isSame_812 : decode cX5_isSame 812 = .ok (.ddiv, 1) := by decide +kernel
theorem dX5_isSame_813 : decode cX5_isSame 813 = .ok (.dcmp .l, 1) := by decide +kernel
theorem dX5_isSame_814 : decode cX5_isSame 814 = .ok (.ifCond .ne 7, 3) := by decide +kernel
theorem dX5_isSame_817 : decode cX5_isSame 817 = .ok (.iconst 1, 1) := by decide +kernel
theorem dX5_isSame_818 : decode cX5_isSame 818 = .ok (.goto 4, 3) := by decide +kernel
theorem dX5_isSame_821 : decode cX5_isSame 821 = .ok (.iconst 0, 1) := by decide +kernel
theorem dX5_isSame_822 : decode cX5_isSame 822 = .ok (.ireturn, 1) := by decide +kernel
theorem dJ9_floorMod_7cf53_0 : decode cJ9_floorMod_7cf53 0 = .ok (.iload_n 0, 1) := by decide +kernel
theorem dJ9_floorMod_7cf53_1 : decode cJ9_floorMod_7cf53 1 = .ok (.iload_n 1, 1) := by decide +kernel
theorem dJ9_floorMod_7cf53_2 : decode cJ9_floorMod_7cf53 2 = .ok (.irem, 1) := by decide +kernel
theorem dJ9_floorMod_7cf53_3 : decode cJ9_floorMod_7cf53 3 = .ok (.istore_n 2, 1) := by decide +kernel
theorem dJ9_floorMod_7cf53_4 : decode cJ9_floorMod_7cf53 4 = .ok (.iload_n 0, 1) := by decide +kernel
theorem dJ9_floorMod_7cf53_5 : decode cJ9_floorMod_7cf53 5 = .ok (.iload_n 1, 1) := by decide +kernel
theorem dJ9_floorMod_7cf53_6 : decode cJ9_floorMod_7cf53 6 = .ok (.ixor, 1) := by decide +kernel
theorem dJ9_floorMod_7cf53_7 : decode cJ9_floorMod_7cf53 7 = .ok (.ifCond .ge 11, 3) := by decide +kernel
theorem dJ9_floorMod_7cf53_10 : decode cJ9_floorMod_7cf53 10 = .ok (.iload_n 2, 1) := by decide +kernel
theorem dJ9_floorMod_7cf53_11 : decode cJ9_floorMod_7cf53 11 = .ok (.ifCond .eq 7, 3) := by decide +kernel
theorem dJ9_floorMod_7cf53_14 : decode cJ9_floorMod_7cf53 14 = .ok (.iload_n 2, 1) := by decide +kernel
theorem dJ9_floorMod_7cf53_15 : decode cJ9_floorMod_7cf53 15 = .ok (.iload_n 1, 1) := by decide +kernel
theorem dJ9_floorMod_7cf53_16 : decode cJ9_floorMod_7cf53 16 = .ok (.iadd, 1) := by decide +kernel
theorem dJ9_floorMod_7cf53_17 : decode cJ9_floorMod_7cf53 17 = .ok (.ireturn, 1) := by decide +kernel
theorem dJ9_floorMod_7cf53_18 : decode cJ9_floorMod_7cf53 18 = .ok (.iload_n 2, 1) := by decide +kernel
theorem dJ9_floorMod_7cf53_19 : decode cJ9_floorMod_7cf53 19 = .ok (.ireturn, 1) := by decide +kernel
theorem dJ9_abs_0f7a4_0 : decode cJ9_abs_0f7a4 0 = .ok (.iload_n 0, 1) := by decide +kernel
theorem dJ9_abs_0f7a4_1 : decode cJ9_abs_0f7a4 1 = .ok (.ifCond .ge 8, 3) := by decide +kernel
theorem dJ9_abs_0f7a4_4 : decode cJ9_abs_0f7a4 4 = .ok (.iload_n 0, 1) := by decide +kernel
theorem dJ9_abs_0f7a4_5 : decode cJ9_abs_0f7a4 5 = .ok (.ineg, 1) := by decide +kernel
theorem dJ9_abs_0f7a4_6 : decode cJ9_abs_0f7a4 6 = .ok (.goto 4, 3) := by decide +kernel
theorem dJ9_abs_0f7a4_9 : decode cJ9_abs_0f7a4 9 = .ok (.iload_n 0, 1) := by decide +kernel
theorem dJ9_abs_0f7a4_10 : decode cJ9_abs_0f7a4 10 = .ok (.ireturn, 1) := by decide +kernel
theorem dJ9_min_7cf53_0 : decode cJ9_min_7cf53 0 = .ok (.iload_n 0, 1) := by decide +kernel
theorem dJ9_min_7cf53_1 : decode cJ9_min_7cf53 1 = .ok (.iload_n 1, 1) := by decide +kernel
theorem dJ9_min_7cf53_2 : decode cJ9_min_7cf53 2 = .ok (.if_icmp .gt 7, 3) := by decide +kernel
theorem dJ9_min_7cf53_5 : decode cJ9_min_7cf53 5 = .ok (.iload_n 0, 1) := by decide +kernel
theorem dJ9_min_7cf53_6 : decode cJ9_min_7cf53 6 = .ok (.goto 4, 3) := by decide +kernel
theorem dJ9_min_7cf53_9 : decode cJ9_min_7cf53 9 = .ok (.iload_n 1, 1) := by decide +kernel
theorem dJ9_min_7cf53_10 : decode cJ9_min_7cf53 10 = .ok (.ireturn, 1) := by decide +kernel
theorem dL_below_0 : decode cL_below 0 = .ok (.iload_n 0, 1) := by decide +kernel
theorem dL_below_1 : decode cL_below 1 = .ok (.ldc 7, 2) := by decide +kernel
theorem dL_below_3 : decode cL_below 3 = .ok (.iand, 1) := by decide +kernel
theorem dL_below_4 : decode cL_below 4 = .ok (.iload_n 1, 1) := by decide +kernel
theorem dL_below_5 : decode cL_below 5 = .ok (.irem, 1) := by decide +kernel
theorem dL_below_6 : decode cL_below 6 = .ok (.ireturn, 1) := by decide +kernel
theorem dL_cell_0 : decode cL_cell 0 = .ok (.iload_n 1, 1) := by decide +kernel
theorem dL_cell_1 : decode cL_cell 1 = .ok (.aload_n 0, 1) := by decide +kernel
theorem dL_cell_2 : decode cL_cell 2 = .ok (.arraylength, 1) := by decide +kernel
theorem dL_cell_3 : decode cL_cell 3 = .ok (.if_icmp .ge 9, 3) := by decide +kernel
theorem dL_cell_6 : decode cL_cell 6 = .ok (.aload_n 0, 1) := by decide +kernel
theorem dL_cell_7 : decode cL_cell 7 = .ok (.iload_n 1, 1) := by decide +kernel
theorem dL_cell_8 : decode cL_cell 8 = .ok (.iaload, 1) := by decide +kernel
theorem dL_cell_9 : decode cL_cell 9 = .ok (.goto 9, 3) := by decide +kernel
theorem dL_cell_12 : decode cL_cell 12 = .ok (.ldc 8, 2) := by decide +kernel
theorem dL_cell_14 : decode cL_cell 14 = .ok (.iload_n 1, 1) := by decide +kernel
theorem dL_cell_15 : decode cL_cell 15 = .ok (.iconst 3, 1) := by decide +kernel
theorem dL_cell_16 : decode cL_cell 16 = .ok (.iadd, 1) := by decide +kernel
theorem dL_cell_17 : decode cL_cell 17 = .ok (.imul, 1) := by decide +kernel
theorem dL_cell_18 : decode cL_cell 18 = .ok (.ireturn, 1) := by decide +kernel
theorem dL_act_0 : decode cL_act 0 = .ok (.iload_n 2, 1) := by decide +kernel
theorem dL_act_1 : decode cL_act 1 = .ok (.iconst 4, 1) := by decide +kernel
theorem dL_act_2 : decode cL_act 2 = .ok (.ishr, 1) := by decide +kernel
theorem dL_act_3 : decode cL_act 3 = .ok (.bipush 16, 2) := by decide +kernel
theorem dL_act_5 : decode cL_act 5 = .ok (.invokestatic 9, 3) := by decide +kernel
theorem dL_act_8 : decode cL_act 8 = .ok (.istore_n 3, 1) := by decide +kernel
theorem dL_act_9 : decode cL_act 9 = .ok (.aload_n 1, 1) := by decide +kernel
theorem dL_act_10 : decode cL_act 10 = .ok (.getfield 15, 3) := by decide +kernel
theorem dL_act_13 : decode cL_act 13 = .ok (.arraylength, 1) := by decide +kernel
theorem dL_act_14 : decode cL_act 14 = .ok (.istore 4, 2) := by decide +kernel
theorem dL_act_16 : decode cL_act 16 = .ok (.aload_n 1, 1) := by decide +kernel
theorem dL_act_17 : decode cL_act 17 = .ok (.getfield 21, 3) := by decide +kernel
theorem dL_act_20 : decode cL_act 20 = .ok (.arraylength, 1) := by decide +kernel
theorem dL_act_21 : decode cL_act 21 = .ok (.istore 5, 2) := by decide +kernel
theorem dL_act_23 : decode cL_act 23 = .ok (.iload_n 2, 1) := by decide +kernel
theorem dL_act_24 : decode cL_act 24 = .ok (.bipush 16, 2) := by decide +kernel
theorem dL_act_26 : decode cL_act 26 = .ok (.invokestatic 9, 3) := by decide +kernel
theorem dL_act_29 : decode cL_act 29 = .ok (.tableswitch 869 0 11 #[63, 121, 121, 197, 374, 374, 374, 464, 580, 580, 689, 797], 63) := by decide +kernel
theorem dL_act_92 : decode cL_act 92 = .ok (.iload_n 2, 1) := by decide +kernel
theorem dL_act_93 : decode cL_act 93 = .ok (.bipush 8, 2) := by decide +kernel
theorem dL_act_95 : decode cL_act 95 = .ok (.ishr, 1) := by decide +kernel
theorem dL_act_96 : decode cL_act 96 = .ok (.bipush 31, 2) := by decide +kernel
theorem dL_act_98 : decode cL_act 98 = .ok (.invokestatic 9, 3) := by decide +kernel
theorem dL_act_101 : decode cL_act 101 = .ok (.istore 6, 2) := by decide +kernel
theorem dL_act_103 : decode cL_act 103 = .ok (.aload_n 1, 1) := by decide +kernel
theorem dL_act_104 : decode cL_act 104 = .ok (.getfield 24, 3) := by decide +kernel
theorem dL_act_107 : decode cL_act 107 = .ok (.iload_n 3, 1) := by decide +kernel
theorem dL_act_108 : decode cL_act 108 = .ok (.iaload, 1) := by decide +kernel
theorem dL_act_109 : decode cL_act 109 = .ok (.iload 6, 2) := by decide +kernel
theorem dL_act_111 : decode cL_act 111 = .ok (.if_icmp .le 5, 3) := by decide +kernel
theorem dL_act_114 : decode cL_act 114 = .ok (.iconst 1, 1) := by decide +kernel
theorem dL_act_115 : decode cL_act 115 = .ok (.ireturn, 1) := by decide +kernel
theorem dL_act_116 : decode cL_act 116 = .ok (.aload_n 1, 1) := by decide +kernel
theorem dL_act_117 : decode cL_act 117 = .ok (.getfield 28, 3) := by decide +kernel
theorem dL_act_120 : decode cL_act 120 = .ok (.iload_n 3, 1) := by decide +kernel
theorem dL_act_121 : decode cL_act 121 = .ok (.iaload, 1) := by decide +kernel
theorem dL_act_122 : decode cL_act 122 = .ok (.istore 7, 2) := by decide +kernel
theorem dL_act_124 : decode cL_act 124 = .ok (.aload_n 1, 1) := by decide +kernel
theorem dL_act_125 : decode cL_act 125 = .ok (.getfield 28, 3) := by decide +kernel
theorem dL_act_128 : decode cL_act 128 = .ok (.iload_n 3, 1) := by decide +kernel
theorem dL_act_129 : decode cL_act 129 = .ok (.iload 6, 2) := by decide +kernel
theorem dL_act_131 : decode cL_act 131 = .ok (.iastore, 1) := by decide +kernel
theorem dL_act_132 : decode cL_act 132 = .ok (.aload_n 0, 1) := by decide +kernel
theorem dL_act_133 : decode cL_act 133 = .ok (.iload_n 3, 1) := by decide +kernel
theorem dL_act_134 : decode cL_act 134 = .ok (.iload 6, 2) := by decide +kernel
theorem dL_act_136 : decode cL_act 136 = .ok (.invokevirtual 31, 3) := by decide +kernel
theorem dL_act_139 : decode cL_act 139 = .ok (.iload 7, 2) := by decide +kernel
theorem dL_act_141 : decode cL_act 141 = .ok (.if_icmp .ne 7, 3) := by decide +kernel
theorem dL_act_144 : decode cL_act 144 = .ok (.iconst 1, 1) := by decide +kernel
theorem dL_act_145 : decode cL_act 145 = .ok (.goto 4, 3) := by decide +kernel
theorem dL_act_148 : decode cL_act 148 = .ok (.iconst 0, 1) := by decide +kernel
theorem dL_act_149 : decode cL_act 149 = .ok (.ireturn, 1) := by decide +kernel
theorem dL_act_150 : decode cL_act 150 = .ok (.iconst 1, 1) := by decide +kernel
theorem dL_act_151 : decode cL_act 151 = .ok (.iload_n 2, 1) := by decide +kernel
theorem dL_act_152 : decode cL_act 152 = .ok (.bipush 8, 2) := by decide +kernel
theorem dL_act_154 : decode cL_act 154 = .ok (.ishr, 1) := by decide +kernel
theorem dL_act_155 : decode cL_act 155 = .ok (.bipush 7, 2) := by decide +kernel
theorem dL_act_157 : decode cL_act 157 = .ok (.invokestatic 9, 3) := by decide +kernel
theorem dL_act_160 : decode cL_act 160 = .ok (.iadd, 1) := by decide +kernel
theorem dL_act_161 : decode cL_act 161 = .ok (.istore 6, 2) := by decide +kernel
theorem dL_act_163 : decode cL_act 163 = .ok (.iload_n 2, 1) := by decide +kernel
theorem dL_act_164 : decode cL_act 164 = .ok (.bipush 11, 2) := by decide +kernel
theorem dL_act_166 : decode cL_act 166 = .ok (.ishr, 1) := by decide +kernel
theorem dL_act_167 : decode cL_act 167 = .ok (.iconst 5, 1) := by decide +kernel
theorem dL_act_168 : decode cL_act 168 = .ok (.invokestatic 9, 3) := by decide +kernel
theorem dL_act_171 : decode cL_act 171 = .ok (.ifCond .ne 7, 3) := by decide +kernel
theorem dL_act_174 : decode cL_act 174 = .ok (.iconst (-1), 1) := by decide +kernel
theorem dL_act_175 : decode cL_act 175 = .ok (.goto 4, 3) := by decide +kernel
theorem dL_act_178 : decode cL_act 178 = .ok (.iload_n 3, 1) := by decide +kernel
theorem dL_act_179 : decode cL_act 179 = .ok (.istore 7, 2) := by decide +kernel
theorem dL_act_181 : decode cL_act 181 = .ok (.aload_n 1, 1) := by decide +kernel
theorem dL_act_182 : decode cL_act 182 = .ok (.getfield 36, 3) := by decide +kernel
theorem dL_act_185 : decode cL_act 185 = .ok (.iload 6, 2) := by decide +kernel
theorem dL_act_187 : decode cL_act 187 = .ok (.iaload, 1) := by decide +kernel
theorem dL_act_188 : decode cL_act 188 = .ok (.istore 8, 2) := by decide +kernel
theorem dL_act_190 : decode cL_act 190 = .ok (.aload_n 1, 1) := by decide +kernel
theorem dL_act_191 : decode cL_act 191 = .ok (.getfield 36, 3) := by decide +kernel
theorem dL_act_194 : decode cL_act 194 = .ok (.iload 6, 2) := by decide +kernel
theorem dL_act_196 : decode cL_act 196 = .ok (.iload 7, 2) := by decide +kernel
theorem dL_act_198 : decode cL_act 198 = .ok (.iastore, 1) := by decide +kernel
theorem dL_act_199 : decode cL_act 199 = .ok (.aload_n 1, 1) := by decide +kernel
theorem dL_act_200 : decode cL_act 200 = .ok (.getfield 39, 3) := by decide +kernel
theorem dL_act_203 : decode cL_act 203 = .ok (.iload 6, 2) := by decide +kernel
theorem dL_act_205 : decode cL_act 205 = .ok (.iconst 0, 1) := by decide +kernel
theorem dL_act_206 : decode cL_act 206 = .ok (.iastore, 1) := by decide +kernel
theorem dL_act_207 : decode cL_act 207 = .ok (.aload_n 0, 1) := by decide +kernel
theorem dL_act_208 : decode cL_act 208 = .ok (.iload 6, 2) := by decide +kernel
theorem dL_act_210 : decode cL_act 210 = .ok (.iload 7, 2) := by decide +kernel
theorem dL_act_212 : decode cL_act 212 = .ok (.invokevirtual 42, 3) := by decide +kernel
theorem dL_act_215 : decode cL_act 215 = .ok (.iload 8, 2) := by decide +kernel
theorem dL_act_217 : decode cL_act 217 = .ok (.if_icmp .ne 7, 3) := by decide +kernel
theorem dL_act_220 : decode cL_act 220 = .ok (.iconst 1, 1) := by decide +kernel
theorem dL_act_221 : decode cL_act 221 = .ok (.goto 4, 3) := by decide +kernel
theorem dL_act_224 : decode cL_act 224 = .ok (.iconst 0, 1) := by decide +kernel
theorem dL_act_225 : decode cL_act 225 = .ok (.ireturn, 1) := by decide +kernel
theorem dL_act_226 : decode cL_act 226 = .ok (.iload 4, 2) := by decide +kernel
theorem dL_act_228 : decode cL_act 228 = .ok (.iconst 5, 1) := by decide +kernel
theorem dL_act_229 : decode cL_act 229 = .ok (.if_icmp .ge 7, 3) := by decide +kernel
theorem dL_act_232 : decode cL_act 232 = .ok (.iconst 1, 1) := by decide +kernel
theorem dL_act_233 : decode cL_act 233 = .ok (.goto 4, 3) := by decide +kernel
theorem dL_act_236 : decode cL_act 236 = .ok (.iconst 0, 1) := by decide +kernel
theorem dL_act_237 : decode cL_act 237 = .ok (.istore 6, 2) := by decide +kernel
theorem dL_act_239 : decode cL_act 239 = .ok (.aload_n 1, 1) := by decide +kernel
theorem dL_act_240 : decode cL_act 240 = .ok (.getfield 15, 3) := by decide +kernel
theorem dL_act_243 : decode cL_act 243 = .ok (.astore 7, 2) := by decide +kernel
theorem dL_act_245 : decode cL_act 245 = .ok (.aload 7, 2) := by decide +kernel
theorem dL_act_247 : decode cL_act 247 = .ok (.arraylength, 1) := by decide +kernel
theorem dL_act_248 : decode cL_act 248 = .ok (.istore 8, 2) := by decide +kernel
theorem dL_act_250 : decode cL_act 250 = .ok (.iconst 0, 1) := by decide +kernel
theorem dL_act_251 : decode cL_act 251 = .ok (.istore 9, 2) := by decide +kernel
theorem dL_act_253 : decode cL_act 253 = .ok (.iload 9, 2) := by decide +kernel
theorem dL_act_255 : decode cL_act 255 = .ok (.iload 8, 2) := by decide +kernel
theorem dL_act_257 : decode cL_act 257 = .ok (.if_icmp .ge 34, 3) := by decide +kernel
theorem dL_act_260 : decode cL_act 260 = .ok (.aload 7, 2) := by decide +kernel
theorem dL_act_262 : decode cL_act 262 = .ok (.iload 9, 2) := by decide +kernel
theorem dL_act_264 : decode cL_act 264 = .ok (.aaload, 1) := by decide +kernel
theorem dL_act_265 : decode cL_act 265 = .ok (.astore 10, 2) := by decide +kernel
theorem dL_act_267 : decode cL_act 267 = .ok (.iload 6, 2) := by decide +kernel
theorem dL_act_269 : decode cL_act 269 = .ok (.aload 10, 2) := by decide +kernel
theorem dL_act_271 : decode cL_act 271 = .ok (.iconst 0, 1) := by decide +kernel
theorem dL_act_272 : decode cL_act 272 = .ok (.iaload, 1) := by decide +kernel
theorem dL_act_273 : decode cL_act 273 = .ok (.iload_n 3, 1) := by decide +kernel
theorem dL_act_274 : decode cL_act 274 = .ok (.if_icmp .eq 7, 3) := by decide +kernel
theorem dL_act_277 : decode cL_act 277 = .ok (.iconst 1, 1) := by decide +kernel
theorem dL_act_278 : decode cL_act 278 = .ok (.goto 4, 3) := by decide +kernel
theorem dL_act_281 : decode cL_act 281 = .ok (.iconst 0, 1) := by decide +kernel
theorem dL_act_282 : decode cL_act 282 = .ok (.iand, 1) := by decide +kernel
theorem dL_act_283 : decode cL_act 283 = .ok (.istore 6, 2) := by decide +kernel
theorem dL_act_285 : decode cL_act 285 = .ok (.iinc 9 1, 3) := by decide +kernel
theorem dL_act_288 : decode cL_act 288 = .ok (.goto (-35), 3) := by decide +kernel
theorem dL_act_291 : decode cL_act 291 = .ok (.iload 6, 2) := by decide +kernel
theorem dL_act_293 : decode cL_act 293 = .ok (.ifCond .eq 72, 3) := by decide +kernel
theorem dL_act_296 : decode cL_act 296 = .ok (.aload_n 1, 1) := by decide +kernel
theorem dL_act_297 : decode cL_act 297 = .ok (.aload_n 1, 1) := by decide +kernel
theorem dL_act_298 : decode cL_act 298 = .ok (.getfield 15, 3) := by decide +kernel
theorem dL_act_301 : decode cL_act 301 = .ok (.bipush 12, 2) := by decide +kernel
theorem dL_act_303 : decode cL_act 303 = .ok (.newarray .int, 2) := by decide +kernel
theorem dL_act_305 : decode cL_act 305 = .ok (.dup, 1) := by decide +kernel
theorem dL_act_306 : decode cL_act 306 = .ok (.iconst 0, 1) := by decide +kernel
theorem dL_act_307 : decode cL_act 307 = .ok (.iload_n 3, 1) := by decide +kernel
theorem dL_act_308 : decode cL_act 308 = .ok (.iastore, 1) := by decide +kernel
theorem dL_act_309 : decode cL_act 309 = .ok (.dup, 1) := by decide +kernel
theorem dL_act_310 : decode cL_act 310 = .ok (.iconst 1, 1) := by decide +kernel
theorem dL_act_311 : decode cL_act 311 = .ok (.iconst 0, 1) := by decide +kernel
theorem dL_act_312 : decode cL_act 312 = .ok (.iastore, 1) := by decide +kernel
theorem dL_act_313 : decode cL_act 313 = .ok (.dup, 1) := by decide +kernel
theorem dL_act_314 : decode cL_act 314 = .ok (.iconst 2, 1) := by decide +kernel
theorem dL_act_315 : decode cL_act 315 = .ok (.iconst 0, 1) := by decide +kernel
theorem dL_act_316 : decode cL_act 316 = .ok (.iastore, 1) := by decide +kernel
theorem dL_act_317 : decode cL_act 317 = .ok (.dup, 1) := by decide +kernel
theorem dL_act_318 : decode cL_act 318 = .ok (.iconst 3, 1) := by decide +kernel
theorem dL_act_319 : decode cL_act 319 = .ok (.iconst 0, 1) := by decide +kernel
theorem dL_act_320 : decode cL_act 320 = .ok (.iastore, 1) := by decide +kernel
theorem dL_act_321 : decode cL_act 321 = .ok (.dup, 1) := by decide +kernel
theorem dL_act_322 : decode cL_act 322 = .ok (.iconst 4, 1) := by decide +kernel
theorem dL_act_323 : decode cL_act 323 = .ok (.iconst 0, 1) := by decide +kernel
theorem dL_act_324 : decode cL_act 324 = .ok (.iastore, 1) := by decide +kernel
theorem dL_act_325 : decode cL_act 325 = .ok (.dup, 1) := by decide +kernel
theorem dL_act_326 : decode cL_act 326 = .ok (.iconst 5, 1) := by decide +kernel
theorem dL_act_327 : decode cL_act 327 = .ok (.iconst 0, 1) := by decide +kernel
theorem dL_act_328 : decode cL_act 328 = .ok (.iastore, 1) := by decide +kernel
theorem dL_act_329 : decode cL_act 329 = .ok (.dup, 1) := by decide +kernel
theorem dL_act_330 : decode cL_act 330 = .ok (.bipush 6, 2) := by decide +kernel
theorem dL_act_332 : decode cL_act 332 = .ok (.iconst 0, 1) := by decide +kernel
theorem dL_act_333 : decode cL_act 333 = .ok (.iastore, 1) := by decide +kernel
theorem dL_act_334 : decode cL_act 334 = .ok (.dup, 1) := by decide +kernel
theorem dL_act_335 : decode cL_act 335 = .ok (.bipush 7, 2) := by decide +kernel
theorem dL_act_337 : decode cL_act 337 = .ok (.iconst 0, 1) := by decide +kernel
theorem dL_act_338 : decode cL_act 338 = .ok (.iastore, 1) := by decide +kernel
theorem dL_act_339 : decode cL_act 339 = .ok (.dup, 1) := by decide +kernel
theorem dL_act_340 : decode cL_act 340 = .ok (.bipush 8, 2) := by decide +kernel
theorem dL_act_342 : decode cL_act 342 = .ok (.iconst 0, 1) := by decide +kernel
theorem dL_act_343 : decode cL_act 343 = .ok (.iastore, 1) := by decide +kernel
theorem dL_act_344 : decode cL_act 344 = .ok (.dup, 1) := by decide +kernel
theorem dL_act_345 : decode cL_act 345 = .ok (.bipush 9, 2) := by decide +kernel
theorem dL_act_347 : decode cL_act 347 = .ok (.iconst 0, 1) := by decide +kernel
theorem dL_act_348 : decode cL_act 348 = .ok (.iastore, 1) := by decide +kernel
theorem dL_act_349 : decode cL_act 349 = .ok (.dup, 1) := by decide +kernel
theorem dL_act_350 : decode cL_act 350 = .ok (.bipush 10, 2) := by decide +kernel
theorem dL_act_352 : decode cL_act 352 = .ok (.iconst 0, 1) := by decide +kernel
theorem dL_act_353 : decode cL_act 353 = .ok (.iastore, 1) := by decide +kernel
theorem dL_act_354 : decode cL_act 354 = .ok (.dup, 1) := by decide +kernel
theorem dL_act_355 : decode cL_act 355 = .ok (.bipush 11, 2) := by decide +kernel
theorem dL_act_357 : decode cL_act 357 = .ok (.iconst 0, 1) := by decide +kernel
theorem dL_act_358 : decode cL_act 358 = .ok (.iastore, 1) := by decide +kernel
theorem dL_act_359 : decode cL_act 359 = .ok (.invokestatic 45, 3) := by decide +kernel
theorem dL_act_362 : decode cL_act 362 = .ok (.putfield 15, 3) := by decide +kernel
theorem dL_act_365 : decode cL_act 365 = .ok (.aload_n 0, 1) := by decide +kernel
theorem dL_act_366 : decode cL_act 366 = .ok (.iload_n 3, 1) := by decide +kernel
theorem dL_act_367 : decode cL_act 367 = .ok (.invokevirtual 49, 3) := by decide +kernel
theorem dL_act_370 : decode cL_act 370 = .ok (.istore 7, 2) := by decide +kernel
theorem dL_act_372 : decode cL_act 372 = .ok (.iload 6, 2) := by decide +kernel
theorem dL_act_374 : decode cL_act 374 = .ok (.ifCond .eq 14, 3) := by decide +kernel
theorem dL_act_377 : decode cL_act 377 = .ok (.iload 7, 2) := by decide +kernel
theorem dL_act_379 : decode cL_act 379 = .ok (.iload 4, 2) := by decide +kernel
theorem dL_act_381 : decode cL_act 381 = .ok (.if_icmp .ne 7, 3) := by decide +kernel
theorem dL_act_384 : decode cL_act 384 = .ok (.iconst 1, 1) := by decide +kernel
theorem dL_act_385 : decode cL_act 385 = .ok (.goto 4, 3) := by decide +kernel
theorem dL_act_388 : decode cL_act 388 = .ok (.iconst 0, 1) := by decide +kernel
theorem dL_act_389 : decode cL_act 389 = .ok (.ireturn, 1) := by decide +kernel
theorem dL_act_390 : decode cL_act 390 = .ok (.astore 7, 2) := by decide +kernel
theorem dL_act_392 : decode cL_act 392 = .ok (.iload 6, 2) := by decide +kernel
theorem dL_act_394 : decode cL_act 394 = .ok (.ifCond .ne 7, 3) := by decide +kernel
theorem dL_act_397 : decode cL_act 397 = .ok (.iconst 1, 1) := by decide +kernel
theorem dL_act_398 : decode cL_act 398 = .ok (.goto 4, 3) := by decide +kernel
theorem dL_act_401 : decode cL_act 401 = .ok (.iconst 0, 1) := by decide +kernel
theorem dL_act_402 : decode cL_act 402 = .ok (.ireturn, 1) := by decide +kernel
theorem dL_act_403 : decode cL_act 403 = .ok (.iload 4, 2) := by decide +kernel
theorem dL_act_405 : decode cL_act 405 = .ok (.ifCond .ne 5, 3) := by decide +kernel
theorem dL_act_408 : decode cL_act 408 = .ok (.iconst 1, 1) := by decide +kernel
theorem dL_act_409 : decode cL_act 409 = .ok (.ireturn, 1) := by decide +kernel
theorem dL_act_410 : decode cL_act 410 = .ok (.aload_n 1, 1) := by decide +kernel
theorem dL_act_411 : decode cL_act 411 = .ok (.getfield 15, 3) := by decide +kernel
theorem dL_act_414 : decode cL_act 414 = .ok (.iload_n 2, 1) := by decide +kernel
theorem dL_act_415 : decode cL_act 415 = .ok (.iconst 4, 1) := by decide +kernel
theorem dL_act_416 : decode cL_act 416 = .ok (.ishr, 1) := by decide +kernel
theorem dL_act_417 : decode cL_act 417 = .ok (.iload 4, 2) := by decide +kernel
theorem dL_act_419 : decode cL_act 419 = .ok (.invokestatic 9, 3) := by decide +kernel
theorem dL_act_422 : decode cL_act 422 = .ok (.aaload, 1) := by decide +kernel
theorem dL_act_423 : decode cL_act 423 = .ok (.astore 6, 2) := by decide +kernel
theorem dL_act_425 : decode cL_act 425 = .ok (.iload_n 2, 1) := by decide +kernel
theorem dL_act_426 : decode cL_act 426 = .ok (.bipush 7, 2) := by decide +kernel
theorem dL_act_428 : decode cL_act 428 = .ok (.ishr, 1) := by decide +kernel
theorem dL_act_429 : decode cL_act 429 = .ok (.bipush 10, 2) := by decide +kernel
theorem dL_act_431 : decode cL_act 431 = .ok (.invokestatic 9, 3) := by decide +kernel
theorem dL_act_434 : decode cL_act 434 = .ok (.istore 7, 2) := by decide +kernel
theorem dL_act_436 : decode cL_act 436 = .ok (.aload 6, 2) := by decide +kernel
theorem dL_act_438 : decode cL_act 438 = .ok (.iconst 1, 1) := by decide +kernel
theorem dL_act_439 : decode cL_act 439 = .ok (.iload 7, 2) := by decide +kernel
theorem dL_act_441 : decode cL_act 441 = .ok (.iadd, 1) := by decide +kernel
theorem dL_act_442 : decode cL_act 442 = .ok (.iaload, 1) := by decide +kernel
theorem dL_act_443 : decode cL_act 443 = .ok (.istore 8, 2) := by decide +kernel
theorem dL_act_445 : decode cL_act 445 = .ok (.aload 6, 2) := by decide +kernel
theorem dL_act_447 : decode cL_act 447 = .ok (.iconst 1, 1) := by decide +kernel
theorem dL_act_448 : decode cL_act 448 = .ok (.iload 7, 2) := by decide +kernel
theorem dL_act_450 : decode cL_act 450 = .ok (.iadd, 1) := by decide +kernel
theorem dL_act_451 : decode cL_act 451 = .ok (.iload_n 2, 1) := by decide +kernel
theorem dL_act_452 : decode cL_act 452 = .ok (.bipush 10, 2) := by decide +kernel
theorem dL_act_454 : decode cL_act 454 = .ok (.ishr, 1) := by decide +kernel
theorem dL_act_455 : decode cL_act 455 = .ok (.bipush 8, 2) := by decide +kernel
theorem dL_act_457 : decode cL_act 457 = .ok (.invokestatic 9, 3) := by decide +kernel
theorem dL_act_460 : decode cL_act 460 = .ok (.iastore, 1) := by decide +kernel
theorem dL_act_461 : decode cL_act 461 = .ok (.aload_n 0, 1) := by decide +kernel
theorem dL_act_462 : decode cL_act 462 = .ok (.iload_n 2, 1) := by decide +kernel
theorem dL_act_463 : decode cL_act 463 = .ok (.iconst 4, 1) := by decide +kernel
theorem dL_act_464 : decode cL_act 464 = .ok (.ishr, 1) := by decide +kernel
theorem dL_act_465 : decode cL_act 465 = .ok (.iload 4, 2) := by decide +kernel
theorem dL_act_467 : decode cL_act 467 = .ok (.invokestatic 9, 3) := by decide +kernel
theorem dL_act_470 : decode cL_act 470 = .ok (.iload 7, 2) := by decide +kernel
theorem dL_act_472 : decode cL_act 472 = .ok (.aload 6, 2) := by decide +kernel
theorem dL_act_474 : decode cL_act 474 = .ok (.iconst 1, 1) := by decide +kernel
theorem dL_act_475 : decode cL_act 475 = .ok (.iload 7, 2) := by decide +kernel
theorem dL_act_477 : decode cL_act 477 = .ok (.iadd, 1) := by decide +kernel
theorem dL_act_478 : decode cL_act 478 = .ok (.iaload, 1) := by decide +kernel
theorem dL_act_479 : decode cL_act 479 = .ok (.invokevirtual 55, 3) := by decide +kernel
theorem dL_act_482 : decode cL_act 482 = .ok (.iload 8, 2) := by decide +kernel
theorem dL_act_484 : decode cL_act 484 = .ok (.if_icmp .ne 7, 3) := by decide +kernel
theorem dL_act_487 : decode cL_act 487 = .ok (.iconst 1, 1) := by decide +kernel
theorem dL_act_488 : decode cL_act 488 = .ok (.goto 4, 3) := by decide +kernel
theorem dL_act_491 : decode cL_act 491 = .ok (.iconst 0, 1) := by decide +kernel
theorem dL_act_492 : decode cL_act 492 = .ok (.ireturn, 1) := by decide +kernel
theorem dL_act_493 : decode cL_act 493 = .ok (.bipush 15, 2) := by decide +kernel
theorem dL_act_495 : decode cL_act 495 = .ok (.iload_n 3, 1) := by decide +kernel
theorem dL_act_496 : decode cL_act 496 = .ok (.iload_n 2, 1) := by decide +kernel
theorem dL_act_497 : decode cL_act 497 = .ok (.bipush 8, 2) := by decide +kernel
theorem dL_act_499 : decode cL_act 499 = .ok (.ishr, 1) := by decide +kernel
theorem dL_act_500 : decode cL_act 500 = .ok (.bipush 6, 2) := by decide +kernel
theorem dL_act_502 : decode cL_act 502 = .ok (.invokestatic 9, 3) := by decide +kernel
theorem dL_act_505 : decode cL_act 505 = .ok (.iadd, 1) := by decide +kernel
theorem dL_act_506 : decode cL_act 506 = .ok (.invokestatic 59, 3) := by decide +kernel
theorem dL_act_509 : decode cL_act 509 = .ok (.istore 6, 2) := by decide +kernel
theorem dL_act_511 : decode cL_act 511 = .ok (.iload_n 2, 1) := by decide +kernel
theorem dL_act_512 : decode cL_act 512 = .ok (.bipush 10, 2) := by decide +kernel
theorem dL_act_514 : decode cL_act 514 = .ok (.ishr, 1) := by decide +kernel
theorem dL_act_515 : decode cL_act 515 = .ok (.iconst 4, 1) := by decide +kernel
theorem dL_act_516 : decode cL_act 516 = .ok (.invokestatic 9, 3) := by decide +kernel
theorem dL_act_519 : decode cL_act 519 = .ok (.istore 7, 2) := by decide +kernel
theorem dL_act_521 : decode cL_act 521 = .ok (.aload_n 1, 1) := by decide +kernel
theorem dL_act_522 : decode cL_act 522 = .ok (.getfield 64, 3) := by decide +kernel
theorem dL_act_525 : decode cL_act 525 = .ok (.arraylength, 1) := by decide +kernel
theorem dL_act_526 : decode cL_act 526 = .ok (.iconst 4, 1) := by decide +kernel
theorem dL_act_527 : decode cL_act 527 = .ok (.if_icmp .eq 14, 3) := by decide +kernel
theorem dL_act_530 : decode cL_act 530 = .ok (.iload_n 2, 1) := by decide +kernel
theorem dL_act_531 : decode cL_act 531 = .ok (.bipush 12, 2) := by decide +kernel
theorem dL_act_533 : decode cL_act 533 = .ok (.ishr, 1) := by decide +kernel
theorem dL_act_534 : decode cL_act 534 = .ok (.iconst 2, 1) := by decide +kernel
theorem dL_act_535 : decode cL_act 535 = .ok (.invokestatic 9, 3) := by decide +kernel
theorem dL_act_538 : decode cL_act 538 = .ok (.ifCond .ne 5, 3) := by decide +kernel
theorem dL_act_541 : decode cL_act 541 = .ok (.iconst 1, 1) := by decide +kernel
theorem dL_act_542 : decode cL_act 542 = .ok (.ireturn, 1) := by decide +kernel
theorem dL_act_543 : decode cL_act 543 = .ok (.aload_n 1, 1) := by decide +kernel
theorem dL_act_544 : decode cL_act 544 = .ok (.aload_n 1, 1) := by decide +kernel
theorem dL_act_545 : decode cL_act 545 = .ok (.getfield 64, 3) := by decide +kernel
theorem dL_act_548 : decode cL_act 548 = .ok (.bipush 6, 2) := by decide +kernel
theorem dL_act_550 : decode cL_act 550 = .ok (.newarray .int, 2) := by decide +kernel
theorem dL_act_552 : decode cL_act 552 = .ok (.dup, 1) := by decide +kernel
theorem dL_act_553 : decode cL_act 553 = .ok (.iconst 0, 1) := by decide +kernel
theorem dL_act_554 : decode cL_act 554 = .ok (.iload_n 3, 1) := by decide +kernel
theorem dL_act_555 : decode cL_act 555 = .ok (.iastore, 1) := by decide +kernel
theorem dL_act_556 : decode cL_act 556 = .ok (.dup, 1) := by decide +kernel
theorem dL_act_557 : decode cL_act 557 = .ok (.iconst 1, 1) := by decide +kernel
theorem dL_act_558 : decode cL_act 558 = .ok (.iload 6, 2) := by decide +kernel
theorem dL_act_560 : decode cL_act 560 = .ok (.iastore, 1) := by decide +kernel
theorem dL_act_561 : decode cL_act 561 = .ok (.dup, 1) := by decide +kernel
theorem dL_act_562 : decode cL_act 562 = .ok (.iconst 2, 1) := by decide +kernel
theorem dL_act_563 : decode cL_act 563 = .ok (.iload 7, 2) := by decide +kernel
theorem dL_act_565 : decode cL_act 565 = .ok (.iastore, 1) := by decide +kernel
theorem dL_act_566 : decode cL_act 566 = .ok (.dup, 1) := by decide +kernel
theorem dL_act_567 : decode cL_act 567 = .ok (.iconst 3, 1) := by decide +kernel
theorem dL_act_568 : decode cL_act 568 = .ok (.iload_n 3, 1) := by decide +kernel
theorem dL_act_569 : decode cL_act 569 = .ok (.iastore, 1) := by decide +kernel
theorem dL_act_570 : decode cL_act 570 = .ok (.dup, 1) := by decide +kernel
theorem dL_act_571 : decode cL_act 571 = .ok (.iconst 4, 1) := by decide +kernel
theorem dL_act_572 : decode cL_act 572 = .ok (.iconst 1, 1) := by decide +kernel
theorem dL_act_573 : decode cL_act 573 = .ok (.iastore, 1) := by decide +kernel
theorem dL_act_574 : decode cL_act 574 = .ok (.dup, 1) := by decide +kernel
theorem dL_act_575 : decode cL_act 575 = .ok (.iconst 5, 1) := by decide +kernel
theorem dL_act_576 : decode cL_act 576 = .ok (.iconst 0, 1) := by decide +kernel
theorem dL_act_577 : decode cL_act 577 = .ok (.iastore, 1) := by decide +kernel
theorem dL_act_578 : decode cL_act 578 = .ok (.invokestatic 45, 3) := by decide +kernel
theorem dL_act_581 : decode cL_act 581 = .ok (.putfield 64, 3) := by decide +kernel
theorem dL_act_584 : decode cL_act 584 = .ok (.aload_n 0, 1) := by decide +kernel
theorem dL_act_585 : decode cL_act 585 = .ok (.iload_n 3, 1) := by decide +kernel
theorem dL_act_586 : decode cL_act 586 = .ok (.iload 6, 2) := by decide +kernel
theorem dL_act_588 : decode cL_act 588 = .ok (.iload 7, 2) := by decide +kernel
theorem dL_act_590 : decode cL_act 590 = .ok (.invokevirtual 67, 3) := by decide +kernel
theorem dL_act_593 : decode cL_act 593 = .ok (.aload_n 1, 1) := by decide +kernel
theorem dL_act_594 : decode cL_act 594 = .ok (.getfield 64, 3) := by decide +kernel
theorem dL_act_597 : decode cL_act 597 = .ok (.arraylength, 1) := by decide +kernel
theorem dL_act_598 : decode cL_act 598 = .ok (.iconst 1, 1) := by decide +kernel
theorem dL_act_599 : decode cL_act 599 = .ok (.isub, 1) := by decide +kernel
theorem dL_act_600 : decode cL_act 600 = .ok (.if_icmp .ne 7, 3) := by decide +kernel
theorem dL_act_603 : decode cL_act 603 = .ok (.iconst 1, 1) := by decide +kernel
theorem dL_act_604 : decode cL_act 604 = .ok (.goto 4, 3) := by decide +kernel
theorem dL_act_607 : decode cL_act 607 = .ok (.iconst 0, 1) := by decide +kernel
theorem dL_act_608 : decode cL_act 608 = .ok (.ireturn, 1) := by decide +kernel
theorem dL_act_609 : decode cL_act 609 = .ok (.iconst 1, 1) := by decide +kernel
theorem dL_act_610 : decode cL_act 610 = .ok (.iload_n 2, 1) := by decide +kernel
theorem dL_act_611 : decode cL_act 611 = .ok (.bipush 8, 2) := by decide +kernel
theorem dL_act_613 : decode cL_act 613 = .ok (.ishr, 1) := by decide +kernel
theorem dL_act_614 : decode cL_act 614 = .ok (.bipush 20, 2) := by decide +kernel
theorem dL_act_616 : decode cL_act 616 = .ok (.invokestatic 9, 3) := by decide +kernel
theorem dL_act_619 : decode cL_act 619 = .ok (.iadd, 1) := by decide +kernel
theorem dL_act_620 : decode cL_act 620 = .ok (.istore 6, 2) := by decide +kernel
theorem dL_act_622 : decode cL_act 622 = .ok (.iload 5, 2) := by decide +kernel
theorem dL_act_624 : decode cL_act 624 = .ok (.bipush 6, 2) := by decide +kernel
theorem dL_act_626 : decode cL_act 626 = .ok (.if_icmp .ge 48, 3) := by decide +kernel
theorem dL_act_629 : decode cL_act 629 = .ok (.aload_n 1, 1) := by decide +kernel
theorem dL_act_630 : decode cL_act 630 = .ok (.aload_n 1, 1) := by decide +kernel
theorem dL_act_631 : decode cL_act 631 = .ok (.getfield 21, 3) := by decide +kernel
theorem dL_act_634 : decode cL_act 634 = .ok (.bipush 7, 2) := by decide +kernel
theorem dL_act_636 : decode cL_act 636 = .ok (.newarray .int, 2) := by decide +kernel
theorem dL_act_638 : decode cL_act 638 = .ok (.dup, 1) := by decide +kernel
theorem dL_act_639 : decode cL_act 639 = .ok (.iconst 0, 1) := by decide +kernel
theorem dL_act_640 : decode cL_act 640 = .ok (.iload_n 3, 1) := by decide +kernel
theorem dL_act_641 : decode cL_act 641 = .ok (.iastore, 1) := by decide +kernel
theorem dL_act_642 : decode cL_act 642 = .ok (.dup, 1) := by decide +kernel
theorem dL_act_643 : decode cL_act 643 = .ok (.iconst 1, 1) := by decide +kernel
theorem dL_act_644 : decode cL_act 644 = .ok (.iload 6, 2) := by decide +kernel
theorem dL_act_646 : decode cL_act 646 = .ok (.iastore, 1) := by decide +kernel
theorem dL_act_647 : decode cL_act 647 = .ok (.dup, 1) := by decide +kernel
theorem dL_act_648 : decode cL_act 648 = .ok (.iconst 2, 1) := by decide +kernel
theorem dL_act_649 : decode cL_act 649 = .ok (.iconst (-1), 1) := by decide +kernel
theorem dL_act_650 : decode cL_act 650 = .ok (.iastore, 1) := by decide +kernel
theorem dL_act_651 : decode cL_act 651 = .ok (.dup, 1) := by decide +kernel
theorem dL_act_652 : decode cL_act 652 = .ok (.iconst 3, 1) := by decide +kernel
theorem dL_act_653 : decode cL_act 653 = .ok (.iconst 0, 1) := by decide +kernel
theorem dL_act_654 : decode cL_act 654 = .ok (.iastore, 1) := by decide +kernel
theorem dL_act_655 : decode cL_act 655 = .ok (.dup, 1) := by decide +kernel
theorem dL_act_656 : decode cL_act 656 = .ok (.iconst 4, 1) := by decide +kernel
theorem dL_act_657 : decode cL_act 657 = .ok (.iconst 0, 1) := by decide +kernel
theorem dL_act_658 : decode cL_act 658 = .ok (.iastore, 1) := by decide +kernel
theorem dL_act_659 : decode cL_act 659 = .ok (.dup, 1) := by decide +kernel
theorem dL_act_660 : decode cL_act 660 = .ok (.iconst 5, 1) := by decide +kernel
theorem dL_act_661 : decode cL_act 661 = .ok (.iconst 0, 1) := by decide +kernel
theorem dL_act_662 : decode cL_act 662 = .ok (.iastore, 1) := by decide +kernel
theorem dL_act_663 : decode cL_act 663 = .ok (.dup, 1) := by decide +kernel
theorem dL_act_664 : decode cL_act 664 = .ok (.bipush 6, 2) := by decide +kernel
theorem dL_act_666 : decode cL_act 666 = .ok (.iconst 1, 1) := by decide +kernel
theorem dL_act_667 : decode cL_act 667 = .ok (.iastore, 1) := by decide +kernel
theorem dL_act_668 : decode cL_act 668 = .ok (.invokestatic 45, 3) := by decide +kernel
theorem dL_act_671 : decode cL_act 671 = .ok (.putfield 21, 3) := by decide +kernel
theorem dL_act_674 : decode cL_act 674 = .ok (.aload_n 0, 1) := by decide +kernel
theorem dL_act_675 : decode cL_act 675 = .ok (.iload_n 3, 1) := by decide +kernel
theorem dL_act_676 : decode cL_act 676 = .ok (.iload 6, 2) := by decide +kernel
theorem dL_act_678 : decode cL_act 678 = .ok (.invokevirtual 70, 3) := by decide +kernel
theorem dL_act_681 : decode cL_act 681 = .ok (.istore 7, 2) := by decide +kernel
theorem dL_act_683 : decode cL_act 683 = .ok (.iload 5, 2) := by decide +kernel
theorem dL_act_685 : decode cL_act 685 = .ok (.bipush 6, 2) := by decide +kernel
theorem dL_act_687 : decode cL_act 687 = .ok (.if_icmp .ge 14, 3) := by decide +kernel
theorem dL_act_690 : decode cL_act 690 = .ok (.iload 7, 2) := by decide +kernel
theorem dL_act_692 : decode cL_act 692 = .ok (.iload 5, 2) := by decide +kernel
theorem dL_act_694 : decode cL_act 694 = .ok (.if_icmp .ne 7, 3) := by decide +kernel
theorem dL_act_697 : decode cL_act 697 = .ok (.iconst 1, 1) := by decide +kernel
theorem dL_act_698 : decode cL_act 698 = .ok (.goto 4, 3) := by decide +kernel
theorem dL_act_701 : decode cL_act 701 = .ok (.iconst 0, 1) := by decide +kernel
theorem dL_act_702 : decode cL_act 702 = .ok (.ireturn, 1) := by decide +kernel
theorem dL_act_703 : decode cL_act 703 = .ok (.astore 7, 2) := by decide +kernel
theorem dL_act_705 : decode cL_act 705 = .ok (.iload 5, 2) := by decide +kernel
theorem dL_act_707 : decode cL_act 707 = .ok (.bipush 6, 2) := by decide +kernel
theorem dL_act_709 : decode cL_act 709 = .ok (.if_icmp .ne 7, 3) := by decide +kernel
theorem dL_act_712 : decode cL_act 712 = .ok (.iconst 1, 1) := by decide +kernel
theorem dL_act_713 : decode cL_act 713 = .ok (.goto 4, 3) := by decide +kernel
theorem dL_act_716 : decode cL_act 716 = .ok (.iconst 0, 1) := by decide +kernel
theorem dL_act_717 : decode cL_act 717 = .ok (.ireturn, 1) := by decide +kernel
theorem dL_act_718 : decode cL_act 718 = .ok (.iload 5, 2) := by decide +kernel
theorem dL_act_720 : decode cL_act 720 = .ok (.ifCond .ne 5, 3) := by decide +kernel
theorem dL_act_723 : decode cL_act 723 = .ok (.iconst 1, 1) := by decide +kernel
theorem dL_act_724 : decode cL_act 724 = .ok (.ireturn, 1) := by decide +kernel
theorem dL_act_725 : decode cL_act 725 = .ok (.aload_n 1, 1) := by decide +kernel
theorem dL_act_726 : decode cL_act 726 = .ok (.getfield 21, 3) := by decide +kernel
theorem dL_act_729 : decode cL_act 729 = .ok (.iload_n 2, 1) := by decide +kernel
theorem dL_act_730 : decode cL_act 730 = .ok (.bipush 8, 2) := by decide +kernel
theorem dL_act_732 : decode cL_act 732 = .ok (.ishr, 1) := by decide +kernel
theorem dL_act_733 : decode cL_act 733 = .ok (.iload 5, 2) := by decide +kernel
theorem dL_act_735 : decode cL_act 735 = .ok (.invokestatic 9, 3) := by decide +kernel
theorem dL_act_738 : decode cL_act 738 = .ok (.aaload, 1) := by decide +kernel
theorem dL_act_739 : decode cL_act 739 = .ok (.astore 6, 2) := by decide +kernel
theorem dL_act_741 : decode cL_act 741 = .ok (.iload_n 2, 1) := by decide +kernel
theorem dL_act_742 : decode cL_act 742 = .ok (.bipush 11, 2) := by decide +kernel
theorem dL_act_744 : decode cL_act 744 = .ok (.ishr, 1) := by decide +kernel
theorem dL_act_745 : decode cL_act 745 = .ok (.iconst 4, 1) := by decide +kernel
theorem dL_act_746 : decode cL_act 746 = .ok (.invokestatic 9, 3) := by decide +kernel
theorem dL_act_749 : decode cL_act 749 = .ok (.ifCond .ne 7, 3) := by decide +kernel
theorem dL_act_752 : decode cL_act 752 = .ok (.iconst (-1), 1) := by decide +kernel
theorem dL_act_753 : decode cL_act 753 = .ok (.goto 4, 3) := by decide +kernel
theorem dL_act_756 : decode cL_act 756 = .ok (.iload_n 3, 1) := by decide +kernel
theorem dL_act_757 : decode cL_act 757 = .ok (.istore 7, 2) := by decide +kernel
theorem dL_act_759 : decode cL_act 759 = .ok (.aload 6, 2) := by decide +kernel
theorem dL_act_761 : decode cL_act 761 = .ok (.iconst 2, 1) := by decide +kernel
theorem dL_act_762 : decode cL_act 762 = .ok (.iaload, 1) := by decide +kernel
theorem dL_act_763 : decode cL_act 763 = .ok (.istore 8, 2) := by decide +kernel
theorem dL_act_765 : decode cL_act 765 = .ok (.aload 6, 2) := by decide +kernel
theorem dL_act_767 : decode cL_act 767 = .ok (.iconst 3, 1) := by decide +kernel
theorem dL_act_768 : decode cL_act 768 = .ok (.iaload, 1) := by decide +kernel
theorem dL_act_769 : decode cL_act 769 = .ok (.ifCond .le 5, 3) := by decide +kernel
theorem dL_act_772 : decode cL_act 772 = .ok (.iconst 1, 1) := by decide +kernel
theorem dL_act_773 : decode cL_act 773 = .ok (.ireturn, 1) := by decide +kernel
theorem dL_act_774 : decode cL_act 774 = .ok (.aload 6, 2) := by decide +kernel
theorem dL_act_776 : decode cL_act 776 = .ok (.iconst 2, 1) := by decide +kernel
theorem dL_act_777 : decode cL_act 777 = .ok (.iload 7, 2) := by decide +kernel
theorem dL_act_779 : decode cL_act 779 = .ok (.iastore, 1) := by decide +kernel
theorem dL_act_780 : decode cL_act 780 = .ok (.aload 6, 2) := by decide +kernel
theorem dL_act_782 : decode cL_act 782 = .ok (.iconst 5, 1) := by decide +kernel
theorem dL_act_783 : decode cL_act 783 = .ok (.iconst 0, 1) := by decide +kernel
theorem dL_act_784 : decode cL_act 784 = .ok (.iastore, 1) := by decide +kernel
theorem dL_act_785 : decode cL_act 785 = .ok (.aload 6, 2) := by decide +kernel
theorem dL_act_787 : decode cL_act 787 = .ok (.bipush 6, 2) := by decide +kernel
theorem dL_act_789 : decode cL_act 789 = .ok (.iload 7, 2) := by decide +kernel
theorem dL_act_791 : decode cL_act 791 = .ok (.ifCond .ge 7, 3) := by decide +kernel
theorem dL_act_794 : decode cL_act 794 = .ok (.iconst 1, 1) := by decide +kernel
theorem dL_act_795 : decode cL_act 795 = .ok (.goto 4, 3) := by decide +kernel
theorem dL_act_798 : decode cL_act 798 = .ok (.iconst 0, 1) := by decide +kernel
theorem dL_act_799 : decode cL_act 799 = .ok (.iastore, 1) := by decide +kernel
theorem dL_act_800 : decode cL_act 800 = .ok (.aload_n 0, 1) := by decide +kernel
theorem dL_act_801 : decode cL_act 801 = .ok (.iload_n 2, 1) := by decide +kernel
theorem dL_act_802 : decode cL_act 802 = .ok (.bipush 8, 2) := by decide +kernel
theorem dL_act_804 : decode cL_act 804 = .ok (.ishr, 1) := by decide +kernel
theorem dL_act_805 : decode cL_act 805 = .ok (.iload 5, 2) := by decide +kernel
theorem dL_act_807 : decode cL_act 807 = .ok (.invokestatic 9, 3) := by decide +kernel
theorem dL_act_810 : decode cL_act 810 = .ok (.iload 7, 2) := by decide +kernel
theorem dL_act_812 : decode cL_act 812 = .ok (.invokevirtual 73, 3) := by decide +kernel
theorem dL_act_815 : decode cL_act 815 = .ok (.iload 8, 2) := by decide +kernel
theorem dL_act_817 : decode cL_act 817 = .ok (.if_icmp .ne 7, 3) := by decide +kernel
theorem dL_act_820 : decode cL_act 820 = .ok (.iconst 1, 1) := by decide +kernel
theorem dL_act_821 : decode cL_act 821 = .ok (.goto 4, 3) := by decide +kernel
theorem dL_act_824 : decode cL_act 824 = .ok (.iconst 0, 1) := by decide +kernel
theorem dL_act_825 : decode cL_act 825 = .ok (.ireturn, 1) := by decide +kernel
theorem dL_act_826 : decode cL_act 826 = .ok (.aload_n 1, 1) := by decide +kernel
theorem dL_act_827 : decode cL_act 827 = .ok (.getfield 24, 3) := by decide +kernel
theorem dL_act_830 : decode cL_act 830 = .ok (.iload_n 3, 1) := by decide +kernel
theorem dL_act_831 : decode cL_act 831 = .ok (.iaload, 1) := by decide +kernel
theorem dL_act_832 : decode cL_act 832 = .ok (.ifCond .ne 5, 3) := by decide +kernel
theorem dL_act_835 : decode cL_act 835 = .ok (.iconst 1, 1) := by decide +kernel
theorem dL_act_836 : decode cL_act 836 = .ok (.ireturn, 1) := by decide +kernel
theorem dL_act_837 : decode cL_act 837 = .ok (.iconst 1, 1) := by decide +kernel
theorem dL_act_838 : decode cL_act 838 = .ok (.iload_n 2, 1) := by decide +kernel
theorem dL_act_839 : decode cL_act 839 = .ok (.bipush 8, 2) := by decide +kernel
theorem dL_act_841 : decode cL_act 841 = .ok (.ishr, 1) := by decide +kernel
theorem dL_act_842 : decode cL_act 842 = .ok (.aload_n 1, 1) := by decide +kernel
theorem dL_act_843 : decode cL_act 843 = .ok (.getfield 24, 3) := by decide +kernel
theorem dL_act_846 : decode cL_act 846 = .ok (.iload_n 3, 1) := by decide +kernel
theorem dL_act_847 : decode cL_act 847 = .ok (.iaload, 1) := by decide +kernel
theorem dL_act_848 : decode cL_act 848 = .ok (.invokestatic 9, 3) := by decide +kernel
theorem dL_act_851 : decode cL_act 851 = .ok (.iadd, 1) := by decide +kernel
theorem dL_act_852 : decode cL_act 852 = .ok (.istore 6, 2) := by decide +kernel
theorem dL_act_854 : decode cL_act 854 = .ok (.aload_n 1, 1) := by decide +kernel
theorem dL_act_855 : decode cL_act 855 = .ok (.getfield 24, 3) := by decide +kernel
theorem dL_act_858 : decode cL_act 858 = .ok (.iload_n 3, 1) := by decide +kernel
theorem dL_act_859 : decode cL_act 859 = .ok (.dup2, 1) := by decide +kernel
theorem dL_act_860 : decode cL_act 860 = .ok (.iaload, 1) := by decide +kernel
theorem dL_act_861 : decode cL_act 861 = .ok (.iload 6, 2) := by decide +kernel
theorem dL_act_863 : decode cL_act 863 = .ok (.isub, 1) := by decide +kernel
theorem dL_act_864 : decode cL_act 864 = .ok (.iastore, 1) := by decide +kernel
theorem dL_act_865 : decode cL_act 865 = .ok (.aload_n 1, 1) := by decide +kernel
theorem dL_act_866 : decode cL_act 866 = .ok (.dup, 1) := by decide +kernel
theorem dL_act_867 : decode cL_act 867 = .ok (.getfield 76, 3) := by decide +kernel
theorem dL_act_870 : decode cL_act 870 = .ok (.iload 6, 2) := by decide +kernel
theorem dL_act_872 : decode cL_act 872 = .ok (.iadd, 1) := by decide +kernel
theorem dL_act_873 : decode cL_act 873 = .ok (.putfield 76, 3) := by decide +kernel
theorem dL_act_876 : decode cL_act 876 = .ok (.aload_n 0, 1) := by decide +kernel
theorem dL_act_877 : decode cL_act 877 = .ok (.iload_n 3, 1) := by decide +kernel
theorem dL_act_878 : decode cL_act 878 = .ok (.iload 6, 2) := by decide +kernel
theorem dL_act_880 : decode cL_act 880 = .ok (.invokevirtual 80, 3) := by decide +kernel
theorem dL_act_883 : decode cL_act 883 = .ok (.aload_n 1, 1) := by decide +kernel
theorem dL_act_884 : decode cL_act 884 = .ok (.getfield 24, 3) := by decide +kernel
theorem dL_act_887 : decode cL_act 887 = .ok (.iload_n 3, 1) := by decide +kernel
theorem dL_act_888 : decode cL_act 888 = .ok (.iaload, 1) := by decide +kernel
theorem dL_act_889 : decode cL_act 889 = .ok (.if_icmp .ne 7, 3) := by decide +kernel
theorem dL_act_892 : decode cL_act 892 = .ok (.iconst 1, 1) := by decide +kernel
theorem dL_act_893 : decode cL_act 893 = .ok (.goto 4, 3) := by decide +kernel
theorem dL_act_896 : decode cL_act 896 = .ok (.iconst 0, 1) := by decide +kernel
theorem dL_act_897 : decode cL_act 897 = .ok (.ireturn, 1) := by decide +kernel
theorem dL_act_898 : decode cL_act 898 = .ok (.iconst 1, 1) := by decide +kernel
theorem dL_act_899 : decode cL_act 899 = .ok (.iload_n 2, 1) := by decide +kernel
theorem dL_act_900 : decode cL_act 900 = .ok (.iconst 5, 1) := by decide +kernel
theorem dL_act_901 : decode cL_act 901 = .ok (.ishr, 1) := by decide +kernel
theorem dL_act_902 : decode cL_act 902 = .ok (.iload_n 2, 1) := by decide +kernel
theorem dL_act_903 : decode cL_act 903 = .ok (.bipush 9, 2) := by decide +kernel
theorem dL_act_905 : decode cL_act 905 = .ok (.ishr, 1) := by decide +kernel
theorem dL_act_906 : decode cL_act 906 = .ok (.iconst 5, 1) := by decide +kernel
theorem dL_act_907 : decode cL_act 907 = .ok (.invokestatic 9, 3) := by decide +kernel
theorem dL_act_910 : decode cL_act 910 = .ok (.ifCond .ne 8, 3) := by decide +kernel
theorem dL_act_913 : decode cL_act 913 = .ok (.bipush 40, 2) := by decide +kernel
theorem dL_act_915 : decode cL_act 915 = .ok (.goto 4, 3) := by decide +kernel
theorem dL_act_918 : decode cL_act 918 = .ok (.iconst 5, 1) := by decide +kernel
theorem dL_act_919 : decode cL_act 919 = .ok (.invokestatic 9, 3) := by decide +kernel
theorem dL_act_922 : decode cL_act 922 = .ok (.iadd, 1) := by decide +kernel
theorem dL_act_923 : decode cL_act 923 = .ok (.istore 6, 2) := by decide +kernel
theorem dL_act_925 : decode cL_act 925 = .ok (.iconst 0, 1) := by decide +kernel
theorem dL_act_926 : decode cL_act 926 = .ok (.istore 7, 2) := by decide +kernel
theorem dL_act_928 : decode cL_act 928 = .ok (.iconst 0, 1) := by decide +kernel
theorem dL_act_929 : decode cL_act 929 = .ok (.istore 8, 2) := by decide +kernel
theorem dL_act_931 : decode cL_act 931 = .ok (.iload 8, 2) := by decide +kernel
theorem dL_act_933 : decode cL_act 933 = .ok (.iload 6, 2) := by decide +kernel
theorem dL_act_935 : decode cL_act 935 = .ok (.if_icmp .ge 18, 3) := by decide +kernel
theorem dL_act_938 : decode cL_act 938 = .ok (.iload 7, 2) := by decide +kernel
theorem dL_act_940 : decode cL_act 940 = .ok (.aload_n 1, 1) := by decide +kernel
theorem dL_act_941 : decode cL_act 941 = .ok (.invokevirtual 83, 3) := by decide +kernel
theorem dL_act_944 : decode cL_act 944 = .ok (.iadd, 1) := by decide +kernel
theorem dL_act_945 : decode cL_act 945 = .ok (.istore 7, 2) := by decide +kernel
theorem dL_act_947 : decode cL_act 947 = .ok (.iinc 8 1, 3) := by decide +kernel
theorem dL_act_950 : decode cL_act 950 = .ok (.goto (-19), 3) := by decide +kernel
theorem dL_act_953 : decode cL_act 953 = .ok (.aload_n 0, 1) := by decide +kernel
theorem dL_act_954 : decode cL_act 954 = .ok (.iload 6, 2) := by decide +kernel
theorem dL_act_956 : decode cL_act 956 = .ok (.invokevirtual 87, 3) := by decide +kernel
theorem dL_act_959 : decode cL_act 959 = .ok (.iload 7, 2) := by decide +kernel
theorem dL_act_961 : decode cL_act 961 = .ok (.if_icmp .ne 7, 3) := by decide +kernel
theorem dL_act_964 : decode cL_act 964 = .ok (.iconst 1, 1) := by decide +kernel
theorem dL_act_965 : decode cL_act 965 = .ok (.goto 4, 3) := by decide +kernel
theorem dL_act_968 : decode cL_act 968 = .ok (.iconst 0, 1) := by decide +kernel
theorem dL_act_969 : decode cL_act 969 = .ok (.ireturn, 1) := by decide +kernel
theorem dL_build_0 : decode cL_build 0 = .ok (.new 16, 3) := by decide +kernel
theorem dL_build_3 : decode cL_build 3 = .ok (.dup, 1) := by decide +kernel
theorem dL_build_4 : decode cL_build 4 = .ok (.invokespecial 90, 3) := by decide +kernel
theorem dL_build_7 : decode cL_build 7 = .ok (.astore_n 2, 1) := by decide +kernel
theorem dL_build_8 : decode cL_build 8 = .ok (.iconst 0, 1) := by decide +kernel
theorem dL_build_9 : decode cL_build 9 = .ok (.istore_n 3, 1) := by decide +kernel
theorem dL_build_10 : decode cL_build 10 = .ok (.iload_n 3, 1) := by decide +kernel
theorem dL_build_11 : decode cL_build 11 = .ok (.bipush 16, 2) := by decide +kernel
theorem dL_build_13 : decode cL_build 13 = .ok (.if_icmp .ge 43, 3) := by decide +kernel
theorem dL_build_16 : decode cL_build 16 = .ok (.aload_n 1, 1) := by decide +kernel
theorem dL_build_17 : decode cL_build 17 = .ok (.iload_n 3, 1) := by decide +kernel
theorem dL_build_18 : decode cL_build 18 = .ok (.invokestatic 91, 3) := by decide +kernel
theorem dL_build_21 : decode cL_build 21 = .ok (.iconst 3, 1) := by decide +kernel
theorem dL_build_22 : decode cL_build 22 = .ok (.ishr, 1) := by decide +kernel
theorem dL_build_23 : decode cL_build 23 = .ok (.bipush 31, 2) := by decide +kernel
theorem dL_build_25 : decode cL_build 25 = .ok (.invokestatic 9, 3) := by decide +kernel
theorem dL_build_28 : decode cL_build 28 = .ok (.istore 4, 2) := by decide +kernel
theorem dL_build_30 : decode cL_build 30 = .ok (.aload_n 2, 1) := by decide +kernel
theorem dL_build_31 : decode cL_build 31 = .ok (.getfield 28, 3) := by decide +kernel
theorem dL_build_34 : decode cL_build 34 = .ok (.iload_n 3, 1) := by decide +kernel
theorem dL_build_35 : decode cL_build 35 = .ok (.iload 4, 2) := by decide +kernel
theorem dL_build_37 : decode cL_build 37 = .ok (.iastore, 1) := by decide +kernel
theorem dL_build_38 : decode cL_build 38 = .ok (.aload_n 0, 1) := by decide +kernel
theorem dL_build_39 : decode cL_build 39 = .ok (.iload_n 3, 1) := by decide +kernel
theorem dL_build_40 : decode cL_build 40 = .ok (.iload 4, 2) := by decide +kernel
theorem dL_build_42 : decode cL_build 42 = .ok (.invokevirtual 31, 3) := by decide +kernel
theorem dL_build_45 : decode cL_build 45 = .ok (.ifCond .eq 5, 3) := by decide +kernel
theorem dL_build_48 : decode cL_build 48 = .ok (.aconst_null, 1) := by decide +kernel
theorem dL_build_49 : decode cL_build 49 = .ok (.areturn, 1) := by decide +kernel
theorem dL_build_50 : decode cL_build 50 = .ok (.iinc 3 1, 3) := by decide +kernel
theorem dL_build_53 : decode cL_build 53 = .ok (.goto (-43), 3) := by decide +kernel
theorem dL_build_56 : decode cL_build 56 = .ok (.iconst 0, 1) := by decide +kernel
theorem dL_build_57 : decode cL_build 57 = .ok (.istore_n 3, 1) := by decide +kernel
theorem dL_build_58 : decode cL_build 58 = .ok (.iload_n 3, 1) := by decide +kernel
theorem dL_build_59 : decode cL_build 59 = .ok (.bipush 44, 2) := by decide +kernel
theorem dL_build_61 : decode cL_build 61 = .ok (.if_icmp .ge 182, 3) := by decide +kernel
theorem dL_build_64 : decode cL_build 64 = .ok (.aload_n 1, 1) := by decide +kernel
theorem dL_build_65 : decode cL_build 65 = .ok (.iload_n 3, 1) := by decide +kernel
theorem dL_build_66 : decode cL_build 66 = .ok (.bipush 16, 2) := by decide +kernel
theorem dL_build_68 : decode cL_build 68 = .ok (.irem, 1) := by decide +kernel
theorem dL_build_69 : decode cL_build 69 = .ok (.invokestatic 91, 3) := by decide +kernel
theorem dL_build_72 : decode cL_build 72 = .ok (.iload_n 3, 1) := by decide +kernel
theorem dL_build_73 : decode cL_build 73 = .ok (.bipush 16, 2) := by decide +kernel
theorem dL_build_75 : decode cL_build 75 = .ok (.idiv, 1) := by decide +kernel
theorem dL_build_76 : decode cL_build 76 = .ok (.iconst 5, 1) := by decide +kernel
theorem dL_build_77 : decode cL_build 77 = .ok (.imul, 1) := by decide +kernel
theorem dL_build_78 : decode cL_build 78 = .ok (.ishr, 1) := by decide +kernel
theorem dL_build_79 : decode cL_build 79 = .ok (.sipush 263, 3) := by decide +kernel
theorem dL_build_82 : decode cL_build 82 = .ok (.iload_n 3, 1) := by decide +kernel
theorem dL_build_83 : decode cL_build 83 = .ok (.imul, 1) := by decide +kernel
theorem dL_build_84 : decode cL_build 84 = .ok (.iadd, 1) := by decide +kernel
theorem dL_build_85 : decode cL_build 85 = .ok (.istore 4, 2) := by decide +kernel
theorem dL_build_87 : decode cL_build 87 = .ok (.bipush 22, 2) := by decide +kernel
theorem dL_build_89 : decode cL_build 89 = .ok (.newarray .int, 2) := by decide +kernel
theorem dL_build_91 : decode cL_build 91 = .ok (.dup, 1) := by decide +kernel
theorem dL_build_92 : decode cL_build 92 = .ok (.iconst 0, 1) := by decide +kernel
theorem dL_build_93 : decode cL_build 93 = .ok (.iconst 1, 1) := by decide +kernel
theorem dL_build_94 : decode cL_build 94 = .ok (.iastore, 1) := by decide +kernel
theorem dL_build_95 : decode cL_build 95 = .ok (.dup, 1) := by decide +kernel
theorem dL_build_96 : decode cL_build 96 = .ok (.iconst 1, 1) := by decide +kernel
theorem dL_build_97 : decode cL_build 97 = .ok (.iconst 1, 1) := by decide +kernel
theorem dL_build_98 : decode cL_build 98 = .ok (.iastore, 1) := by decide +kernel
theorem dL_build_99 : decode cL_build 99 = .ok (.dup, 1) := by decide +kernel
theorem dL_build_100 : decode cL_build 100 = .ok (.iconst 2, 1) := by decide +kernel
theorem dL_build_101 : decode cL_build 101 = .ok (.iconst 1, 1) := by decide +kernel
theorem dL_build_102 : decode cL_build 102 = .ok (.iastore, 1) := by decide +kernel
theorem dL_build_103 : decode cL_build 103 = .ok (.dup, 1) := by decide +kernel
theorem dL_build_104 : decode cL_build 104 = .ok (.iconst 3, 1) := by decide +kernel
theorem dL_build_105 : decode cL_build 105 = .ok (.iconst 1, 1) := by decide +kernel
theorem dL_build_106 : decode cL_build 106 = .ok (.iastore, 1) := by decide +kernel
theorem dL_build_107 : decode cL_build 107 = .ok (.dup, 1) := by decide +kernel
theorem dL_build_108 : decode cL_build 108 = .ok (.iconst 4, 1) := by decide +kernel
theorem dL_build_109 : decode cL_build 109 = .ok (.iconst 3, 1) := by decide +kernel
theorem dL_build_110 : decode cL_build 110 = .ok (.iastore, 1) := by decide +kernel
theorem dL_build_111 : decode cL_build 111 = .ok (.dup, 1) := by decide +kernel
theorem dL_build_112 : decode cL_build 112 = .ok (.iconst 5, 1) := by decide +kernel
theorem dL_build_113 : decode cL_build 113 = .ok (.iconst 3, 1) := by decide +kernel
theorem dL_build_114 : decode cL_build 114 = .ok (.iastore, 1) := by decide +kernel
theorem dL_build_115 : decode cL_build 115 = .ok (.dup, 1) := by decide +kernel
theorem dL_build_116 : decode cL_build 116 = .ok (.bipush 6, 2) := by decide +kernel
theorem dL_build_118 : decode cL_build 118 = .ok (.iconst 3, 1) := by decide +kernel
theorem dL_build_119 : decode cL_build 119 = .ok (.iastore, 1) := by decide +kernel
theorem dL_build_120 : decode cL_build 120 = .ok (.dup, 1) := by decide +kernel
theorem dL_build_121 : decode cL_build 121 = .ok (.bipush 7, 2) := by decide +kernel
theorem dL_build_123 : decode cL_build 123 = .ok (.iconst 4, 1) := by decide +kernel
theorem dL_build_124 : decode cL_build 124 = .ok (.iastore, 1) := by decide +kernel
theorem dL_build_125 : decode cL_build 125 = .ok (.dup, 1) := by decide +kernel
theorem dL_build_126 : decode cL_build 126 = .ok (.bipush 8, 2) := by decide +kernel
theorem dL_build_128 : decode cL_build 128 = .ok (.iconst 4, 1) := by decide +kernel
theorem dL_build_129 : decode cL_build 129 = .ok (.iastore, 1) := by decide +kernel
theorem dL_build_130 : decode cL_build 130 = .ok (.dup, 1) := by decide +kernel
theorem dL_build_131 : decode cL_build 131 = .ok (.bipush 9, 2) := by decide +kernel
theorem dL_build_133 : decode cL_build 133 = .ok (.iconst 4, 1) := by decide +kernel
theorem dL_build_134 : decode cL_build 134 = .ok (.iastore, 1) := by decide +kernel
theorem dL_build_135 : decode cL_build 135 = .ok (.dup, 1) := by decide +kernel
theorem dL_build_136 : decode cL_build 136 = .ok (.bipush 10, 2) := by decide +kernel
theorem dL_build_138 : decode cL_build 138 = .ok (.iconst 4, 1) := by decide +kernel
theorem dL_build_139 : decode cL_build 139 = .ok (.iastore, 1) := by decide +kernel
theorem dL_build_140 : decode cL_build 140 = .ok (.dup, 1) := by decide +kernel
theorem dL_build_141 : decode cL_build 141 = .ok (.bipush 11, 2) := by decide +kernel
theorem dL_build_143 : decode cL_build 143 = .ok (.iconst 4, 1) := by decide +kernel
theorem dL_build_144 : decode cL_build 144 = .ok (.iastore, 1) := by decide +kernel
theorem dL_build_145 : decode cL_build 145 = .ok (.dup, 1) := by decide +kernel
theorem dL_build_146 : decode cL_build 146 = .ok (.bipush 12, 2) := by decide +kernel
theorem dL_build_148 : decode cL_build 148 = .ok (.iconst 4, 1) := by decide +kernel
theorem dL_build_149 : decode cL_build 149 = .ok (.iastore, 1) := by decide +kernel
theorem dL_build_150 : decode cL_build 150 = .ok (.dup, 1) := by decide +kernel
theorem dL_build_151 : decode cL_build 151 = .ok (.bipush 13, 2) := by decide +kernel
theorem dL_build_153 : decode cL_build 153 = .ok (.iconst 4, 1) := by decide +kernel
theorem dL_build_154 : decode cL_build 154 = .ok (.iastore, 1) := by decide +kernel
theorem dL_build_155 : decode cL_build 155 = .ok (.dup, 1) := by decide +kernel
theorem dL_build_156 : decode cL_build 156 = .ok (.bipush 14, 2) := by decide +kernel
theorem dL_build_158 : decode cL_build 158 = .ok (.iconst 4, 1) := by decide +kernel
theorem dL_build_159 : decode cL_build 159 = .ok (.iastore, 1) := by decide +kernel
theorem dL_build_160 : decode cL_build 160 = .ok (.dup, 1) := by decide +kernel
theorem dL_build_161 : decode cL_build 161 = .ok (.bipush 15, 2) := by decide +kernel
theorem dL_build_163 : decode cL_build 163 = .ok (.iconst 4, 1) := by decide +kernel
theorem dL_build_164 : decode cL_build 164 = .ok (.iastore, 1) := by decide +kernel
theorem dL_build_165 : decode cL_build 165 = .ok (.dup, 1) := by decide +kernel
theorem dL_build_166 : decode cL_build 166 = .ok (.bipush 16, 2) := by decide +kernel
theorem dL_build_168 : decode cL_build 168 = .ok (.iconst 4, 1) := by decide +kernel
theorem dL_build_169 : decode cL_build 169 = .ok (.iastore, 1) := by decide +kernel
theorem dL_build_170 : decode cL_build 170 = .ok (.dup, 1) := by decide +kernel
theorem dL_build_171 : decode cL_build 171 = .ok (.bipush 17, 2) := by decide +kernel
theorem dL_build_173 : decode cL_build 173 = .ok (.bipush 7, 2) := by decide +kernel
theorem dL_build_175 : decode cL_build 175 = .ok (.iastore, 1) := by decide +kernel
theorem dL_build_176 : decode cL_build 176 = .ok (.dup, 1) := by decide +kernel
theorem dL_build_177 : decode cL_build 177 = .ok (.bipush 18, 2) := by decide +kernel
theorem dL_build_179 : decode cL_build 179 = .ok (.bipush 7, 2) := by decide +kernel
theorem dL_build_181 : decode cL_build 181 = .ok (.iastore, 1) := by decide +kernel
theorem dL_build_182 : decode cL_build 182 = .ok (.dup, 1) := by decide +kernel
theorem dL_build_183 : decode cL_build 183 = .ok (.bipush 19, 2) := by decide +kernel
theorem dL_build_185 : decode cL_build 185 = .ok (.bipush 8, 2) := by decide +kernel
theorem dL_build_187 : decode cL_build 187 = .ok (.iastore, 1) := by decide +kernel
theorem dL_build_188 : decode cL_build 188 = .ok (.dup, 1) := by decide +kernel
theorem dL_build_189 : decode cL_build 189 = .ok (.bipush 20, 2) := by decide +kernel
theorem dL_build_191 : decode cL_build 191 = .ok (.bipush 8, 2) := by decide +kernel
theorem dL_build_193 : decode cL_build 193 = .ok (.iastore, 1) := by decide +kernel
theorem dL_build_194 : decode cL_build 194 = .ok (.dup, 1) := by decide +kernel
theorem dL_build_195 : decode cL_build 195 = .ok (.bipush 21, 2) := by decide +kernel
theorem dL_build_197 : decode cL_build 197 = .ok (.bipush 8, 2) := by decide +kernel
theorem dL_build_199 : decode cL_build 199 = .ok (.iastore, 1) := by decide +kernel
theorem dL_build_200 : decode cL_build 200 = .ok (.astore 5, 2) := by decide +kernel
theorem dL_build_202 : decode cL_build 202 = .ok (.iload_n 3, 1) := by decide +kernel
theorem dL_build_203 : decode cL_build 203 = .ok (.bipush 22, 2) := by decide +kernel
theorem dL_build_205 : decode cL_build 205 = .ok (.if_icmp .ge 20, 3) := by decide +kernel
theorem dL_build_208 : decode cL_build 208 = .ok (.bipush 16, 2) := by decide +kernel
theorem dL_build_210 : decode cL_build 210 = .ok (.iload 4, 2) := by decide +kernel
theorem dL_build_212 : decode cL_build 212 = .ok (.ldc 95, 2) := by decide +kernel
theorem dL_build_214 : decode cL_build 214 = .ok (.invokestatic 9, 3) := by decide +kernel
theorem dL_build_217 : decode cL_build 217 = .ok (.imul, 1) := by decide +kernel
theorem dL_build_218 : decode cL_build 218 = .ok (.aload 5, 2) := by decide +kernel
theorem dL_build_220 : decode cL_build 220 = .ok (.iload_n 3, 1) := by decide +kernel
theorem dL_build_221 : decode cL_build 221 = .ok (.iaload, 1) := by decide +kernel
theorem dL_build_222 : decode cL_build 222 = .ok (.iadd, 1) := by decide +kernel
theorem dL_build_223 : decode cL_build 223 = .ok (.istore 4, 2) := by decide +kernel
theorem dL_build_225 : decode cL_build 225 = .ok (.aload_n 0, 1) := by decide +kernel
theorem dL_build_226 : decode cL_build 226 = .ok (.aload_n 2, 1) := by decide +kernel
theorem dL_build_227 : decode cL_build 227 = .ok (.iload 4, 2) := by decide +kernel
theorem dL_build_229 : decode cL_build 229 = .ok (.invokestatic 96, 3) := by decide +kernel
theorem dL_build_232 : decode cL_build 232 = .ok (.ifCond .ne 5, 3) := by decide +kernel
theorem dL_build_235 : decode cL_build 235 = .ok (.aconst_null, 1) := by decide +kernel
theorem dL_build_236 : decode cL_build 236 = .ok (.areturn, 1) := by decide +kernel
theorem dL_build_237 : decode cL_build 237 = .ok (.iinc 3 1, 3) := by decide +kernel
theorem dL_build_240 : decode cL_build 240 = .ok (.goto (-182), 3) := by decide +kernel
theorem dL_build_243 : decode cL_build 243 = .ok (.aload_n 2, 1) := by decide +kernel
theorem dL_build_244 : decode cL_build 244 = .ok (.areturn, 1) := by decide +kernel
theorem dL_law_0 : decode cL_law 0 = .ok (.new 32, 3) := by decide +kernel
theorem dL_law_3 : decode cL_law 3 = .ok (.dup, 1) := by decide +kernel
theorem dL_law_4 : decode cL_law 4 = .ok (.invokespecial 100, 3) := by decide +kernel
theorem dL_law_7 : decode cL_law 7 = .ok (.astore_n 1, 1) := by decide +kernel
theorem dL_law_8 : decode cL_law 8 = .ok (.aload_n 1, 1) := by decide +kernel
theorem dL_law_9 : decode cL_law 9 = .ok (.aload_n 0, 1) := by decide +kernel
theorem dL_law_10 : decode cL_law 10 = .ok (.invokestatic 101, 3) := by decide +kernel
theorem dL_law_13 : decode cL_law 13 = .ok (.astore_n 2, 1) := by decide +kernel
theorem dL_law_14 : decode cL_law 14 = .ok (.aload_n 2, 1) := by decide +kernel
theorem dL_law_15 : decode cL_law 15 = .ok (.ifnonnull 5, 3) := by decide +kernel
theorem dL_law_18 : decode cL_law 18 = .ok (.iconst 0, 1) := by decide +kernel
theorem dL_law_19 : decode cL_law 19 = .ok (.ireturn, 1) := by decide +kernel
theorem dL_law_20 : decode cL_law 20 = .ok (.iconst 0, 1) := by decide +kernel
theorem dL_law_21 : decode cL_law 21 = .ok (.istore_n 3, 1) := by decide +kernel
theorem dL_law_22 : decode cL_law 22 = .ok (.iload_n 3, 1) := by decide +kernel
theorem dL_law_23 : decode cL_law 23 = .ok (.bipush 12, 2) := by decide +kernel
theorem dL_law_25 : decode cL_law 25 = .ok (.if_icmp .ge 1189, 3) := by decide +kernel
theorem dL_law_28 : decode cL_law 28 = .ok (.aload_n 0, 1) := by decide +kernel
theorem dL_law_29 : decode cL_law 29 = .ok (.iconst 3, 1) := by decide +kernel
theorem dL_law_30 : decode cL_law 30 = .ok (.iload_n 3, 1) := by decide +kernel
theorem dL_law_31 : decode cL_law 31 = .ok (.iadd, 1) := by decide +kernel
theorem dL_law_32 : decode cL_law 32 = .ok (.invokestatic 91, 3) := by decide +kernel
theorem dL_law_35 : decode cL_law 35 = .ok (.iconst 1, 1) := by decide +kernel
theorem dL_law_36 : decode cL_law 36 = .ok (.ishr, 1) := by decide +kernel
theorem dL_law_37 : decode cL_law 37 = .ok (.sipush 263, 3) := by decide +kernel
theorem dL_law_40 : decode cL_law 40 = .ok (.iload_n 3, 1) := by decide +kernel
theorem dL_law_41 : decode cL_law 41 = .ok (.imul, 1) := by decide +kernel
theorem dL_law_42 : decode cL_law 42 = .ok (.iadd, 1) := by decide +kernel
theorem dL_law_43 : decode cL_law 43 = .ok (.istore 4, 2) := by decide +kernel
theorem dL_law_45 : decode cL_law 45 = .ok (.aload_n 1, 1) := by decide +kernel
theorem dL_law_46 : decode cL_law 46 = .ok (.aload_n 2, 1) := by decide +kernel
theorem dL_law_47 : decode cL_law 47 = .ok (.iload 4, 2) := by decide +kernel
theorem dL_law_49 : decode cL_law 49 = .ok (.invokestatic 96, 3) := by decide +kernel
theorem dL_law_52 : decode cL_law 52 = .ok (.ifCond .ne 5, 3) := by decide +kernel
theorem dL_law_55 : decode cL_law 55 = .ok (.iconst 0, 1) := by decide +kernel
theorem dL_law_56 : decode cL_law 56 = .ok (.ireturn, 1) := by decide +kernel
theorem dL_law_57 : decode cL_law 57 = .ok (.aload_n 1, 1) := by decide +kernel
theorem dL_law_58 : decode cL_law 58 = .ok (.invokevirtual 105, 3) := by decide +kernel
theorem dL_law_61 : decode cL_law 61 = .ok (.lstore 5, 2) := by decide +kernel
theorem dL_law_63 : decode cL_law 63 = .ok (.aload_n 1, 1) := by decide +kernel
theorem dL_law_64 : decode cL_law 64 = .ok (.iconst 3, 1) := by decide +kernel
theorem dL_law_65 : decode cL_law 65 = .ok (.invokevirtual 109, 3) := by decide +kernel
theorem dL_law_68 : decode cL_law 68 = .ok (.istore 7, 2) := by decide +kernel
theorem dL_law_70 : decode cL_law 70 = .ok (.iconst 0, 1) := by decide +kernel
theorem dL_law_71 : decode cL_law 71 = .ok (.istore 8, 2) := by decide +kernel
theorem dL_law_73 : decode cL_law 73 = .ok (.iconst 0, 1) := by decide +kernel
theorem dL_law_74 : decode cL_law 74 = .ok (.istore 9, 2) := by decide +kernel
theorem dL_law_76 : decode cL_law 76 = .ok (.iconst 0, 1) := by decide +kernel
theorem dL_law_77 : decode cL_law 77 = .ok (.istore 10, 2) := by decide +kernel
theorem dL_law_79 : decode cL_law 79 = .ok (.iconst 5, 1) := by decide +kernel
theorem dL_law_80 : decode cL_law 80 = .ok (.newarray .int, 2) := by decide +kernel
theorem dL_law_82 : decode cL_law 82 = .ok (.astore 11, 2) := by decide +kernel
theorem dL_law_84 : decode cL_law 84 = .ok (.iload 7, 2) := by decide +kernel
theorem dL_law_86 : decode cL_law 86 = .ok (.newarray .int, 2) := by decide +kernel
theorem dL_law_88 : decode cL_law 88 = .ok (.astore 12, 2) := by decide +kernel
theorem dL_law_90 : decode cL_law 90 = .ok (.iload 7, 2) := by decide +kernel
theorem dL_law_92 : decode cL_law 92 = .ok (.newarray .int, 2) := by decide +kernel
theorem dL_law_94 : decode cL_law 94 = .ok (.astore 13, 2) := by decide +kernel
theorem dL_law_96 : decode cL_law 96 = .ok (.iload 7, 2) := by decide +kernel
theorem dL_law_98 : decode cL_law 98 = .ok (.newarray .int, 2) := by decide +kernel
theorem dL_law_100 : decode cL_law 100 = .ok (.astore 14, 2) := by decide +kernel
theorem dL_law_102 : decode cL_law 102 = .ok (.iload 7, 2) := by decide +kernel
theorem dL_law_104 : decode cL_law 104 = .ok (.newarray .int, 2) := by decide +kernel
theorem dL_law_106 : decode cL_law 106 = .ok (.astore 15, 2) := by decide +kernel
theorem dL_law_108 : decode cL_law 108 = .ok (.iconst 0, 1) := by decide +kernel
theorem dL_law_109 : decode cL_law 109 = .ok (.istore 16, 2) := by decide +kernel
theorem dL_law_111 : decode cL_law 111 = .ok (.iload 16, 2) := by decide +kernel
theorem dL_law_113 : decode cL_law 113 = .ok (.iload 7, 2) := by decide +kernel
theorem dL_law_115 : decode cL_law 115 = .ok (.if_icmp .ge 297, 3) := by decide +kernel
theorem dL_law_118 : decode cL_law 118 = .ok (.aload 12, 2) := by decide +kernel
theorem dL_law_120 : decode cL_law 120 = .ok (.iload 16, 2) := by decide +kernel
theorem dL_law_122 : decode cL_law 122 = .ok (.aload_n 1, 1) := by decide +kernel
theorem dL_law_123 : decode cL_law 123 = .ok (.iload 16, 2) := by decide +kernel
theorem dL_law_125 : decode cL_law 125 = .ok (.iconst 0, 1) := by decide +kernel
theorem dL_law_126 : decode cL_law 126 = .ok (.invokevirtual 112, 3) := by decide +kernel
theorem dL_law_129 : decode cL_law 129 = .ok (.iastore, 1) := by decide +kernel
theorem dL_law_130 : decode cL_law 130 = .ok (.aload 13, 2) := by decide +kernel
theorem dL_law_132 : decode cL_law 132 = .ok (.iload 16, 2) := by decide +kernel
theorem dL_law_134 : decode cL_law 134 = .ok (.aload_n 1, 1) := by decide +kernel
theorem dL_law_135 : decode cL_law 135 = .ok (.iload 16, 2) := by decide +kernel
theorem dL_law_137 : decode cL_law 137 = .ok (.iconst 2, 1) := by decide +kernel
theorem dL_law_138 : decode cL_law 138 = .ok (.invokevirtual 112, 3) := by decide +kernel
theorem dL_law_141 : decode cL_law 141 = .ok (.iastore, 1) := by decide +kernel
theorem dL_law_142 : decode cL_law 142 = .ok (.aload 15, 2) := by decide +kernel
theorem dL_law_144 : decode cL_law 144 = .ok (.iload 16, 2) := by decide +kernel
theorem dL_law_146 : decode cL_law 146 = .ok (.aload_n 1, 1) := by decide +kernel
theorem dL_law_147 : decode cL_law 147 = .ok (.iload 16, 2) := by decide +kernel
theorem dL_law_149 : decode cL_law 149 = .ok (.iconst 3, 1) := by decide +kernel
theorem dL_law_150 : decode cL_law 150 = .ok (.invokevirtual 112, 3) := by decide +kernel
theorem dL_law_153 : decode cL_law 153 = .ok (.iastore, 1) := by decide +kernel
theorem dL_law_154 : decode cL_law 154 = .ok (.aload 11, 2) := by decide +kernel
theorem dL_law_156 : decode cL_law 156 = .ok (.aload 15, 2) := by decide +kernel
theorem dL_law_158 : decode cL_law 158 = .ok (.iload 16, 2) := by decide +kernel
theorem dL_law_160 : decode cL_law 160 = .ok (.iaload, 1) := by decide +kernel
theorem dL_law_161 : decode cL_law 161 = .ok (.dup2, 1) := by decide +kernel
theorem dL_law_162 : decode cL_law 162 = .ok (.iaload, 1) := by decide +kernel
theorem dL_law_163 : decode cL_law 163 = .ok (.iconst 1, 1) := by decide +kernel
theorem dL_law_164 : decode cL_law 164 = .ok (.iadd, 1) := by decide +kernel
theorem dL_law_165 : decode cL_law 165 = .ok (.iastore, 1) := by decide +kernel
theorem dL_law_166 : decode cL_law 166 = .ok (.iload 10, 2) := by decide +kernel
theorem dL_law_168 : decode cL_law 168 = .ok (.aload_n 1, 1) := by decide +kernel
theorem dL_law_169 : decode cL_law 169 = .ok (.iload 16, 2) := by decide +kernel
theorem dL_law_171 : decode cL_law 171 = .ok (.iconst 4, 1) := by decide +kernel
theorem dL_law_172 : decode cL_law 172 = .ok (.invokevirtual 112, 3) := by decide +kernel
theorem dL_law_175 : decode cL_law 175 = .ok (.iadd, 1) := by decide +kernel
theorem dL_law_176 : decode cL_law 176 = .ok (.istore 10, 2) := by decide +kernel
theorem dL_law_178 : decode cL_law 178 = .ok (.iload 9, 2) := by decide +kernel
theorem dL_law_180 : decode cL_law 180 = .ok (.aload 15, 2) := by decide +kernel
theorem dL_law_182 : decode cL_law 182 = .ok (.iload 16, 2) := by decide +kernel
theorem dL_law_184 : decode cL_law 184 = .ok (.iaload, 1) := by decide +kernel
theorem dL_law_185 : decode cL_law 185 = .ok (.iconst 3, 1) := by decide +kernel
theorem dL_law_186 : decode cL_law 186 = .ok (.if_icmp .ge 13, 3) := by decide +kernel
theorem dL_law_189 : decode cL_law 189 = .ok (.aload_n 1, 1) := by decide +kernel
theorem dL_law_190 : decode cL_law 190 = .ok (.iload 16, 2) := by decide +kernel
theorem dL_law_192 : decode cL_law 192 = .ok (.iconst 1, 1) := by decide +kernel
theorem dL_law_193 : decode cL_law 193 = .ok (.invokevirtual 112, 3) := by decide +kernel
theorem dL_law_196 : decode cL_law 196 = .ok (.goto 4, 3) := by decide +kernel
theorem dL_law_199 : decode cL_law 199 = .ok (.iconst 0, 1) := by decide +kernel
theorem dL_law_200 : decode cL_law 200 = .ok (.iadd, 1) := by decide +kernel
theorem dL_law_201 : decode cL_law 201 = .ok (.istore 9, 2) := by decide +kernel
theorem dL_law_203 : decode cL_law 203 = .ok (.aload 14, 2) := by decide +kernel
theorem dL_law_205 : decode cL_law 205 = .ok (.iload 16, 2) := by decide +kernel
theorem dL_law_207 : decode cL_law 207 = .ok (.aload_n 1, 1) := by decide +kernel
theorem dL_law_208 : decode cL_law 208 = .ok (.iload 16, 2) := by decide +kernel
theorem dL_law_210 : decode cL_law 210 = .ok (.invokevirtual 115, 3) := by decide +kernel
theorem dL_law_213 : decode cL_law 213 = .ok (.iastore, 1) := by decide +kernel
theorem dL_law_214 : decode cL_law 214 = .ok (.aload 15, 2) := by decide +kernel
theorem dL_law_216 : decode cL_law 216 = .ok (.iload 16, 2) := by decide +kernel
theorem dL_law_218 : decode cL_law 218 = .ok (.iaload, 1) := by decide +kernel
theorem dL_law_219 : decode cL_law 219 = .ok (.iconst 2, 1) := by decide +kernel
theorem dL_law_220 : decode cL_law 220 = .ok (.if_icmp .le 13, 3) := by decide +kernel
theorem dL_law_223 : decode cL_law 223 = .ok (.aload_n 1, 1) := by decide +kernel
theorem dL_law_224 : decode cL_law 224 = .ok (.iload 16, 2) := by decide +kernel
theorem dL_law_226 : decode cL_law 226 = .ok (.iconst 1, 1) := by decide +kernel
theorem dL_law_227 : decode cL_law 227 = .ok (.invokevirtual 112, 3) := by decide +kernel
theorem dL_law_230 : decode cL_law 230 = .ok (.ifCond .ne 174, 3) := by decide +kernel
theorem dL_law_233 : decode cL_law 233 = .ok (.aload 15, 2) := by decide +kernel
theorem dL_law_235 : decode cL_law 235 = .ok (.iload 16, 2) := by decide +kernel
theorem dL_law_237 : decode cL_law 237 = .ok (.iaload, 1) := by decide +kernel
theorem dL_law_238 : decode cL_law 238 = .ok (.iconst 3, 1) := by decide +kernel
theorem dL_law_239 : decode cL_law 239 = .ok (.if_icmp .ge 14, 3) := by decide +kernel
theorem dL_law_242 : decode cL_law 242 = .ok (.aload_n 1, 1) := by decide +kernel
theorem dL_law_243 : decode cL_law 243 = .ok (.iload 16, 2) := by decide +kernel
theorem dL_law_245 : decode cL_law 245 = .ok (.iconst 1, 1) := by decide +kernel
theorem dL_law_246 : decode cL_law 246 = .ok (.invokevirtual 112, 3) := by decide +kernel
theorem dL_law_249 : decode cL_law 249 = .ok (.iconst 1, 1) := by decide +kernel
theorem dL_law_250 : decode cL_law 250 = .ok (.if_icmp .lt 154, 3) := by decide +kernel
theorem dL_law_253 : decode cL_law 253 = .ok (.aload 15, 2) := by decide +kernel
theorem dL_law_255 : decode cL_law 255 = .ok (.iload 16, 2) := by decide +kernel
theorem dL_law_257 : decode cL_law 257 = .ok (.iaload, 1) := by decide +kernel
theorem dL_law_258 : decode cL_law 258 = .ok (.ifCond .ne 7, 3) := by decide +kernel
theorem dL_law_261 : decode cL_law 261 = .ok (.iconst 1, 1) := by decide +kernel
theorem dL_law_262 : decode cL_law 262 = .ok (.goto 4, 3) := by decide +kernel
theorem dL_law_265 : decode cL_law 265 = .ok (.iconst 0, 1) := by decide +kernel
theorem dL_law_266 : decode cL_law 266 = .ok (.aload 13, 2) := by decide +kernel
theorem dL_law_268 : decode cL_law 268 = .ok (.iload 16, 2) := by decide +kernel
theorem dL_law_270 : decode cL_law 270 = .ok (.iaload, 1) := by decide +kernel
theorem dL_law_271 : decode cL_law 271 = .ok (.ifCond .ge 16, 3) := by decide +kernel
theorem dL_law_274 : decode cL_law 274 = .ok (.aload 15, 2) := by decide +kernel
theorem dL_law_276 : decode cL_law 276 = .ok (.iload 16, 2) := by decide +kernel
theorem dL_law_278 : decode cL_law 278 = .ok (.iaload, 1) := by decide +kernel
theorem dL_law_279 : decode cL_law 279 = .ok (.iconst 3, 1) := by decide +kernel
theorem dL_law_280 : decode cL_law 280 = .ok (.if_icmp .ge 7, 3) := by decide +kernel
theorem dL_law_283 : decode cL_law 283 = .ok (.iconst 1, 1) := by decide +kernel
theorem dL_law_284 : decode cL_law 284 = .ok (.goto 4, 3) := by decide +kernel
theorem dL_law_287 : decode cL_law 287 = .ok (.iconst 0, 1) := by decide +kernel
theorem dL_law_288 : decode cL_law 288 = .ok (.if_icmp .ne 116, 3) := by decide +kernel
theorem dL_law_291 : decode cL_law 291 = .ok (.aload 15, 2) := by decide +kernel
theorem dL_law_293 : decode cL_law 293 = .ok (.iload 16, 2) := by decide +kernel
theorem dL_law_295 : decode cL_law 295 = .ok (.iaload, 1) := by decide +kernel
theorem dL_law_296 : decode cL_law 296 = .ok (.iconst 2, 1) := by decide +kernel
theorem dL_law_297 : decode cL_law 297 = .ok (.if_icmp .ne 7, 3) := by decide +kernel
theorem dL_law_300 : decode cL_law 300 = .ok (.iconst 1, 1) := by decide +kernel
theorem dL_law_301 : decode cL_law 301 = .ok (.goto 4, 3) := by decide +kernel
theorem dL_law_304 : decode cL_law 304 = .ok (.iconst 0, 1) := by decide +kernel
theorem dL_law_305 : decode cL_law 305 = .ok (.aload 13, 2) := by decide +kernel
theorem dL_law_307 : decode cL_law 307 = .ok (.iload 16, 2) := by decide +kernel
theorem dL_law_309 : decode cL_law 309 = .ok (.iaload, 1) := by decide +kernel
theorem dL_law_310 : decode cL_law 310 = .ok (.aload 12, 2) := by decide +kernel
theorem dL_law_312 : decode cL_law 312 = .ok (.iload 16, 2) := by decide +kernel
theorem dL_law_314 : decode cL_law 314 = .ok (.iaload, 1) := by decide +kernel
theorem dL_law_315 : decode cL_law 315 = .ok (.if_icmp .ne 16, 3) := by decide +kernel
theorem dL_law_318 : decode cL_law 318 = .ok (.aload 15, 2) := by decide +kernel
theorem dL_law_320 : decode cL_law 320 = .ok (.iload 16, 2) := by decide +kernel
theorem dL_law_322 : decode cL_law 322 = .ok (.iaload, 1) := by decide +kernel
theorem dL_law_323 : decode cL_law 323 = .ok (.iconst 3, 1) := by decide +kernel
theorem dL_law_324 : decode cL_law 324 = .ok (.if_icmp .ge 7, 3) := by decide +kernel
theorem dL_law_327 : decode cL_law 327 = .ok (.iconst 1, 1) := by decide +kernel
theorem dL_law_328 : decode cL_law 328 = .ok (.goto 4, 3) := by decide +kernel
theorem dL_law_331 : decode cL_law 331 = .ok (.iconst 0, 1) := by decide +kernel
theorem dL_law_332 : decode cL_law 332 = .ok (.if_icmp .ne 72, 3) := by decide +kernel
theorem dL_law_335 : decode cL_law 335 = .ok (.aload 15, 2) := by decide +kernel
theorem dL_law_337 : decode cL_law 337 = .ok (.iload 16, 2) := by decide +kernel
theorem dL_law_339 : decode cL_law 339 = .ok (.iaload, 1) := by decide +kernel
theorem dL_law_340 : decode cL_law 340 = .ok (.iconst 3, 1) := by decide +kernel
theorem dL_law_341 : decode cL_law 341 = .ok (.if_icmp .ne 7, 3) := by decide +kernel
theorem dL_law_344 : decode cL_law 344 = .ok (.iconst 1, 1) := by decide +kernel
theorem dL_law_345 : decode cL_law 345 = .ok (.goto 4, 3) := by decide +kernel
theorem dL_law_348 : decode cL_law 348 = .ok (.iconst 0, 1) := by decide +kernel
theorem dL_law_349 : decode cL_law 349 = .ok (.aload 14, 2) := by decide +kernel
theorem dL_law_351 : decode cL_law 351 = .ok (.iload 16, 2) := by decide +kernel
theorem dL_law_353 : decode cL_law 353 = .ok (.iaload, 1) := by decide +kernel
theorem dL_law_354 : decode cL_law 354 = .ok (.ifCond .ne 7, 3) := by decide +kernel
theorem dL_law_357 : decode cL_law 357 = .ok (.iconst 1, 1) := by decide +kernel
theorem dL_law_358 : decode cL_law 358 = .ok (.goto 4, 3) := by decide +kernel
theorem dL_law_361 : decode cL_law 361 = .ok (.iconst 0, 1) := by decide +kernel
theorem dL_law_362 : decode cL_law 362 = .ok (.if_icmp .ne 42, 3) := by decide +kernel
theorem dL_law_365 : decode cL_law 365 = .ok (.aload 15, 2) := by decide +kernel
theorem dL_law_367 : decode cL_law 367 = .ok (.iload 16, 2) := by decide +kernel
theorem dL_law_369 : decode cL_law 369 = .ok (.iaload, 1) := by decide +kernel
theorem dL_law_370 : decode cL_law 370 = .ok (.iconst 4, 1) := by decide +kernel
theorem dL_law_371 : decode cL_law 371 = .ok (.if_icmp .ne 12, 3) := by decide +kernel
theorem dL_law_374 : decode cL_law 374 = .ok (.aload 14, 2) := by decide +kernel
theorem dL_law_376 : decode cL_law 376 = .ok (.iload 16, 2) := by decide +kernel
theorem dL_law_378 : decode cL_law 378 = .ok (.iaload, 1) := by decide +kernel
theorem dL_law_379 : decode cL_law 379 = .ok (.iconst (-1), 1) := by decide +kernel
theorem dL_law_380 : decode cL_law 380 = .ok (.if_icmp .ne 24, 3) := by decide +kernel
theorem dL_law_383 : decode cL_law 383 = .ok (.aload_n 1, 1) := by decide +kernel
theorem dL_law_384 : decode cL_law 384 = .ok (.iload 16, 2) := by decide +kernel
theorem dL_law_386 : decode cL_law 386 = .ok (.iconst 5, 1) := by decide +kernel
theorem dL_law_387 : decode cL_law 387 = .ok (.invokevirtual 112, 3) := by decide +kernel
theorem dL_law_390 : decode cL_law 390 = .ok (.ifCond .le 16, 3) := by decide +kernel
theorem dL_law_393 : decode cL_law 393 = .ok (.aload_n 1, 1) := by decide +kernel
theorem dL_law_394 : decode cL_law 394 = .ok (.iload 16, 2) := by decide +kernel
theorem dL_law_396 : decode cL_law 396 = .ok (.bipush 6, 2) := by decide +kernel
theorem dL_law_398 : decode cL_law 398 = .ok (.invokevirtual 112, 3) := by decide +kernel
theorem dL_law_401 : decode cL_law 401 = .ok (.ifCond .ne 5, 3) := by decide +kernel
theorem dL_law_404 : decode cL_law 404 = .ok (.iconst 0, 1) := by decide +kernel
theorem dL_law_405 : decode cL_law 405 = .ok (.ireturn, 1) := by decide +kernel
theorem dL_law_406 : decode cL_law 406 = .ok (.iinc 16 1, 3) := by decide +kernel
theorem dL_law_409 : decode cL_law 409 = .ok (.goto (-298), 3) := by decide +kernel
theorem dL_law_412 : decode cL_law 412 = .ok (.iconst 0, 1) := by decide +kernel
theorem dL_law_413 : decode cL_law 413 = .ok (.istore 16, 2) := by decide +kernel
theorem dL_law_415 : decode cL_law 415 = .ok (.iconst 0, 1) := by decide +kernel
theorem dL_law_416 : decode cL_law 416 = .ok (.istore 17, 2) := by decide +kernel
theorem dL_law_418 : decode cL_law 418 = .ok (.iload 17, 2) := by decide +kernel
theorem dL_law_420 : decode cL_law 420 = .ok (.bipush 16, 2) := by decide +kernel
theorem dL_law_422 : decode cL_law 422 = .ok (.if_icmp .ge 67, 3) := by decide +kernel
theorem dL_law_425 : decode cL_law 425 = .ok (.iload 16, 2) := by decide +kernel
theorem dL_law_427 : decode cL_law 427 = .ok (.aload_n 1, 1) := by decide +kernel
theorem dL_law_428 : decode cL_law 428 = .ok (.iload 17, 2) := by decide +kernel
theorem dL_law_430 : decode cL_law 430 = .ok (.iconst 1, 1) := by decide +kernel
theorem dL_law_431 : decode cL_law 431 = .ok (.invokevirtual 118, 3) := by decide +kernel
theorem dL_law_434 : decode cL_law 434 = .ok (.iadd, 1) := by decide +kernel
theorem dL_law_435 : decode cL_law 435 = .ok (.istore 16, 2) := by decide +kernel
theorem dL_law_437 : decode cL_law 437 = .ok (.aload_n 1, 1) := by decide +kernel
theorem dL_law_438 : decode cL_law 438 = .ok (.iload 17, 2) := by decide +kernel
theorem dL_law_440 : decode cL_law 440 = .ok (.iconst 1, 1) := by decide +kernel
theorem dL_law_441 : decode cL_law 441 = .ok (.invokevirtual 118, 3) := by decide +kernel
theorem dL_law_444 : decode cL_law 444 = .ok (.aload_n 1, 1) := by decide +kernel
theorem dL_law_445 : decode cL_law 445 = .ok (.iload 17, 2) := by decide +kernel
theorem dL_law_447 : decode cL_law 447 = .ok (.iconst 0, 1) := by decide +kernel
theorem dL_law_448 : decode cL_law 448 = .ok (.invokevirtual 118, 3) := by decide +kernel
theorem dL_law_451 : decode cL_law 451 = .ok (.if_icmp .gt 30, 3) := by decide +kernel
theorem dL_law_454 : decode cL_law 454 = .ok (.aload_n 1, 1) := by decide +kernel
theorem dL_law_455 : decode cL_law 455 = .ok (.iload 17, 2) := by decide +kernel
theorem dL_law_457 : decode cL_law 457 = .ok (.iconst 1, 1) := by decide +kernel
theorem dL_law_458 : decode cL_law 458 = .ok (.invokevirtual 118, 3) := by decide +kernel
theorem dL_law_461 : decode cL_law 461 = .ok (.ifCond .lt 20, 3) := by decide +kernel
theorem dL_law_464 : decode cL_law 464 = .ok (.aload_n 1, 1) := by decide +kernel
theorem dL_law_465 : decode cL_law 465 = .ok (.iload 17, 2) := by decide +kernel
theorem dL_law_467 : decode cL_law 467 = .ok (.iconst 2, 1) := by decide +kernel
theorem dL_law_468 : decode cL_law 468 = .ok (.invokevirtual 118, 3) := by decide +kernel
theorem dL_law_471 : decode cL_law 471 = .ok (.aload_n 1, 1) := by decide +kernel
theorem dL_law_472 : decode cL_law 472 = .ok (.iload 17, 2) := by decide +kernel
theorem dL_law_474 : decode cL_law 474 = .ok (.iconst 4, 1) := by decide +kernel
theorem dL_law_475 : decode cL_law 475 = .ok (.invokevirtual 118, 3) := by decide +kernel
theorem dL_law_478 : decode cL_law 478 = .ok (.if_icmp .le 5, 3) := by decide +kernel
theorem dL_law_481 : decode cL_law 481 = .ok (.iconst 0, 1) := by decide +kernel
theorem dL_law_482 : decode cL_law 482 = .ok (.ireturn, 1) := by decide +kernel
theorem dL_law_483 : decode cL_law 483 = .ok (.iinc 17 1, 3) := by decide +kernel
theorem dL_law_486 : decode cL_law 486 = .ok (.goto (-68), 3) := by decide +kernel
theorem dL_law_489 : decode cL_law 489 = .ok (.iload 10, 2) := by decide +kernel
theorem dL_law_491 : decode cL_law 491 = .ok (.iload 9, 2) := by decide +kernel
theorem dL_law_493 : decode cL_law 493 = .ok (.iadd, 1) := by decide +kernel
theorem dL_law_494 : decode cL_law 494 = .ok (.aload_n 1, 1) := by decide +kernel
theorem dL_law_495 : decode cL_law 495 = .ok (.bipush 8, 2) := by decide +kernel
theorem dL_law_497 : decode cL_law 497 = .ok (.invokevirtual 109, 3) := by decide +kernel
theorem dL_law_500 : decode cL_law 500 = .ok (.iadd, 1) := by decide +kernel
theorem dL_law_501 : decode cL_law 501 = .ok (.istore 8, 2) := by decide +kernel
theorem dL_law_503 : decode cL_law 503 = .ok (.iload 10, 2) := by decide +kernel
theorem dL_law_505 : decode cL_law 505 = .ok (.iload 16, 2) := by decide +kernel
theorem dL_law_507 : decode cL_law 507 = .ok (.aload_n 1, 1) := by decide +kernel
theorem dL_law_508 : decode cL_law 508 = .ok (.bipush 9, 2) := by decide +kernel
theorem dL_law_510 : decode cL_law 510 = .ok (.invokevirtual 109, 3) := by decide +kernel
theorem dL_law_513 : decode cL_law 513 = .ok (.iadd, 1) := by decide +kernel
theorem dL_law_514 : decode cL_law 514 = .ok (.if_icmp .ne 91, 3) := by decide +kernel
theorem dL_law_517 : decode cL_law 517 = .ok (.aload 11, 2) := by decide +kernel
theorem dL_law_519 : decode cL_law 519 = .ok (.iconst 0, 1) := by decide +kernel
theorem dL_law_520 : decode cL_law 520 = .ok (.iaload, 1) := by decide +kernel
theorem dL_law_521 : decode cL_law 521 = .ok (.aload 11, 2) := by decide +kernel
theorem dL_law_523 : decode cL_law 523 = .ok (.iconst 1, 1) := by decide +kernel
theorem dL_law_524 : decode cL_law 524 = .ok (.iaload, 1) := by decide +kernel
theorem dL_law_525 : decode cL_law 525 = .ok (.iadd, 1) := by decide +kernel
theorem dL_law_526 : decode cL_law 526 = .ok (.aload 11, 2) := by decide +kernel
theorem dL_law_528 : decode cL_law 528 = .ok (.iconst 2, 1) := by decide +kernel
theorem dL_law_529 : decode cL_law 529 = .ok (.iaload, 1) := by decide +kernel
theorem dL_law_530 : decode cL_law 530 = .ok (.iadd, 1) := by decide +kernel
theorem dL_law_531 : decode cL_law 531 = .ok (.aload_n 1, 1) := by decide +kernel
theorem dL_law_532 : decode cL_law 532 = .ok (.iconst 4, 1) := by decide +kernel
theorem dL_law_533 : decode cL_law 533 = .ok (.invokevirtual 109, 3) := by decide +kernel
theorem dL_law_536 : decode cL_law 536 = .ok (.if_icmp .ne 69, 3) := by decide +kernel
theorem dL_law_539 : decode cL_law 539 = .ok (.aload 11, 2) := by decide +kernel
theorem dL_law_541 : decode cL_law 541 = .ok (.iconst 3, 1) := by decide +kernel
theorem dL_law_542 : decode cL_law 542 = .ok (.iaload, 1) := by decide +kernel
theorem dL_law_543 : decode cL_law 543 = .ok (.aload_n 1, 1) := by decide +kernel
theorem dL_law_544 : decode cL_law 544 = .ok (.iconst 5, 1) := by decide +kernel
theorem dL_law_545 : decode cL_law 545 = .ok (.invokevirtual 109, 3) := by decide +kernel
theorem dL_law_548 : decode cL_law 548 = .ok (.if_icmp .ne 57, 3) := by decide +kernel
theorem dL_law_551 : decode cL_law 551 = .ok (.aload 11, 2) := by decide +kernel
theorem dL_law_553 : decode cL_law 553 = .ok (.iconst 4, 1) := by decide +kernel
theorem dL_law_554 : decode cL_law 554 = .ok (.iaload, 1) := by decide +kernel
theorem dL_law_555 : decode cL_law 555 = .ok (.aload_n 1, 1) := by decide +kernel
theorem dL_law_556 : decode cL_law 556 = .ok (.bipush 6, 2) := by decide +kernel
theorem dL_law_558 : decode cL_law 558 = .ok (.invokevirtual 109, 3) := by decide +kernel
theorem dL_law_561 : decode cL_law 561 = .ok (.if_icmp .ne 44, 3) := by decide +kernel
theorem dL_law_564 : decode cL_law 564 = .ok (.iload 16, 2) := by decide +kernel
theorem dL_law_566 : decode cL_law 566 = .ok (.aload_n 1, 1) := by decide +kernel
theorem dL_law_567 : decode cL_law 567 = .ok (.bipush 7, 2) := by decide +kernel
theorem dL_law_569 : decode cL_law 569 = .ok (.invokevirtual 109, 3) := by decide +kernel
theorem dL_law_572 : decode cL_law 572 = .ok (.if_icmp .ne 33, 3) := by decide +kernel
theorem dL_law_575 : decode cL_law 575 = .ok (.aload_n 1, 1) := by decide +kernel
theorem dL_law_576 : decode cL_law 576 = .ok (.invokevirtual 121, 3) := by decide +kernel
theorem dL_law_579 : decode cL_law 579 = .ok (.aload_n 1, 1) := by decide +kernel
theorem dL_law_580 : decode cL_law 580 = .ok (.iconst 4, 1) := by decide +kernel
theorem dL_law_581 : decode cL_law 581 = .ok (.invokevirtual 109, 3) := by decide +kernel
theorem dL_law_584 : decode cL_law 584 = .ok (.ifCond .ne 7, 3) := by decide +kernel
theorem dL_law_587 : decode cL_law 587 = .ok (.dconst 0, 1) := by decide +kernel
theorem dL_law_588 : decode cL_law 588 = .ok (.goto 13, 3) := by decide +kernel
theorem dL_law_591 : decode cL_law 591 = .ok (.iload 9, 2) := by decide +kernel
theorem dL_law_593 : decode cL_law 593 = .ok (.i2d, 1) := by decide +kernel
theorem dL_law_594 : decode cL_law 594 = .ok (.aload_n 1, 1) := by decide +kernel
theorem dL_law_595 : decode cL_law 595 = .ok (.iconst 4, 1) := by decide +kernel
theorem dL_law_596 : decode cL_law 596 = .ok (.invokevirtual 109, 3) := by decide +kernel
theorem dL_law_599 : decode cL_law 599 = .ok (.i2d, 1) := by decide +kernel
theorem dL_law_600 : decode cL_law 600 = .ok (.ddiv, 1) := by decide +kernel
theorem dL_law_601 : decode cL_law 601 = .ok (.dcmp .l, 1) := by decide +kernel
theorem dL_law_602 : decode cL_law 602 = .ok (.ifCond .eq 5, 3) := by decide +kernel
theorem dL_law_605 : decode cL_law 605 = .ok (.iconst 0, 1) := by decide +kernel
theorem dL_law_606 : decode cL_law 606 = .ok (.ireturn, 1) := by decide +kernel
theorem dL_law_607 : decode cL_law 607 = .ok (.iconst 0, 1) := by decide +kernel
theorem dL_law_608 : decode cL_law 608 = .ok (.istore 17, 2) := by decide +kernel
theorem dL_law_610 : decode cL_law 610 = .ok (.iconst 1, 1) := by decide +kernel
theorem dL_law_611 : decode cL_law 611 = .ok (.istore 18, 2) := by decide +kernel
theorem dL_law_613 : decode cL_law 613 = .ok (.iload 18, 2) := by decide +kernel
theorem dL_law_615 : decode cL_law 615 = .ok (.bipush 8, 2) := by decide +kernel
theorem dL_law_617 : decode cL_law 617 = .ok (.if_icmp .ge 64, 3) := by decide +kernel
theorem dL_law_620 : decode cL_law 620 = .ok (.iload 17, 2) := by decide +kernel
theorem dL_law_622 : decode cL_law 622 = .ok (.aload_n 1, 1) := by decide +kernel
theorem dL_law_623 : decode cL_law 623 = .ok (.iload 18, 2) := by decide +kernel
theorem dL_law_625 : decode cL_law 625 = .ok (.iconst 2, 1) := by decide +kernel
theorem dL_law_626 : decode cL_law 626 = .ok (.invokevirtual 125, 3) := by decide +kernel
theorem dL_law_629 : decode cL_law 629 = .ok (.iadd, 1) := by decide +kernel
theorem dL_law_630 : decode cL_law 630 = .ok (.istore 17, 2) := by decide +kernel
theorem dL_law_632 : decode cL_law 632 = .ok (.aload_n 1, 1) := by decide +kernel
theorem dL_law_633 : decode cL_law 633 = .ok (.iload 18, 2) := by decide +kernel
theorem dL_law_635 : decode cL_law 635 = .ok (.iconst 2, 1) := by decide +kernel
theorem dL_law_636 : decode cL_law 636 = .ok (.invokevirtual 125, 3) := by decide +kernel
theorem dL_law_639 : decode cL_law 639 = .ok (.aload_n 1, 1) := by decide +kernel
theorem dL_law_640 : decode cL_law 640 = .ok (.iload 18, 2) := by decide +kernel
theorem dL_law_642 : decode cL_law 642 = .ok (.iconst 1, 1) := by decide +kernel
theorem dL_law_643 : decode cL_law 643 = .ok (.invokevirtual 125, 3) := by decide +kernel
theorem dL_law_646 : decode cL_law 646 = .ok (.iconst 3, 1) := by decide +kernel
theorem dL_law_647 : decode cL_law 647 = .ok (.if_icmp .ge 7, 3) := by decide +kernel
theorem dL_law_650 : decode cL_law 650 = .ok (.iconst 0, 1) := by decide +kernel
theorem dL_law_651 : decode cL_law 651 = .ok (.goto 4, 3) := by decide +kernel
theorem dL_law_654 : decode cL_law 654 = .ok (.iconst 1, 1) := by decide +kernel
theorem dL_law_655 : decode cL_law 655 = .ok (.if_icmp .ne 18, 3) := by decide +kernel
theorem dL_law_658 : decode cL_law 658 = .ok (.aload_n 1, 1) := by decide +kernel
theorem dL_law_659 : decode cL_law 659 = .ok (.iload 18, 2) := by decide +kernel
theorem dL_law_661 : decode cL_law 661 = .ok (.iconst 3, 1) := by decide +kernel
theorem dL_law_662 : decode cL_law 662 = .ok (.invokevirtual 125, 3) := by decide +kernel
theorem dL_law_665 : decode cL_law 665 = .ok (.aload_n 1, 1) := by decide +kernel
theorem dL_law_666 : decode cL_law 666 = .ok (.iconst 4, 1) := by decide +kernel
theorem dL_law_667 : decode cL_law 667 = .ok (.invokevirtual 109, 3) := by decide +kernel
theorem dL_law_670 : decode cL_law 670 = .ok (.if_icmp .le 5, 3) := by decide +kernel
theorem dL_law_673 : decode cL_law 673 = .ok (.iconst 0, 1) := by decide +kernel
theorem dL_law_674 : decode cL_law 674 = .ok (.ireturn, 1) := by decide +kernel
theorem dL_law_675 : decode cL_law 675 = .ok (.iinc 18 1, 3) := by decide +kernel
theorem dL_law_678 : decode cL_law 678 = .ok (.goto (-65), 3) := by decide +kernel
theorem dL_law_681 : decode cL_law 681 = .ok (.iload 17, 2) := by decide +kernel
theorem dL_law_683 : decode cL_law 683 = .ok (.aload_n 1, 1) := by decide +kernel
theorem dL_law_684 : decode cL_law 684 = .ok (.bipush 10, 2) := by decide +kernel
theorem dL_law_686 : decode cL_law 686 = .ok (.invokevirtual 109, 3) := by decide +kernel
theorem dL_law_689 : decode cL_law 689 = .ok (.if_icmp .eq 5, 3) := by decide +kernel
theorem dL_law_692 : decode cL_law 692 = .ok (.iconst 0, 1) := by decide +kernel
theorem dL_law_693 : decode cL_law 693 = .ok (.ireturn, 1) := by decide +kernel
theorem dL_law_694 : decode cL_law 694 = .ok (.iconst 0, 1) := by decide +kernel
theorem dL_law_695 : decode cL_law 695 = .ok (.istore 18, 2) := by decide +kernel
theorem dL_law_697 : decode cL_law 697 = .ok (.iconst 0, 1) := by decide +kernel
theorem dL_law_698 : decode cL_law 698 = .ok (.istore 19, 2) := by decide +kernel
theorem dL_law_700 : decode cL_law 700 = .ok (.iload 19, 2) := by decide +kernel
theorem dL_law_702 : decode cL_law 702 = .ok (.aload_n 1, 1) := by decide +kernel
theorem dL_law_703 : decode cL_law 703 = .ok (.iconst 2, 1) := by decide +kernel
theorem dL_law_704 : decode cL_law 704 = .ok (.invokevirtual 109, 3) := by decide +kernel
theorem dL_law_707 : decode cL_law 707 = .ok (.if_icmp .ge 73, 3) := by decide +kernel
theorem dL_law_710 : decode cL_law 710 = .ok (.iload 18, 2) := by decide +kernel
theorem dL_law_712 : decode cL_law 712 = .ok (.aload_n 1, 1) := by decide +kernel
theorem dL_law_713 : decode cL_law 713 = .ok (.iload 19, 2) := by decide +kernel
theorem dL_law_715 : decode cL_law 715 = .ok (.iconst 4, 1) := by decide +kernel
theorem dL_law_716 : decode cL_law 716 = .ok (.invokevirtual 128, 3) := by decide +kernel
theorem dL_law_719 : decode cL_law 719 = .ok (.iadd, 1) := by decide +kernel
theorem dL_law_720 : decode cL_law 720 = .ok (.istore 18, 2) := by decide +kernel
theorem dL_law_722 : decode cL_law 722 = .ok (.aload_n 1, 1) := by decide +kernel
theorem dL_law_723 : decode cL_law 723 = .ok (.iload 19, 2) := by decide +kernel
theorem dL_law_725 : decode cL_law 725 = .ok (.iconst 1, 1) := by decide +kernel
theorem dL_law_726 : decode cL_law 726 = .ok (.invokevirtual 128, 3) := by decide +kernel
theorem dL_law_729 : decode cL_law 729 = .ok (.invokestatic 131, 3) := by decide +kernel
theorem dL_law_732 : decode cL_law 732 = .ok (.iconst 1, 1) := by decide +kernel
theorem dL_law_733 : decode cL_law 733 = .ok (.if_icmp .ne 39, 3) := by decide +kernel
theorem dL_law_736 : decode cL_law 736 = .ok (.aload_n 1, 1) := by decide +kernel
theorem dL_law_737 : decode cL_law 737 = .ok (.iload 19, 2) := by decide +kernel
theorem dL_law_739 : decode cL_law 739 = .ok (.iconst 2, 1) := by decide +kernel
theorem dL_law_740 : decode cL_law 740 = .ok (.invokevirtual 128, 3) := by decide +kernel
theorem dL_law_743 : decode cL_law 743 = .ok (.ifCond .lt 29, 3) := by decide +kernel
theorem dL_law_746 : decode cL_law 746 = .ok (.aload_n 1, 1) := by decide +kernel
theorem dL_law_747 : decode cL_law 747 = .ok (.iload 19, 2) := by decide +kernel
theorem dL_law_749 : decode cL_law 749 = .ok (.iconst 3, 1) := by decide +kernel
theorem dL_law_750 : decode cL_law 750 = .ok (.invokevirtual 128, 3) := by decide +kernel
theorem dL_law_753 : decode cL_law 753 = .ok (.ifCond .lt 19, 3) := by decide +kernel
theorem dL_law_756 : decode cL_law 756 = .ok (.aload_n 1, 1) := by decide +kernel
theorem dL_law_757 : decode cL_law 757 = .ok (.aload_n 1, 1) := by decide +kernel
theorem dL_law_758 : decode cL_law 758 = .ok (.iload 19, 2) := by decide +kernel
theorem dL_law_760 : decode cL_law 760 = .ok (.iconst 0, 1) := by decide +kernel
theorem dL_law_761 : decode cL_law 761 = .ok (.invokevirtual 128, 3) := by decide +kernel
theorem dL_law_764 : decode cL_law 764 = .ok (.iconst 2, 1) := by decide +kernel
theorem dL_law_765 : decode cL_law 765 = .ok (.invokevirtual 118, 3) := by decide +kernel
theorem dL_law_768 : decode cL_law 768 = .ok (.iconst 1, 1) := by decide +kernel
theorem dL_law_769 : decode cL_law 769 = .ok (.if_icmp .ge 5, 3) := by decide +kernel
theorem dL_law_772 : decode cL_law 772 = .ok (.iconst 0, 1) := by decide +kernel
theorem dL_law_773 : decode cL_law 773 = .ok (.ireturn, 1) := by decide +kernel
theorem dL_law_774 : decode cL_law 774 = .ok (.iinc 19 1, 3) := by decide +kernel
theorem dL_law_777 : decode cL_law 777 = .ok (.goto (-77), 3) := by decide +kernel
theorem dL_law_780 : decode cL_law 780 = .ok (.iload 18, 2) := by decide +kernel
theorem dL_law_782 : decode cL_law 782 = .ok (.aload_n 1, 1) := by decide +kernel
theorem dL_law_783 : decode cL_law 783 = .ok (.bipush 6, 2) := by decide +kernel
theorem dL_law_785 : decode cL_law 785 = .ok (.invokevirtual 109, 3) := by decide +kernel
theorem dL_law_788 : decode cL_law 788 = .ok (.if_icmp .ne 13, 3) := by decide +kernel
theorem dL_law_791 : decode cL_law 791 = .ok (.aload_n 1, 1) := by decide +kernel
theorem dL_law_792 : decode cL_law 792 = .ok (.invokevirtual 105, 3) := by decide +kernel
theorem dL_law_795 : decode cL_law 795 = .ok (.lload 5, 2) := by decide +kernel
theorem dL_law_797 : decode cL_law 797 = .ok (.lcmp, 1) := by decide +kernel
theorem dL_law_798 : decode cL_law 798 = .ok (.ifCond .eq 5, 3) := by decide +kernel
theorem dL_law_801 : decode cL_law 801 = .ok (.iconst 0, 1) := by decide +kernel
theorem dL_law_802 : decode cL_law 802 = .ok (.ireturn, 1) := by decide +kernel
theorem dL_law_803 : decode cL_law 803 = .ok (.iconst 1, 1) := by decide +kernel
theorem dL_law_804 : decode cL_law 804 = .ok (.iload 4, 2) := by decide +kernel
theorem dL_law_806 : decode cL_law 806 = .ok (.iconst 4, 1) := by decide +kernel
theorem dL_law_807 : decode cL_law 807 = .ok (.ishr, 1) := by decide +kernel
theorem dL_law_808 : decode cL_law 808 = .ok (.iconst 3, 1) := by decide +kernel
theorem dL_law_809 : decode cL_law 809 = .ok (.invokestatic 9, 3) := by decide +kernel
theorem dL_law_812 : decode cL_law 812 = .ok (.iadd, 1) := by decide +kernel
theorem dL_law_813 : decode cL_law 813 = .ok (.istore 19, 2) := by decide +kernel
theorem dL_law_815 : decode cL_law 815 = .ok (.aload_n 1, 1) := by decide +kernel
theorem dL_law_816 : decode cL_law 816 = .ok (.iload 19, 2) := by decide +kernel
theorem dL_law_818 : decode cL_law 818 = .ok (.bipush 6, 2) := by decide +kernel
theorem dL_law_820 : decode cL_law 820 = .ok (.invokevirtual 134, 3) := by decide +kernel
theorem dL_law_823 : decode cL_law 823 = .ok (.istore 20, 2) := by decide +kernel
theorem dL_law_825 : decode cL_law 825 = .ok (.aload_n 1, 1) := by decide +kernel
theorem dL_law_826 : decode cL_law 826 = .ok (.iload 19, 2) := by decide +kernel
theorem dL_law_828 : decode cL_law 828 = .ok (.iconst 5, 1) := by decide +kernel
theorem dL_law_829 : decode cL_law 829 = .ok (.invokevirtual 134, 3) := by decide +kernel
theorem dL_law_832 : decode cL_law 832 = .ok (.istore 21, 2) := by decide +kernel
theorem dL_law_834 : decode cL_law 834 = .ok (.iconst 0, 1) := by decide +kernel
theorem dL_law_835 : decode cL_law 835 = .ok (.istore 22, 2) := by decide +kernel
theorem dL_law_837 : decode cL_law 837 = .ok (.iload 22, 2) := by decide +kernel
theorem dL_law_839 : decode cL_law 839 = .ok (.iload 19, 2) := by decide +kernel
theorem dL_law_841 : decode cL_law 841 = .ok (.if_icmp .ge 274, 3) := by decide +kernel
theorem dL_law_844 : decode cL_law 844 = .ok (.aload_n 1, 1) := by decide +kernel
theorem dL_law_845 : decode cL_law 845 = .ok (.iconst 1, 1) := by decide +kernel
theorem dL_law_846 : decode cL_law 846 = .ok (.invokevirtual 87, 3) := by decide +kernel
theorem dL_law_849 : decode cL_law 849 = .ok (.istore 23, 2) := by decide +kernel
theorem dL_law_851 : decode cL_law 851 = .ok (.aload_n 2, 1) := by decide +kernel
theorem dL_law_852 : decode cL_law 852 = .ok (.invokevirtual 83, 3) := by decide +kernel
theorem dL_law_855 : decode cL_law 855 = .ok (.iload 23, 2) := by decide +kernel
theorem dL_law_857 : decode cL_law 857 = .ok (.if_icmp .eq 5, 3) := by decide +kernel
theorem dL_law_860 : decode cL_law 860 = .ok (.iconst 0, 1) := by decide +kernel
theorem dL_law_861 : decode cL_law 861 = .ok (.ireturn, 1) := by decide +kernel
theorem dL_law_862 : decode cL_law 862 = .ok (.iconst 0, 1) := by decide +kernel
theorem dL_law_863 : decode cL_law 863 = .ok (.istore 24, 2) := by decide +kernel
theorem dL_law_865 : decode cL_law 865 = .ok (.iload 24, 2) := by decide +kernel
theorem dL_law_867 : decode cL_law 867 = .ok (.iload 7, 2) := by decide +kernel
theorem dL_law_869 : decode cL_law 869 = .ok (.if_icmp .ge 220, 3) := by decide +kernel
theorem dL_law_872 : decode cL_law 872 = .ok (.aload_n 1, 1) := by decide +kernel
theorem dL_law_873 : decode cL_law 873 = .ok (.iload 24, 2) := by decide +kernel
theorem dL_law_875 : decode cL_law 875 = .ok (.iconst 0, 1) := by decide +kernel
theorem dL_law_876 : decode cL_law 876 = .ok (.invokevirtual 112, 3) := by decide +kernel
theorem dL_law_879 : decode cL_law 879 = .ok (.istore 25, 2) := by decide +kernel
theorem dL_law_881 : decode cL_law 881 = .ok (.iload 25, 2) := by decide +kernel
theorem dL_law_883 : decode cL_law 883 = .ok (.aload 12, 2) := by decide +kernel
theorem dL_law_885 : decode cL_law 885 = .ok (.iload 24, 2) := by decide +kernel
theorem dL_law_887 : decode cL_law 887 = .ok (.iaload, 1) := by decide +kernel
theorem dL_law_888 : decode cL_law 888 = .ok (.isub, 1) := by decide +kernel
theorem dL_law_889 : decode cL_law 889 = .ok (.invokestatic 131, 3) := by decide +kernel
theorem dL_law_892 : decode cL_law 892 = .ok (.iconst 2, 1) := by decide +kernel
theorem dL_law_893 : decode cL_law 893 = .ok (.if_icmp .gt 53, 3) := by decide +kernel
theorem dL_law_896 : decode cL_law 896 = .ok (.aload 15, 2) := by decide +kernel
theorem dL_law_898 : decode cL_law 898 = .ok (.iload 24, 2) := by decide +kernel
theorem dL_law_900 : decode cL_law 900 = .ok (.iaload, 1) := by decide +kernel
theorem dL_law_901 : decode cL_law 901 = .ok (.iconst 1, 1) := by decide +kernel
theorem dL_law_902 : decode cL_law 902 = .ok (.if_icmp .le 13, 3) := by decide +kernel
theorem dL_law_905 : decode cL_law 905 = .ok (.iload 25, 2) := by decide +kernel
theorem dL_law_907 : decode cL_law 907 = .ok (.aload 12, 2) := by decide +kernel
theorem dL_law_909 : decode cL_law 909 = .ok (.iload 24, 2) := by decide +kernel
theorem dL_law_911 : decode cL_law 911 = .ok (.iaload, 1) := by decide +kernel
theorem dL_law_912 : decode cL_law 912 = .ok (.if_icmp .ne 34, 3) := by decide +kernel
theorem dL_law_915 : decode cL_law 915 = .ok (.aload_n 1, 1) := by decide +kernel
theorem dL_law_916 : decode cL_law 916 = .ok (.iload 24, 2) := by decide +kernel
theorem dL_law_918 : decode cL_law 918 = .ok (.iconst 3, 1) := by decide +kernel
theorem dL_law_919 : decode cL_law 919 = .ok (.invokevirtual 112, 3) := by decide +kernel
theorem dL_law_922 : decode cL_law 922 = .ok (.iconst 3, 1) := by decide +kernel
theorem dL_law_923 : decode cL_law 923 = .ok (.if_icmp .ge 25, 3) := by decide +kernel
theorem dL_law_926 : decode cL_law 926 = .ok (.aload_n 1, 1) := by decide +kernel
theorem dL_law_927 : decode cL_law 927 = .ok (.iload 24, 2) := by decide +kernel
theorem dL_law_929 : decode cL_law 929 = .ok (.iconst 2, 1) := by decide +kernel
theorem dL_law_930 : decode cL_law 930 = .ok (.invokevirtual 112, 3) := by decide +kernel
theorem dL_law_933 : decode cL_law 933 = .ok (.ifCond .ge 15, 3) := by decide +kernel
theorem dL_law_936 : decode cL_law 936 = .ok (.iload 25, 2) := by decide +kernel
theorem dL_law_938 : decode cL_law 938 = .ok (.aload 12, 2) := by decide +kernel
theorem dL_law_940 : decode cL_law 940 = .ok (.iload 24, 2) := by decide +kernel
theorem dL_law_942 : decode cL_law 942 = .ok (.iaload, 1) := by decide +kernel
theorem dL_law_943 : decode cL_law 943 = .ok (.if_icmp .eq 5, 3) := by decide +kernel
theorem dL_law_946 : decode cL_law 946 = .ok (.iconst 0, 1) := by decide +kernel
theorem dL_law_947 : decode cL_law 947 = .ok (.ireturn, 1) := by decide +kernel
theorem dL_law_948 : decode cL_law 948 = .ok (.aload_n 1, 1) := by decide +kernel
theorem dL_law_949 : decode cL_law 949 = .ok (.iload 24, 2) := by decide +kernel
theorem dL_law_951 : decode cL_law 951 = .ok (.iconst 2, 1) := by decide +kernel
theorem dL_law_952 : decode cL_law 952 = .ok (.invokevirtual 112, 3) := by decide +kernel
theorem dL_law_955 : decode cL_law 955 = .ok (.istore 26, 2) := by decide +kernel
theorem dL_law_957 : decode cL_law 957 = .ok (.iload 25, 2) := by decide +kernel
theorem dL_law_959 : decode cL_law 959 = .ok (.aload 12, 2) := by decide +kernel
theorem dL_law_961 : decode cL_law 961 = .ok (.iload 24, 2) := by decide +kernel
theorem dL_law_963 : decode cL_law 963 = .ok (.iaload, 1) := by decide +kernel
theorem dL_law_964 : decode cL_law 964 = .ok (.if_icmp .eq 27, 3) := by decide +kernel
theorem dL_law_967 : decode cL_law 967 = .ok (.iload 26, 2) := by decide +kernel
theorem dL_law_969 : decode cL_law 969 = .ok (.iload 25, 2) := by decide +kernel
theorem dL_law_971 : decode cL_law 971 = .ok (.isub, 1) := by decide +kernel
theorem dL_law_972 : decode cL_law 972 = .ok (.invokestatic 131, 3) := by decide +kernel
theorem dL_law_975 : decode cL_law 975 = .ok (.iload 26, 2) := by decide +kernel
theorem dL_law_977 : decode cL_law 977 = .ok (.aload 12, 2) := by decide +kernel
theorem dL_law_979 : decode cL_law 979 = .ok (.iload 24, 2) := by decide +kernel
theorem dL_law_981 : decode cL_law 981 = .ok (.iaload, 1) := by decide +kernel
theorem dL_law_982 : decode cL_law 982 = .ok (.isub, 1) := by decide +kernel
theorem dL_law_983 : decode cL_law 983 = .ok (.invokestatic 131, 3) := by decide +kernel
theorem dL_law_986 : decode cL_law 986 = .ok (.if_icmp .lt 5, 3) := by decide +kernel
theorem dL_law_989 : decode cL_law 989 = .ok (.iconst 0, 1) := by decide +kernel
theorem dL_law_990 : decode cL_law 990 = .ok (.ireturn, 1) := by decide +kernel
theorem dL_law_991 : decode cL_law 991 = .ok (.aload 12, 2) := by decide +kernel
theorem dL_law_993 : decode cL_law 993 = .ok (.iload 24, 2) := by decide +kernel
theorem dL_law_995 : decode cL_law 995 = .ok (.iload 25, 2) := by decide +kernel
theorem dL_law_997 : decode cL_law 997 = .ok (.iastore, 1) := by decide +kernel
theorem dL_law_998 : decode cL_law 998 = .ok (.aload 15, 2) := by decide +kernel
theorem dL_law_1000 : decode cL_law 1000 = .ok (.iload 24, 2) := by decide +kernel
theorem dL_law_1002 : decode cL_law 1002 = .ok (.iaload, 1) := by decide +kernel
theorem dL_law_1003 : decode cL_law 1003 = .ok (.iconst 3, 1) := by decide +kernel
theorem dL_law_1004 : decode cL_law 1004 = .ok (.if_icmp .ge 41, 3) := by decide +kernel
theorem dL_law_1007 : decode cL_law 1007 = .ok (.aload_n 1, 1) := by decide +kernel
theorem dL_law_1008 : decode cL_law 1008 = .ok (.iload 24, 2) := by decide +kernel
theorem dL_law_1010 : decode cL_law 1010 = .ok (.iconst 3, 1) := by decide +kernel
theorem dL_law_1011 : decode cL_law 1011 = .ok (.invokevirtual 112, 3) := by decide +kernel
theorem dL_law_1014 : decode cL_law 1014 = .ok (.iconst 3, 1) := by decide +kernel
theorem dL_law_1015 : decode cL_law 1015 = .ok (.if_icmp .ne 7, 3) := by decide +kernel
theorem dL_law_1018 : decode cL_law 1018 = .ok (.iconst 1, 1) := by decide +kernel
theorem dL_law_1019 : decode cL_law 1019 = .ok (.goto 4, 3) := by decide +kernel
theorem dL_law_1022 : decode cL_law 1022 = .ok (.iconst 0, 1) := by decide +kernel
theorem dL_law_1023 : decode cL_law 1023 = .ok (.aload 14, 2) := by decide +kernel
theorem dL_law_1025 : decode cL_law 1025 = .ok (.iload 24, 2) := by decide +kernel
theorem dL_law_1027 : decode cL_law 1027 = .ok (.iaload, 1) := by decide +kernel
theorem dL_law_1028 : decode cL_law 1028 = .ok (.iload 22, 2) := by decide +kernel
theorem dL_law_1030 : decode cL_law 1030 = .ok (.iconst 1, 1) := by decide +kernel
theorem dL_law_1031 : decode cL_law 1031 = .ok (.iadd, 1) := by decide +kernel
theorem dL_law_1032 : decode cL_law 1032 = .ok (.if_icmp .ne 7, 3) := by decide +kernel
theorem dL_law_1035 : decode cL_law 1035 = .ok (.iconst 1, 1) := by decide +kernel
theorem dL_law_1036 : decode cL_law 1036 = .ok (.goto 4, 3) := by decide +kernel
theorem dL_law_1039 : decode cL_law 1039 = .ok (.iconst 0, 1) := by decide +kernel
theorem dL_law_1040 : decode cL_law 1040 = .ok (.if_icmp .eq 5, 3) := by decide +kernel
theorem dL_law_1043 : decode cL_law 1043 = .ok (.iconst 0, 1) := by decide +kernel
theorem dL_law_1044 : decode cL_law 1044 = .ok (.ireturn, 1) := by decide +kernel
theorem dL_law_1045 : decode cL_law 1045 = .ok (.aload 15, 2) := by decide +kernel
theorem dL_law_1047 : decode cL_law 1047 = .ok (.iload 24, 2) := by decide +kernel
theorem dL_law_1049 : decode cL_law 1049 = .ok (.iaload, 1) := by decide +kernel
theorem dL_law_1050 : decode cL_law 1050 = .ok (.iconst 2, 1) := by decide +kernel
theorem dL_law_1051 : decode cL_law 1051 = .ok (.if_icmp .le 20, 3) := by decide +kernel
theorem dL_law_1054 : decode cL_law 1054 = .ok (.aload_n 1, 1) := by decide +kernel
theorem dL_law_1055 : decode cL_law 1055 = .ok (.iload 24, 2) := by decide +kernel
theorem dL_law_1057 : decode cL_law 1057 = .ok (.iconst 3, 1) := by decide +kernel
theorem dL_law_1058 : decode cL_law 1058 = .ok (.invokevirtual 112, 3) := by decide +kernel
theorem dL_law_1061 : decode cL_law 1061 = .ok (.aload 15, 2) := by decide +kernel
theorem dL_law_1063 : decode cL_law 1063 = .ok (.iload 24, 2) := by decide +kernel
theorem dL_law_1065 : decode cL_law 1065 = .ok (.iaload, 1) := by decide +kernel
theorem dL_law_1066 : decode cL_law 1066 = .ok (.if_icmp .eq 5, 3) := by decide +kernel
theorem dL_law_1069 : decode cL_law 1069 = .ok (.iconst 0, 1) := by decide +kernel
theorem dL_law_1070 : decode cL_law 1070 = .ok (.ireturn, 1) := by decide +kernel
theorem dL_law_1071 : decode cL_law 1071 = .ok (.aload 15, 2) := by decide +kernel
theorem dL_law_1073 : decode cL_law 1073 = .ok (.iload 24, 2) := by decide +kernel
theorem dL_law_1075 : decode cL_law 1075 = .ok (.aload_n 1, 1) := by decide +kernel
theorem dL_law_1076 : decode cL_law 1076 = .ok (.iload 24, 2) := by decide +kernel
theorem dL_law_1078 : decode cL_law 1078 = .ok (.iconst 3, 1) := by decide +kernel
theorem dL_law_1079 : decode cL_law 1079 = .ok (.invokevirtual 112, 3) := by decide +kernel
theorem dL_law_1082 : decode cL_law 1082 = .ok (.iastore, 1) := by decide +kernel
theorem dL_law_1083 : decode cL_law 1083 = .ok (.iinc 24 1, 3) := by decide +kernel
theorem dL_law_1086 : decode cL_law 1086 = .ok (.goto (-221), 3) := by decide +kernel
theorem dL_law_1089 : decode cL_law 1089 = .ok (.iload 16, 2) := by decide +kernel
theorem dL_law_1091 : decode cL_law 1091 = .ok (.iload 23, 2) := by decide +kernel
theorem dL_law_1093 : decode cL_law 1093 = .ok (.iadd, 1) := by decide +kernel
theorem dL_law_1094 : decode cL_law 1094 = .ok (.istore 16, 2) := by decide +kernel
theorem dL_law_1096 : decode cL_law 1096 = .ok (.aload_n 1, 1) := by decide +kernel
theorem dL_law_1097 : decode cL_law 1097 = .ok (.bipush 7, 2) := by decide +kernel
theorem dL_law_1099 : decode cL_law 1099 = .ok (.invokevirtual 109, 3) := by decide +kernel
theorem dL_law_1102 : decode cL_law 1102 = .ok (.iload 16, 2) := by decide +kernel
theorem dL_law_1104 : decode cL_law 1104 = .ok (.if_icmp .eq 5, 3) := by decide +kernel
theorem dL_law_1107 : decode cL_law 1107 = .ok (.iconst 0, 1) := by decide +kernel
theorem dL_law_1108 : decode cL_law 1108 = .ok (.ireturn, 1) := by decide +kernel
theorem dL_law_1109 : decode cL_law 1109 = .ok (.iinc 22 1, 3) := by decide +kernel
theorem dL_law_1112 : decode cL_law 1112 = .ok (.goto (-275), 3) := by decide +kernel
theorem dL_law_1115 : decode cL_law 1115 = .ok (.aload_n 1, 1) := by decide +kernel
theorem dL_law_1116 : decode cL_law 1116 = .ok (.bipush 6, 2) := by decide +kernel
theorem dL_law_1118 : decode cL_law 1118 = .ok (.invokevirtual 109, 3) := by decide +kernel
theorem dL_law_1121 : decode cL_law 1121 = .ok (.iload 20, 2) := by decide +kernel
theorem dL_law_1123 : decode cL_law 1123 = .ok (.if_icmp .ne 13, 3) := by decide +kernel
theorem dL_law_1126 : decode cL_law 1126 = .ok (.aload_n 1, 1) := by decide +kernel
theorem dL_law_1127 : decode cL_law 1127 = .ok (.iconst 5, 1) := by decide +kernel
theorem dL_law_1128 : decode cL_law 1128 = .ok (.invokevirtual 109, 3) := by decide +kernel
theorem dL_law_1131 : decode cL_law 1131 = .ok (.iload 21, 2) := by decide +kernel
theorem dL_law_1133 : decode cL_law 1133 = .ok (.if_icmp .eq 5, 3) := by decide +kernel
theorem dL_law_1136 : decode cL_law 1136 = .ok (.iconst 0, 1) := by decide +kernel
theorem dL_law_1137 : decode cL_law 1137 = .ok (.ireturn, 1) := by decide +kernel
theorem dL_law_1138 : decode cL_law 1138 = .ok (.iconst 0, 1) := by decide +kernel
theorem dL_law_1139 : decode cL_law 1139 = .ok (.istore 22, 2) := by decide +kernel
theorem dL_law_1141 : decode cL_law 1141 = .ok (.iconst 0, 1) := by decide +kernel
theorem dL_law_1142 : decode cL_law 1142 = .ok (.istore 23, 2) := by decide +kernel
theorem dL_law_1144 : decode cL_law 1144 = .ok (.iload 23, 2) := by decide +kernel
theorem dL_law_1146 : decode cL_law 1146 = .ok (.iload 7, 2) := by decide +kernel
theorem dL_law_1148 : decode cL_law 1148 = .ok (.if_icmp .ge 44, 3) := by decide +kernel
theorem dL_law_1151 : decode cL_law 1151 = .ok (.iload 22, 2) := by decide +kernel
theorem dL_law_1153 : decode cL_law 1153 = .ok (.aload_n 1, 1) := by decide +kernel
theorem dL_law_1154 : decode cL_law 1154 = .ok (.iload 23, 2) := by decide +kernel
theorem dL_law_1156 : decode cL_law 1156 = .ok (.iconst 4, 1) := by decide +kernel
theorem dL_law_1157 : decode cL_law 1157 = .ok (.invokevirtual 112, 3) := by decide +kernel
theorem dL_law_1160 : decode cL_law 1160 = .ok (.aload_n 1, 1) := by decide +kernel
theorem dL_law_1161 : decode cL_law 1161 = .ok (.iload 23, 2) := by decide +kernel
theorem dL_law_1163 : decode cL_law 1163 = .ok (.iconst 3, 1) := by decide +kernel
theorem dL_law_1164 : decode cL_law 1164 = .ok (.invokevirtual 112, 3) := by decide +kernel
theorem dL_law_1167 : decode cL_law 1167 = .ok (.iconst 3, 1) := by decide +kernel
theorem dL_law_1168 : decode cL_law 1168 = .ok (.if_icmp .ge 13, 3) := by decide +kernel
theorem dL_law_1171 : decode cL_law 1171 = .ok (.aload_n 1, 1) := by decide +kernel
theorem dL_law_1172 : decode cL_law 1172 = .ok (.iload 23, 2) := by decide +kernel
theorem dL_law_1174 : decode cL_law 1174 = .ok (.iconst 1, 1) := by decide +kernel
theorem dL_law_1175 : decode cL_law 1175 = .ok (.invokevirtual 112, 3) := by decide +kernel
theorem dL_law_1178 : decode cL_law 1178 = .ok (.goto 4, 3) := by decide +kernel
theorem dL_law_1181 : decode cL_law 1181 = .ok (.iconst 0, 1) := by decide +kernel
theorem dL_law_1182 : decode cL_law 1182 = .ok (.iadd, 1) := by decide +kernel
theorem dL_law_1183 : decode cL_law 1183 = .ok (.iadd, 1) := by decide +kernel
theorem dL_law_1184 : decode cL_law 1184 = .ok (.istore 22, 2) := by decide +kernel
theorem dL_law_1186 : decode cL_law 1186 = .ok (.iinc 23 1, 3) := by decide +kernel
theorem dL_law_1189 : decode cL_law 1189 = .ok (.goto (-45), 3) := by decide +kernel
theorem dL_law_1192 : decode cL_law 1192 = .ok (.iload 22, 2) := by decide +kernel
theorem dL_law_1194 : decode cL_law 1194 = .ok (.aload_n 1, 1) := by decide +kernel
theorem dL_law_1195 : decode cL_law 1195 = .ok (.bipush 8, 2) := by decide +kernel
theorem dL_law_1197 : decode cL_law 1197 = .ok (.invokevirtual 109, 3) := by decide +kernel
theorem dL_law_1200 : decode cL_law 1200 = .ok (.iadd, 1) := by decide +kernel
theorem dL_law_1201 : decode cL_law 1201 = .ok (.iload 8, 2) := by decide +kernel
theorem dL_law_1203 : decode cL_law 1203 = .ok (.if_icmp .eq 5, 3) := by decide +kernel
theorem dL_law_1206 : decode cL_law 1206 = .ok (.iconst 0, 1) := by decide +kernel
theorem dL_law_1207 : decode cL_law 1207 = .ok (.ireturn, 1) := by decide +kernel
theorem dL_law_1208 : decode cL_law 1208 = .ok (.iinc 3 1, 3) := by decide +kernel
theorem dL_law_1211 : decode cL_law 1211 = .ok (.goto (-1189), 3) := by decide +kernel
theorem dL_law_1214 : decode cL_law 1214 = .ok (.aload_n 2, 1) := by decide +kernel
theorem dL_law_1215 : decode cL_law 1215 = .ok (.aload_n 1, 1) := by decide +kernel
theorem dL_law_1216 : decode cL_law 1216 = .ok (.invokevirtual 137, 3) := by decide +kernel
theorem dL_law_1219 : decode cL_law 1219 = .ok (.ireturn, 1) := by decide +kernel
end
section
/-! The world: one family of cells, read off a memory of whole numbers and a map of addresses. t: kind of cell, c: which coast (0, 1: the class's; 2: the one by hand), i: which one. Which cells there are stands in the map itself: ad 40 t 0 (1: there is one of kind t), ad 41 t 0 (how long it is), ad 42 0 0. Memory 4: arrays of the law's own. -/
abbrev St : Type := Nat → Int → Int
abbrev Mem : Type := Nat → Nat → Int → Int
def i32 (x : Int) : Int32 := Int32.ofInt x
def u2 (S : St) (k : Nat) (i v : Int) : St := fun k' i' => if k' = k ∧ i' = i then v else S k' i'
def setc (M : Mem) (c : Nat) (S : St) : Mem := fun c' => if c' = c then S else M c'
theorem setc_at (M : Mem) (c : Nat) (S : St) : setc M c S c = S := if_pos rfl
theorem setc_ne (M : Mem) {c c' : Nat} (S : St) (h : c' ≠ c) : setc M c S c' = M c' := if_neg h
theorem setc_self (M : Mem) (c : Nat) : setc M c (M c) = M := by
  funext c'
  by_cases h : c' = c
  · subst h; exact setc_at _ _ _
  · exact setc_ne _ _ h
theorem setc_setc (M : Mem) (c : Nat) (S S' : St) : setc (setc M c S) c S' = setc M c S' := by
  funext c'
  by_cases h : c' = c
  · subst h; rw [setc_at, setc_at]
  · rw [setc_ne _ _ h, setc_ne _ _ h, setc_ne _ _ h]
theorem setc_comm (M : Mem) {c d : Nat} (S S' : St) (h : c ≠ d) : setc (setc M c S) d S' = setc (setc M d S') c S := by
  funext c'
  by_cases h1 : c' = d
  · subst h1; rw [setc_at, setc_ne _ _ (Ne.symm h), setc_at]
  · rw [setc_ne _ _ h1]
    by_cases h2 : c' = c
    · subst h2; rw [setc_at, setc_at]
    · rw [setc_ne _ _ h2, setc_ne _ _ h2, setc_ne _ _ h1]
def fm (v : Int) : Int := if v = 1 then 3 else if v = 2 then 4 else v
def bk (j : Nat) : Nat := match j with | 0 => 13 | 1 => 14 | 2 => 15 | 3 => 18 | 4 => 19 | 5 => 16 | _ => 17
def bv (j : Nat) (v : Int) : Int := if j = 3 then fm v else v
def lanV (M : Mem) (c : Nat) (i : Int) (j : Nat) : Int := if j = 0 then M c 4 i else if j < 11 then M c 5 (10 * i + ((j : Int) - 1)) else if j = 11 then M c 6 i else 0
def watV (M : Mem) (c : Nat) (i : Int) (j : Nat) : Int := if j < 6 then M c (7 + j) i else 0
def boaV (M : Mem) (c : Nat) (i : Int) (j : Nat) : Int := if j < 7 then bv j (M c (bk j) i) else 0
def outF (ad : Nat → Nat → Int → Nat) (M : Mem) (j : Nat) : Option Nat := if (j : Int) < M 4 20 0 then some (ad (21 + ad 42 0 0) 2 (j : Int)) else if (j : Int) = M 4 20 0 ∧ M 4 20 1 = 1 then some (ad 31 2 0) else none
/-- what the cell of a key holds -/
def cel (cy : Nat → ClassId) (ad : Nat → Nat → Int → Nat) (M : Mem) (t c : Nat) (i : Int) : va_E := match t with
  | 0 => .inr (4, [.ref (ad 1 0 0), .ref (ad 1 1 0)])
  | 1 => .inr (1, [.ref (ad 2 c 0), .ref (ad 3 c 0), .ref (ad 4 c 0), .ref (ad 5 c 0), .ref (ad 6 c 0), .ref (ad 7 c 0), .ref (ad 8 c 0), .int (i32 (M c 20 1)), .int (i32 (M c 20 2)), .int (i32 (M c 20 3)), .int (i32 (M c 20 0)), .int (i32 (M c 20 4)), .int (i32 (M c 20 5))])
  | 2 => .inl (cy 0, 16, .inl (fun j => i32 (M c 0 (j : Int))))
  | 3 => .inl (cy 0, 16, .inl (fun j => i32 (M c 1 (j : Int))))
  | 4 => .inl (cy 0, 8, .inl (fun j => i32 (M c 2 (j : Int))))
  | 5 => .inl (cy 0, 8, .inl (fun j => i32 (M c 3 (j : Int))))
  | 6 => .inl (cy 2, 5, .inr (.inr (.inr (.inr (fun j => some (ad 9 c (j : Int)))))))
  | 7 => .inl (cy 3, 4, .inr (.inr (.inr (.inr (fun j => some (ad 11 c (j : Int)))))))
  | 8 => .inl (cy 4, 6, .inr (.inr (.inr (.inr (fun j => some (ad 12 c (j : Int)))))))
  | 9 => .inr (2, [.ref (ad 10 c i), .int (i32 (M c 4 i)), .int (i32 (M c 6 i))])
  | 10 => .inl (cy 0, 10, .inl (fun j => if j < 10 then i32 (M c 5 (10 * i + (j : Int))) else 0))
  | 11 => .inr (3, [.int (i32 (M c 7 i)), .int (i32 (M c 8 i)), .int (i32 (M c 9 i)), .int (i32 (M c 10 i)), .int (i32 (M c 11 i)), .int (i32 (M c 12 i))])
  | 12 => .inr (0, [.int (i32 (M c 13 i)), .int (i32 (M c 14 i)), .int (i32 (M c 15 i)), .int (i32 (M c 16 i)), .int (i32 (M c 17 i)), .int (i32 (M c 18 i)), .int (i32 (M c 19 i))])
  | 13 => .inr (5, [.int (i32 (M c 20 0)), .int (i32 (M c 20 4)), .int (i32 (M c 20 5)), .ref (ad 14 c 0), .ref (ad 15 c 0), .ref (ad 16 c 0), .ref (ad 17 c 0), .ref (ad 18 c 0), .ref (ad 19 c 0), .ref (ad 20 c 0)])
  | 14 => .inl (cy 0, 16, .inl (fun j => i32 (M c 0 (j : Int))))
  | 15 => .inl (cy 0, 16, .inl (fun j => i32 (M c 1 (j : Int))))
  | 16 => .inl (cy 0, 8, .inl (fun j => i32 (M c 2 (j : Int))))
  | 17 => .inl (cy 0, 8, .inl (fun j => i32 (M c 3 (j : Int))))
  | 18 => .inl (cy 1, ad 41 18 0, .inr (.inr (.inr (.inr (fun j => some (ad 21 c (j : Int)))))))
  | 19 => .inl (cy 1, ad 41 19 0, .inr (.inr (.inr (.inr (fun j => some (ad 22 c (j : Int)))))))
  | 20 => .inl (cy 1, ad 41 20 0, .inr (.inr (.inr (.inr (fun j => some (ad 23 c (j : Int)))))))
  | 21 => .inl (cy 0, 12, .inl (fun j => i32 (lanV M c i j)))
  | 22 => .inl (cy 0, 6, .inl (fun j => i32 (watV M c i j)))
  | 23 => .inl (cy 0, 7, .inl (fun j => i32 (boaV M c i j)))
  | 24 => .inl (cy 0, ad 41 24 0, .inl (fun j => i32 (M 4 0 (j : Int))))
  | 25 => .inl (cy 0, ad 41 25 0, .inl (fun j => i32 (M 4 1 (j : Int))))
  | 26 => .inl (cy 0, ad 41 26 0, .inl (fun j => i32 (M 4 2 (j : Int))))
  | 27 => .inl (cy 0, ad 41 27 0, .inl (fun j => i32 (M 4 3 (j : Int))))
  | 28 => .inl (cy 0, ad 41 28 0, .inl (fun j => i32 (M 4 4 (j : Int))))
  | 29 => .inl (cy 0, ad 41 29 0, .inl (fun j => i32 (M 4 5 (j : Int))))
  | 30 => .inl (cy 0, ad 41 30 0, .inl (fun j => i32 (M 4 6 (j : Int))))
  | 31 => .inl (cy 0, ad 41 31 0, .inl (fun j => i32 (M 4 7 (j : Int))))
  | _ => .inl (cy 1, ad 41 32 0, .inr (.inr (.inr (.inr (outF ad M)))))
def dmb (ad : Nat → Nat → Int → Nat) (t c : Nat) (i : Int) : Bool := match t with
  | 0 => c == 0 && i == 0
  | 1 => decide (c < 2) && i == 0
  | 2 => decide (c < 2) && i == 0
  | 3 => decide (c < 2) && i == 0
  | 4 => decide (c < 2) && i == 0
  | 5 => decide (c < 2) && i == 0
  | 6 => decide (c < 2) && i == 0
  | 7 => decide (c < 2) && i == 0
  | 8 => decide (c < 2) && i == 0
  | 9 => decide (c < 2) && (decide (0 ≤ i) && decide (i < 5))
  | 10 => decide (c < 2) && (decide (0 ≤ i) && decide (i < 5))
  | 11 => decide (c < 2) && (decide (0 ≤ i) && decide (i < 4))
  | 12 => decide (c < 2) && (decide (0 ≤ i) && decide (i < 6))
  | 13 => (c == 2 && i == 0) && ad 40 13 0 == 1
  | 14 => (c == 2 && i == 0) && ad 40 13 0 == 1
  | 15 => (c == 2 && i == 0) && ad 40 13 0 == 1
  | 16 => (c == 2 && i == 0) && ad 40 13 0 == 1
  | 17 => (c == 2 && i == 0) && ad 40 13 0 == 1
  | 18 => (c == 2 && i == 0) && ad 40 13 0 == 1
  | 19 => (c == 2 && i == 0) && ad 40 13 0 == 1
  | 20 => (c == 2 && i == 0) && ad 40 13 0 == 1
  | 21 => (c == 2 && (decide (0 ≤ i) && decide (i < 5))) && (ad 40 13 0 == 1 && decide (i < (ad 41 18 0 : Int)))
  | 22 => (c == 2 && (decide (0 ≤ i) && decide (i < 4))) && (ad 40 13 0 == 1 && decide (i < (ad 41 19 0 : Int)))
  | 23 => (c == 2 && (decide (0 ≤ i) && decide (i < 6))) && (ad 40 13 0 == 1 && decide (i < (ad 41 20 0 : Int)))
  | t => decide (t < 33) && (c == 2 && i == 0) && ad 40 t 0 == 1
def dms (t c i : Nat) : Bool := match t with
  | 0 => c == 0 && i == 0
  | 1 => decide (c < 2) && i == 0
  | 2 => decide (c < 2) && i == 0
  | 3 => decide (c < 2) && i == 0
  | 4 => decide (c < 2) && i == 0
  | 5 => decide (c < 2) && i == 0
  | 6 => decide (c < 2) && i == 0
  | 7 => decide (c < 2) && i == 0
  | 8 => decide (c < 2) && i == 0
  | 9 => decide (c < 2) && decide (i < 5)
  | 10 => decide (c < 2) && decide (i < 5)
  | 11 => decide (c < 2) && decide (i < 4)
  | 12 => decide (c < 2) && decide (i < 6)
  | 21 => c == 2 && decide (i < 5)
  | 22 => c == 2 && decide (i < 4)
  | 23 => c == 2 && decide (i < 6)
  | _ => c == 2 && i == 0
def keysN : List (Nat × Nat × Nat) := (List.range 33).flatMap fun t => (List.range 3).flatMap fun c => (List.range 6).map fun i => (t, c, i)
def keysI : List (Nat × Nat × Int) := (keysN.filter fun k => dms k.1 k.2.1 k.2.2).map fun k => (k.1, k.2.1, (k.2.2 : Int))
def keys (ad : Nat → Nat → Int → Nat) : List (Nat × Nat × Int) := keysI.filter fun k => dmb ad k.1 k.2.1 k.2.2
theorem dm_bd {ad : Nat → Nat → Int → Nat} {t c : Nat} {i : Int} (h : dmb ad t c i = true) : t < 33 ∧ c < 3 ∧ 0 ≤ i ∧ i < 6 := by
  unfold dmb at h
  split at h <;> simp at h <;> omega
theorem dm_st {ad : Nat → Nat → Int → Nat} {t c : Nat} {i : Int} (h : dmb ad t c i = true) : dms t c i.toNat = true := by
  have ht := (dm_bd h).1
  have : t = 0 ∨ t = 1 ∨ t = 2 ∨ t = 3 ∨ t = 4 ∨ t = 5 ∨ t = 6 ∨ t = 7 ∨ t = 8 ∨ t = 9 ∨ t = 10 ∨ t = 11 ∨ t = 12 ∨ t = 13 ∨ t = 14 ∨ t = 15 ∨ t = 16 ∨ t = 17 ∨ t = 18 ∨ t = 19 ∨ t = 20 ∨ t = 21 ∨ t = 22 ∨ t = 23 ∨ t = 24 ∨ t = 25 ∨ t = 26 ∨ t = 27 ∨ t = 28 ∨ t = 29 ∨ t = 30 ∨ t = 31 ∨ t = 32 := by omega
  rcases this with rfl | rfl | rfl | rfl | rfl | rfl | rfl | rfl | rfl | rfl | rfl | rfl | rfl | rfl | rfl | rfl | rfl | rfl | rfl | rfl | rfl | rfl | rfl | rfl | rfl | rfl | rfl | rfl | rfl | rfl | rfl | rfl | rfl <;> simp [dmb] at h <;> simp [dms] <;> omega
theorem mem_keys {ad : Nat → Nat → Int → Nat} {t c : Nat} {i : Int} (h : dmb ad t c i = true) : (t, c, i) ∈ keys ad := by
  obtain ⟨h1, h2, h3, h4⟩ := dm_bd h
  have e : ((i.toNat : Nat) : Int) = i := by omega
  refine List.mem_filter.mpr ⟨List.mem_map.mpr ⟨(t, c, i.toNat), List.mem_filter.mpr ⟨?_, dm_st h⟩, by rw [e]⟩, h⟩
  exact List.mem_flatMap.mpr ⟨t, List.mem_range.mpr h1, List.mem_flatMap.mpr ⟨c, List.mem_range.mpr h2, List.mem_map.mpr ⟨i.toNat, List.mem_range.mpr (by omega), rfl⟩⟩⟩
theorem of_keys {ad : Nat → Nat → Int → Nat} {k : Nat × Nat × Int} (h : k ∈ keys ad) : dmb ad k.1 k.2.1 k.2.2 = true := (List.mem_filter.mp h).2
theorem keysI_nd : keysI.Nodup := by decide +kernel
theorem keys_nd (ad : Nat → Nat → Int → Nat) : (keys ad).Nodup := keysI_nd.filter _
def wsOf (cy : Nat → ClassId) (ad : Nat → Nat → Int → Nat) (M : Mem) : va_W := (keys ad).map fun k => (ad k.1 k.2.1 k.2.2, cel cy ad M k.1 k.2.1 k.2.2)
def owner (c k : Nat) (i : Int) : Nat × Nat × Int :=
  if c < 2 then (if k < 4 then (k + 2, c, 0) else if k = 4 then (9, c, i) else if k = 5 then (10, c, i / 10) else if k = 6 then (9, c, i) else if k < 13 then (11, c, i) else if k < 20 then (12, c, i) else (1, c, 0))
  else if c < 3 then (if k < 4 then (14 + k, 2, 0) else if k = 4 then (21, 2, i) else if k = 5 then (21, 2, i / 10) else if k = 6 then (21, 2, i) else if k < 13 then (22, 2, i) else if k < 20 then (23, 2, i) else (13, 2, 0))
  else if k < 8 then (24 + k, 2, 0) else (32, 2, 0)
theorem cel_indep_0 {cy : Nat → ClassId} {ad : Nat → Nat → Int → Nat} {M M1 : Mem} {c : Nat} {i : Int} (hd : dmb ad 0 c i = true) (h : ∀ (c1 k1 : Nat) (i1 : Int), owner c1 k1 i1 = (0, c, i) → M1 c1 k1 i1 = M c1 k1 i1) : cel cy ad M1 0 c i = cel cy ad M 0 c i := by
  simp only [cel]
theorem cel_indep_1 {cy : Nat → ClassId} {ad : Nat → Nat → Int → Nat} {M M1 : Mem} {c : Nat} {i : Int} (hd : dmb ad 1 c i = true) (h : ∀ (c1 k1 : Nat) (i1 : Int), owner c1 k1 i1 = (1, c, i) → M1 c1 k1 i1 = M c1 k1 i1) : cel cy ad M1 1 c i = cel cy ad M 1 c i := by
  have hc : c < 2 := by simp [dmb] at hd; omega
  have hi : i = 0 := by simp [dmb] at hd; omega
  subst hi
  simp only [cel]
  rw [h c 20 1 (by simp [owner, hc]), h c 20 2 (by simp [owner, hc]), h c 20 3 (by simp [owner, hc]), h c 20 0 (by simp [owner, hc]), h c 20 4 (by simp [owner, hc]), h c 20 5 (by simp [owner, hc])]
theorem cel_indep_2 {cy : Nat → ClassId} {ad : Nat → Nat → Int → Nat} {M M1 : Mem} {c : Nat} {i : Int} (hd : dmb ad 2 c i = true) (h : ∀ (c1 k1 : Nat) (i1 : Int), owner c1 k1 i1 = (2, c, i) → M1 c1 k1 i1 = M c1 k1 i1) : cel cy ad M1 2 c i = cel cy ad M 2 c i := by
  have hc : c < 2 := by simp [dmb] at hd; omega
  have hi : i = 0 := by simp [dmb] at hd; omega
  subst hi
  simp only [cel]
  congr 4
  funext j
  rw [h c 0 j (by simp [owner, hc])]
theorem cel_indep_3 {cy : Nat → ClassId} {ad : Nat → Nat → Int → Nat} {M M1 : Mem} {c : Nat} {i : Int} (hd : dmb ad 3 c i = true) (h : ∀ (c1 k1 : Nat) (i1 : Int), owner c1 k1 i1 = (3, c, i) → M1 c1 k1 i1 = M c1 k1 i1) : cel cy ad M1 3 c i = cel cy ad M 3 c i := by
  have hc : c < 2 := by simp [dmb] at hd; omega
  have hi : i = 0 := by simp [dmb] at hd; omega
  subst hi
  simp only [cel]
  congr 4
  funext j
  rw [h c 1 j (by simp [owner, hc])]
theorem cel_indep_4 {cy : Nat → ClassId} {ad : Nat → Nat → Int → Nat} {M M1 : Mem} {c : Nat} {i : Int} (hd : dmb ad 4 c i = true) (h : ∀ (c1 k1 : Nat) (i1 : Int), owner c1 k1 i1 = (4, c, i) → M1 c1 k1 i1 = M c1 k1 i1) : cel cy ad M1 4 c i = cel cy ad M 4 c i := by
  have hc : c < 2 := by simp [dmb] at hd; omega
  have hi : i = 0 := by simp [dmb] at hd; omega
  subst hi
  simp only [cel]
  congr 4
  funext j
  rw [h c 2 j (by simp [owner, hc])]
theorem cel_indep_5 {cy : Nat → ClassId} {ad : Nat → Nat → Int → Nat} {M M1 : Mem} {c : Nat} {i : Int} (hd : dmb ad 5 c i = true) (h : ∀ (c1 k1 : Nat) (i1 : Int), owner c1 k1 i1 = (5, c, i) → M1 c1 k1 i1 = M c1 k1 i1) : cel cy ad M1 5 c i = cel cy ad M 5 c i := by
  have hc : c < 2 := by simp [dmb] at hd; omega
  have hi : i = 0 := by simp [dmb] at hd; omega
  subst hi
  simp only [cel]
  congr 4
  funext j
  rw [h c 3 j (by simp [owner, hc])]
theorem cel_indep_6 {cy : Nat → ClassId} {ad : Nat → Nat → Int → Nat} {M M1 : Mem} {c : Nat} {i : Int} (hd : dmb ad 6 c i = true) (h : ∀ (c1 k1 : Nat) (i1 : Int), owner c1 k1 i1 = (6, c, i) → M1 c1 k1 i1 = M c1 k1 i1) : cel cy ad M1 6 c i = cel cy ad M 6 c i := by
  simp only [cel]
theorem cel_indep_7 {cy : Nat → ClassId} {ad : Nat → Nat → Int → Nat} {M M1 : Mem} {c : Nat} {i : Int} (hd : dmb ad 7 c i = true) (h : ∀ (c1 k1 : Nat) (i1 : Int), owner c1 k1 i1 = (7, c, i) → M1 c1 k1 i1 = M c1 k1 i1) : cel cy ad M1 7 c i = cel cy ad M 7 c i := by
  simp only [cel]
theorem cel_indep_8 {cy : Nat → ClassId} {ad : Nat → Nat → Int → Nat} {M M1 : Mem} {c : Nat} {i : Int} (hd : dmb ad 8 c i = true) (h : ∀ (c1 k1 : Nat) (i1 : Int), owner c1 k1 i1 = (8, c, i) → M1 c1 k1 i1 = M c1 k1 i1) : cel cy ad M1 8 c i = cel cy ad M 8 c i := by
  simp only [cel]
theorem cel_indep_9 {cy : Nat → ClassId} {ad : Nat → Nat → Int → Nat} {M M1 : Mem} {c : Nat} {i : Int} (hd : dmb ad 9 c i = true) (h : ∀ (c1 k1 : Nat) (i1 : Int), owner c1 k1 i1 = (9, c, i) → M1 c1 k1 i1 = M c1 k1 i1) : cel cy ad M1 9 c i = cel cy ad M 9 c i := by
  have hc : c < 2 := by simp [dmb] at hd; omega
  simp only [cel]
  rw [h c 4 i (by simp [owner, hc]), h c 6 i (by simp [owner, hc])]
theorem cel_indep_10 {cy : Nat → ClassId} {ad : Nat → Nat → Int → Nat} {M M1 : Mem} {c : Nat} {i : Int} (hd : dmb ad 10 c i = true) (h : ∀ (c1 k1 : Nat) (i1 : Int), owner c1 k1 i1 = (10, c, i) → M1 c1 k1 i1 = M c1 k1 i1) : cel cy ad M1 10 c i = cel cy ad M 10 c i := by
  have hc : c < 2 := by simp [dmb] at hd; omega
  simp only [cel]
  congr 4
  funext j
  by_cases hj : j < 10
  · rw [if_pos hj, if_pos hj, h c 5 (10 * i + j) (by simp [owner, hc]; omega)]
  · rw [if_neg hj, if_neg hj]
theorem cel_indep_11 {cy : Nat → ClassId} {ad : Nat → Nat → Int → Nat} {M M1 : Mem} {c : Nat} {i : Int} (hd : dmb ad 11 c i = true) (h : ∀ (c1 k1 : Nat) (i1 : Int), owner c1 k1 i1 = (11, c, i) → M1 c1 k1 i1 = M c1 k1 i1) : cel cy ad M1 11 c i = cel cy ad M 11 c i := by
  have hc : c < 2 := by simp [dmb] at hd; omega
  simp only [cel]
  rw [h c 7 i (by simp [owner, hc]), h c 8 i (by simp [owner, hc]), h c 9 i (by simp [owner, hc]), h c 10 i (by simp [owner, hc]), h c 11 i (by simp [owner, hc]), h c 12 i (by simp [owner, hc])]
theorem cel_indep_12 {cy : Nat → ClassId} {ad : Nat → Nat → Int → Nat} {M M1 : Mem} {c : Nat} {i : Int} (hd : dmb ad 12 c i = true) (h : ∀ (c1 k1 : Nat) (i1 : Int), owner c1 k1 i1 = (12, c, i) → M1 c1 k1 i1 = M c1 k1 i1) : cel cy ad M1 12 c i = cel cy ad M 12 c i := by
  have hc : c < 2 := by simp [dmb] at hd; omega
  simp only [cel]
  rw [h c 13 i (by simp [owner, hc]), h c 14 i (by simp [owner, hc]), h c 15 i (by simp [owner, hc]), h c 16 i (by simp [owner, hc]), h c 17 i (by simp [owner, hc]), h c 18 i (by simp [owner, hc]), h c 19 i (by simp [owner, hc])]
theorem cel_indep_13 {cy : Nat → ClassId} {ad : Nat → Nat → Int → Nat} {M M1 : Mem} {c : Nat} {i : Int} (hd : dmb ad 13 c i = true) (h : ∀ (c1 k1 : Nat) (i1 : Int), owner c1 k1 i1 = (13, c, i) → M1 c1 k1 i1 = M c1 k1 i1) : cel cy ad M1 13 c i = cel cy ad M 13 c i := by
  have hc : c = 2 := by simp [dmb] at hd; omega
  have hi : i = 0 := by simp [dmb] at hd; omega
  subst hc; subst hi
  simp only [cel]
  rw [h 2 20 0 rfl, h 2 20 4 rfl, h 2 20 5 rfl]
theorem cel_indep_14 {cy : Nat → ClassId} {ad : Nat → Nat → Int → Nat} {M M1 : Mem} {c : Nat} {i : Int} (hd : dmb ad 14 c i = true) (h : ∀ (c1 k1 : Nat) (i1 : Int), owner c1 k1 i1 = (14, c, i) → M1 c1 k1 i1 = M c1 k1 i1) : cel cy ad M1 14 c i = cel cy ad M 14 c i := by
  have hc : c = 2 := by simp [dmb] at hd; omega
  have hi : i = 0 := by simp [dmb] at hd; omega
  subst hc; subst hi
  simp only [cel]
  congr 4
  funext j
  rw [h 2 0 j rfl]
theorem cel_indep_15 {cy : Nat → ClassId} {ad : Nat → Nat → Int → Nat} {M M1 : Mem} {c : Nat} {i : Int} (hd : dmb ad 15 c i = true) (h : ∀ (c1 k1 : Nat) (i1 : Int), owner c1 k1 i1 = (15, c, i) → M1 c1 k1 i1 = M c1 k1 i1) : cel cy ad M1 15 c i = cel cy ad M 15 c i := by
  have hc : c = 2 := by simp [dmb] at hd; omega
  have hi : i = 0 := by simp [dmb] at hd; omega
  subst hc; subst hi
  simp only [cel]
  congr 4
  funext j
  rw [h 2 1 j rfl]
theorem cel_indep_16 {cy : Nat → ClassId} {ad : Nat → Nat → Int → Nat} {M M1 : Mem} {c : Nat} {i : Int} (hd : dmb ad 16 c i = true) (h : ∀ (c1 k1 : Nat) (i1 : Int), owner c1 k1 i1 = (16, c, i) → M1 c1 k1 i1 = M c1 k1 i1) : cel cy ad M1 16 c i = cel cy ad M 16 c i := by
  have hc : c = 2 := by simp [dmb] at hd; omega
  have hi : i = 0 := by simp [dmb] at hd; omega
  subst hc; subst hi
  simp only [cel]
  congr 4
  funext j
  rw [h 2 2 j rfl]
theorem cel_indep_17 {cy : Nat → ClassId} {ad : Nat → Nat → Int → Nat} {M M1 : Mem} {c : Nat} {i : Int} (hd : dmb ad 17 c i = true) (h : ∀ (c1 k1 : Nat) (i1 : Int), owner c1 k1 i1 = (17, c, i) → M1 c1 k1 i1 = M c1 k1 i1) : cel cy ad M1 17 c i = cel cy ad M 17 c i := by
  have hc : c = 2 := by simp [dmb] at hd; omega
  have hi : i = 0 := by simp [dmb] at hd; omega
  subst hc; subst hi
  simp only [cel]
  congr 4
  funext j
  rw [h 2 3 j rfl]
theorem cel_indep_18 {cy : Nat → ClassId} {ad : Nat → Nat → Int → Nat} {M M1 : Mem} {c : Nat} {i : Int} (hd : dmb ad 18 c i = true) (h : ∀ (c1 k1 : Nat) (i1 : Int), owner c1 k1 i1 = (18, c, i) → M1 c1 k1 i1 = M c1 k1 i1) : cel cy ad M1 18 c i = cel cy ad M 18 c i := by
  have hc : c = 2 := by simp [dmb] at hd; omega
  have hi : i = 0 := by simp [dmb] at hd; omega
  subst hc; subst hi
  simp only [cel]
theorem cel_indep_19 {cy : Nat → ClassId} {ad : Nat → Nat → Int → Nat} {M M1 : Mem} {c : Nat} {i : Int} (hd : dmb ad 19 c i = true) (h : ∀ (c1 k1 : Nat) (i1 : Int), owner c1 k1 i1 = (19, c, i) → M1 c1 k1 i1 = M c1 k1 i1) : cel cy ad M1 19 c i = cel cy ad M 19 c i := by
  have hc : c = 2 := by simp [dmb] at hd; omega
  have hi : i = 0 := by simp [dmb] at hd; omega
  subst hc; subst hi
  simp only [cel]
theorem cel_indep_20 {cy : Nat → ClassId} {ad : Nat → Nat → Int → Nat} {M M1 : Mem} {c : Nat} {i : Int} (hd : dmb ad 20 c i = true) (h : ∀ (c1 k1 : Nat) (i1 : Int), owner c1 k1 i1 = (20, c, i) → M1 c1 k1 i1 = M c1 k1 i1) : cel cy ad M1 20 c i = cel cy ad M 20 c i := by
  have hc : c = 2 := by simp [dmb] at hd; omega
  have hi : i = 0 := by simp [dmb] at hd; omega
  subst hc; subst hi
  simp only [cel]
theorem cel_indep_21 {cy : Nat → ClassId} {ad : Nat → Nat → Int → Nat} {M M1 : Mem} {c : Nat} {i : Int} (hd : dmb ad 21 c i = true) (h : ∀ (c1 k1 : Nat) (i1 : Int), owner c1 k1 i1 = (21, c, i) → M1 c1 k1 i1 = M c1 k1 i1) : cel cy ad M1 21 c i = cel cy ad M 21 c i := by
  have hc : c = 2 := by simp [dmb] at hd; omega
  subst hc
  simp only [cel]
  congr 4
  funext j
  unfold lanV
  by_cases h0 : j = 0
  · rw [if_pos h0, if_pos h0, h 2 4 i rfl]
  · rw [if_neg h0, if_neg h0]
    by_cases h1 : j < 11
    · rw [if_pos h1, if_pos h1, h 2 5 (10 * i + ((j : Int) - 1)) (by show (21, 2, (10 * i + ((j : Int) - 1)) / 10) = _; rw [show (10 * i + ((j : Int) - 1)) / 10 = i by omega])]
    · rw [if_neg h1, if_neg h1, h 2 6 i rfl]
theorem cel_indep_22 {cy : Nat → ClassId} {ad : Nat → Nat → Int → Nat} {M M1 : Mem} {c : Nat} {i : Int} (hd : dmb ad 22 c i = true) (h : ∀ (c1 k1 : Nat) (i1 : Int), owner c1 k1 i1 = (22, c, i) → M1 c1 k1 i1 = M c1 k1 i1) : cel cy ad M1 22 c i = cel cy ad M 22 c i := by
  have hc : c = 2 := by simp [dmb] at hd; omega
  subst hc
  simp only [cel]
  congr 4
  funext j
  unfold watV
  by_cases h0 : j < 6
  · rw [if_pos h0, if_pos h0, h 2 (7 + j) i (by unfold owner; rw [if_neg (by decide), if_pos (by decide), if_neg (by omega), if_neg (by omega), if_neg (by omega), if_neg (by omega), if_pos (by omega)])]
  · rw [if_neg h0, if_neg h0]
theorem cel_indep_23 {cy : Nat → ClassId} {ad : Nat → Nat → Int → Nat} {M M1 : Mem} {c : Nat} {i : Int} (hd : dmb ad 23 c i = true) (h : ∀ (c1 k1 : Nat) (i1 : Int), owner c1 k1 i1 = (23, c, i) → M1 c1 k1 i1 = M c1 k1 i1) : cel cy ad M1 23 c i = cel cy ad M 23 c i := by
  have hc : c = 2 := by simp [dmb] at hd; omega
  subst hc
  simp only [cel]
  congr 4
  funext j
  unfold boaV
  by_cases h0 : j < 7
  · rw [if_pos h0, if_pos h0]
    have hb : 13 ≤ bk j ∧ bk j < 20 := by unfold bk; split <;> omega
    rw [h 2 (bk j) i (by unfold owner; rw [if_neg (by decide), if_pos (by decide), if_neg (by omega), if_neg (by omega), if_neg (by omega), if_neg (by omega), if_neg (by omega), if_pos (by omega)])]
  · rw [if_neg h0, if_neg h0]
theorem cel_indep_24 {cy : Nat → ClassId} {ad : Nat → Nat → Int → Nat} {M M1 : Mem} {c : Nat} {i : Int} (hd : dmb ad 24 c i = true) (h : ∀ (c1 k1 : Nat) (i1 : Int), owner c1 k1 i1 = (24, c, i) → M1 c1 k1 i1 = M c1 k1 i1) : cel cy ad M1 24 c i = cel cy ad M 24 c i := by
  have hc : c = 2 := by simp [dmb] at hd; omega
  have hi : i = 0 := by simp [dmb] at hd; omega
  subst hc; subst hi
  simp only [cel]
  congr 4
  funext j
  rw [h 4 0 j rfl]
theorem cel_indep_25 {cy : Nat → ClassId} {ad : Nat → Nat → Int → Nat} {M M1 : Mem} {c : Nat} {i : Int} (hd : dmb ad 25 c i = true) (h : ∀ (c1 k1 : Nat) (i1 : Int), owner c1 k1 i1 = (25, c, i) → M1 c1 k1 i1 = M c1 k1 i1) : cel cy ad M1 25 c i = cel cy ad M 25 c i := by
  have hc : c = 2 := by simp [dmb] at hd; omega
  have hi : i = 0 := by simp [dmb] at hd; omega
  subst hc; subst hi
  simp only [cel]
  congr 4
  funext j
  rw [h 4 1 j rfl]
theorem cel_indep_26 {cy : Nat → ClassId} {ad : Nat → Nat → Int → Nat} {M M1 : Mem} {c : Nat} {i : Int} (hd : dmb ad 26 c i = true) (h : ∀ (c1 k1 : Nat) (i1 : Int), owner c1 k1 i1 = (26, c, i) → M1 c1 k1 i1 = M c1 k1 i1) : cel cy ad M1 26 c i = cel cy ad M 26 c i := by
  have hc : c = 2 := by simp [dmb] at hd; omega
  have hi : i = 0 := by simp [dmb] at hd; omega
  subst hc; subst hi
  simp only [cel]
  congr 4
  funext j
  rw [h 4 2 j rfl]
theorem cel_indep_27 {cy : Nat → ClassId} {ad : Nat → Nat → Int → Nat} {M M1 : Mem} {c : Nat} {i : Int} (hd : dmb ad 27 c i = true) (h : ∀ (c1 k1 : Nat) (i1 : Int), owner c1 k1 i1 = (27, c, i) → M1 c1 k1 i1 = M c1 k1 i1) : cel cy ad M1 27 c i = cel cy ad M 27 c i := by
  have hc : c = 2 := by simp [dmb] at hd; omega
  have hi : i = 0 := by simp [dmb] at hd; omega
  subst hc; subst hi
  simp only [cel]
  congr 4
  funext j
  rw [h 4 3 j rfl]
theorem cel_indep_28 {cy : Nat → ClassId} {ad : Nat → Nat → Int → Nat} {M M1 : Mem} {c : Nat} {i : Int} (hd : dmb ad 28 c i = true) (h : ∀ (c1 k1 : Nat) (i1 : Int), owner c1 k1 i1 = (28, c, i) → M1 c1 k1 i1 = M c1 k1 i1) : cel cy ad M1 28 c i = cel cy ad M 28 c i := by
  have hc : c = 2 := by simp [dmb] at hd; omega
  have hi : i = 0 := by simp [dmb] at hd; omega
  subst hc; subst hi
  simp only [cel]
  congr 4
  funext j
  rw [h 4 4 j rfl]
theorem cel_indep_29 {cy : Nat → ClassId} {ad : Nat → Nat → Int → Nat} {M M1 : Mem} {c : Nat} {i : Int} (hd : dmb ad 29 c i = true) (h : ∀ (c1 k1 : Nat) (i1 : Int), owner c1 k1 i1 = (29, c, i) → M1 c1 k1 i1 = M c1 k1 i1) : cel cy ad M1 29 c i = cel cy ad M 29 c i := by
  have hc : c = 2 := by simp [dmb] at hd; omega
  have hi : i = 0 := by simp [dmb] at hd; omega
  subst hc; subst hi
  simp only [cel]
  congr 4
  funext j
  rw [h 4 5 j rfl]
theorem cel_indep_30 {cy : Nat → ClassId} {ad : Nat → Nat → Int → Nat} {M M1 : Mem} {c : Nat} {i : Int} (hd : dmb ad 30 c i = true) (h : ∀ (c1 k1 : Nat) (i1 : Int), owner c1 k1 i1 = (30, c, i) → M1 c1 k1 i1 = M c1 k1 i1) : cel cy ad M1 30 c i = cel cy ad M 30 c i := by
  have hc : c = 2 := by simp [dmb] at hd; omega
  have hi : i = 0 := by simp [dmb] at hd; omega
  subst hc; subst hi
  simp only [cel]
  congr 4
  funext j
  rw [h 4 6 j rfl]
theorem cel_indep_31 {cy : Nat → ClassId} {ad : Nat → Nat → Int → Nat} {M M1 : Mem} {c : Nat} {i : Int} (hd : dmb ad 31 c i = true) (h : ∀ (c1 k1 : Nat) (i1 : Int), owner c1 k1 i1 = (31, c, i) → M1 c1 k1 i1 = M c1 k1 i1) : cel cy ad M1 31 c i = cel cy ad M 31 c i := by
  have hc : c = 2 := by simp [dmb] at hd; omega
  have hi : i = 0 := by simp [dmb] at hd; omega
  subst hc; subst hi
  simp only [cel]
  congr 4
  funext j
  rw [h 4 7 j rfl]
theorem cel_indep_32 {cy : Nat → ClassId} {ad : Nat → Nat → Int → Nat} {M M1 : Mem} {c : Nat} {i : Int} (hd : dmb ad 32 c i = true) (h : ∀ (c1 k1 : Nat) (i1 : Int), owner c1 k1 i1 = (32, c, i) → M1 c1 k1 i1 = M c1 k1 i1) : cel cy ad M1 32 c i = cel cy ad M 32 c i := by
  have hc : c = 2 := by simp [dmb] at hd; omega
  have hi : i = 0 := by simp [dmb] at hd; omega
  subst hc; subst hi
  simp only [cel]
  congr 7
  funext j
  unfold outF
  rw [h 4 20 0 rfl, h 4 20 1 rfl]
theorem cel_indep {cy : Nat → ClassId} {ad : Nat → Nat → Int → Nat} {M M1 : Mem} {t c : Nat} {i : Int} (hd : dmb ad t c i = true) (h : ∀ (c1 k1 : Nat) (i1 : Int), owner c1 k1 i1 = (t, c, i) → M1 c1 k1 i1 = M c1 k1 i1) : cel cy ad M1 t c i = cel cy ad M t c i := by
  have ht := (dm_bd hd).1
  have : t = 0 ∨ t = 1 ∨ t = 2 ∨ t = 3 ∨ t = 4 ∨ t = 5 ∨ t = 6 ∨ t = 7 ∨ t = 8 ∨ t = 9 ∨ t = 10 ∨ t = 11 ∨ t = 12 ∨ t = 13 ∨ t = 14 ∨ t = 15 ∨ t = 16 ∨ t = 17 ∨ t = 18 ∨ t = 19 ∨ t = 20 ∨ t = 21 ∨ t = 22 ∨ t = 23 ∨ t = 24 ∨ t = 25 ∨ t = 26 ∨ t = 27 ∨ t = 28 ∨ t = 29 ∨ t = 30 ∨ t = 31 ∨ t = 32 := by omega
  rcases this with rfl | rfl | rfl | rfl | rfl | rfl | rfl | rfl | rfl | rfl | rfl | rfl | rfl | rfl | rfl | rfl | rfl | rfl | rfl | rfl | rfl | rfl | rfl | rfl | rfl | rfl | rfl | rfl | rfl | rfl | rfl | rfl | rfl
  · exact cel_indep_0 hd h
  · exact cel_indep_1 hd h
  · exact cel_indep_2 hd h
  · exact cel_indep_3 hd h
  · exact cel_indep_4 hd h
  · exact cel_indep_5 hd h
  · exact cel_indep_6 hd h
  · exact cel_indep_7 hd h
  · exact cel_indep_8 hd h
  · exact cel_indep_9 hd h
  · exact cel_indep_10 hd h
  · exact cel_indep_11 hd h
  · exact cel_indep_12 hd h
  · exact cel_indep_13 hd h
  · exact cel_indep_14 hd h
  · exact cel_indep_15 hd h
  · exact cel_indep_16 hd h
  · exact cel_indep_17 hd h
  · exact cel_indep_18 hd h
  · exact cel_indep_19 hd h
  · exact cel_indep_20 hd h
  · exact cel_indep_21 hd h
  · exact cel_indep_22 hd h
  · exact cel_indep_23 hd h
  · exact cel_indep_24 hd h
  · exact cel_indep_25 hd h
  · exact cel_indep_26 hd h
  · exact cel_indep_27 hd h
  · exact cel_indep_28 hd h
  · exact cel_indep_29 hd h
  · exact cel_indep_30 hd h
  · exact cel_indep_31 hd h
  · exact cel_indep_32 hd h
theorem ws_at {cy : Nat → ClassId} {ad : Nat → Nat → Int → Nat} (M : Mem) {t c : Nat} {i : Int} (h : dmb ad t c i = true) : ∃ q0 : Nat, (keys ad)[q0]? = some (t, c, i) ∧ (wsOf cy ad M)[q0]? = some (ad t c i, cel cy ad M t c i) := by
  obtain ⟨q0, hq⟩ := List.getElem?_of_mem (mem_keys h)
  exact ⟨q0, hq, by unfold wsOf; rw [List.getElem?_map, hq]; rfl⟩
theorem map_set_nd {α β : Type} {f g : α → β} : ∀ {l : List α}, l.Nodup → ∀ {j : Nat} {a : α}, l[j]? = some a → (∀ b ∈ l, b ≠ a → g b = f b) → (l.map f).set j (g a) = l.map g
  | [], _, j, a, h, _ => by simp at h
  | x :: l, hn, j, a, h, hf => by
    have hn2 := List.nodup_cons.mp hn
    cases j with
    | zero =>
      rw [List.getElem?_cons_zero] at h
      cases h
      simp only [List.map_cons, List.set_cons_zero]
      congr 1
      exact List.map_congr_left fun b hb => (hf b (List.mem_cons_of_mem _ hb) (fun e => hn2.1 (e ▸ hb))).symm
    | succ j =>
      rw [List.getElem?_cons_succ] at h
      have hne : x ≠ a := fun e => hn2.1 (e ▸ List.mem_of_getElem? h)
      simp only [List.map_cons, List.set_cons_succ]
      rw [map_set_nd hn2.2 h (fun b hb hne => hf b (List.mem_cons_of_mem _ hb) hne), hf x List.mem_cons_self hne]
/-- a store: the world of the new memory is the old one with one cell set -/
theorem ws_set {cy : Nat → ClassId} {ad : Nat → Nat → Int → Nat} {M M1 : Mem} {t c : Nat} {i : Int} {q0 : Nat} {e : va_E} (hq : (keys ad)[q0]? = some (t, c, i)) (he : cel cy ad M1 t c i = e)
    (h : ∀ (c1 k1 : Nat) (i1 : Int), owner c1 k1 i1 ≠ (t, c, i) → M1 c1 k1 i1 = M c1 k1 i1) : (wsOf cy ad M).set q0 (ad t c i, e) = wsOf cy ad M1 := by
  subst he
  refine map_set_nd (f := fun k : Nat × Nat × Int => (ad k.1 k.2.1 k.2.2, cel cy ad M k.1 k.2.1 k.2.2)) (g := fun k : Nat × Nat × Int => (ad k.1 k.2.1 k.2.2, cel cy ad M1 k.1 k.2.1 k.2.2)) (keys_nd ad) (a := (t, c, i)) hq fun b hb hne => ?_
  obtain ⟨t2, c2, i2⟩ := b
  show (_, _) = (_, _)
  rw [cel_indep (of_keys hb) fun c1 k1 i1 ho => h c1 k1 i1 (fun e => hne (by rw [← ho, e]))]
/-- memories that agree where cells are have one world -/
theorem ws_congr {cy : Nat → ClassId} {ad : Nat → Nat → Int → Nat} {M M1 : Mem} (h : ∀ (c1 k1 : Nat) (i1 : Int), owner c1 k1 i1 ∈ keys ad → M1 c1 k1 i1 = M c1 k1 i1) : wsOf cy ad M1 = wsOf cy ad M := by
  unfold wsOf
  refine List.map_congr_left fun b hb => ?_
  obtain ⟨t2, c2, i2⟩ := b
  show (_, _) = (_, _)
  rw [cel_indep (of_keys hb) fun c1 k1 i1 ho => h c1 k1 i1 (by rw [ho]; exact hb)]
def Inj (ad : Nat → Nat → Int → Nat) : Prop := ∀ (t c : Nat) (i : Int) (t' c' : Nat) (i' : Int), dmb ad t c i = true → dmb ad t' c' i' = true → ad t c i = ad t' c' i' → (t, c, i) = (t', c', i')
theorem nd_inj {α : Type} : ∀ {l : List α}, l.Nodup → ∀ {i j : Nat} {a : α}, l[i]? = some a → l[j]? = some a → i = j
  | [], _, i, j, a, h, _ => by simp at h
  | x :: l, hn, i, j, a, h1, h2 => by
    have hn2 := List.nodup_cons.mp hn
    match i, j, h1, h2 with
    | 0, 0, _, _ => rfl
    | 0, j + 1, h1, h2 =>
      rw [List.getElem?_cons_zero] at h1
      rw [List.getElem?_cons_succ] at h2
      cases h1
      exact absurd (List.mem_of_getElem? h2) hn2.1
    | i + 1, 0, h1, h2 =>
      rw [List.getElem?_cons_zero] at h2
      rw [List.getElem?_cons_succ] at h1
      cases h2
      exact absurd (List.mem_of_getElem? h1) hn2.1
    | i + 1, j + 1, h1, h2 =>
      rw [List.getElem?_cons_succ] at h1 h2
      rw [nd_inj hn2.2 h1 h2]
theorem wsD {cy : Nat → ClassId} {ad : Nat → Nat → Int → Nat} {A : Nat → Prop} (hI : Inj ad) (hA : ∀ (t c : Nat) (i : Int), dmb ad t c i = true → A (ad t c i)) (M : Mem) : va_D A (wsOf cy ad M) := by
  have key : ∀ (k : Nat) (q : Nat × va_E), (wsOf cy ad M)[k]? = some q → ∃ t c i, (keys ad)[k]? = some (t, c, i) ∧ q.1 = ad t c i ∧ dmb ad t c i = true := by
    intro k q h
    unfold wsOf at h
    rw [List.getElem?_map] at h
    cases hk : (keys ad)[k]? with
    | none => rw [hk] at h; cases h
    | some b =>
      rw [hk] at h
      obtain ⟨t, c, i⟩ := b
      cases h
      exact ⟨t, c, i, rfl, rfl, of_keys (List.mem_of_getElem? hk)⟩
  refine ⟨fun i j p q hi hj hpq => ?_, fun k q hk => ?_⟩
  · obtain ⟨t, c, x, h1, h2, h3⟩ := key i p hi
    obtain ⟨t', c', x', g1, g2, g3⟩ := key j q hj
    have e := hI t c x t' c' x' h3 g3 (by rw [← h2, ← g2, hpq])
    rw [← e] at g1
    exact nd_inj (keys_nd ad) h1 g1
  · obtain ⟨t, c, x, h1, h2, h3⟩ := key k q hk
    rw [h2]
    exact hA t c x h3
/-- the array classes -/
abbrev tyl (cy : Nat → ClassId) : List (ClassId × FieldType) := [(cy 0, .int), (cy 1, .array .int), (cy 2, .object "CoveSignals$Lantern"), (cy 3, .object "CoveSignals$Watchman"), (cy 4, .object "CoveSignals$Boat")]
end
section
/-! The walk's judgement V: at a pc, over every heap that holds the world of a memory, with these locals and this stack. -/
theorem i32_add (a b : Int) : i32 a + i32 b = i32 (a + b) := (Int32.ofInt_add a b).symm
theorem i32_sub (a b : Int) : i32 a - i32 b = i32 (a - b) := (Int32.ofInt_sub a b).symm
theorem i32_mul (a b : Int) : i32 a * i32 b = i32 (a * b) := (Int32.ofInt_mul a b).symm
theorem i32_neg (a : Int) : -i32 a = i32 (-a) := (Int32.ofInt_neg a).symm
def ir (a : Int) : Prop := -2147483648 ≤ a ∧ a < 2147483648
theorem ir_of {a : Int} (h1 : -2147483648 ≤ a) (h2 : a < 2147483648) : ir a := ⟨h1, h2⟩
theorem i32_T {a : Int} (h : ir a) : (i32 a).toInt = a := Int32.toInt_ofInt_of_le (by have := h.1; omega) (by have := h.2; omega)
theorem i32_lt {a b : Int} (ha : ir a) (hb : ir b) : i32 a < i32 b ↔ a < b := by rw [Int32.lt_iff_toInt_lt, i32_T ha, i32_T hb]
theorem i32_le {a b : Int} (ha : ir a) (hb : ir b) : i32 a ≤ i32 b ↔ a ≤ b := by rw [Int32.le_iff_toInt_le, i32_T ha, i32_T hb]
theorem i32_eq {a b : Int} (ha : ir a) (hb : ir b) : i32 a = i32 b ↔ a = b := by rw [← Int32.toInt_inj, i32_T ha, i32_T hb]
theorem i32_0 : i32 0 = 0 := rfl
theorem i32_eq0 {a : Int} (ha : ir a) : i32 a = 0 ↔ a = 0 := i32_eq ha (b := 0) ⟨by decide, by decide⟩
theorem i32_lt0 {a : Int} (ha : ir a) : i32 a < 0 ↔ a < 0 := i32_lt ha (b := 0) ⟨by decide, by decide⟩
theorem i32_le0 {a : Int} (ha : ir a) : i32 a ≤ 0 ↔ a ≤ 0 := i32_le ha (b := 0) ⟨by decide, by decide⟩
theorem i32_of (x : Int32) : i32 x.toInt = x := Int32.ofInt_toInt x
theorem ir_toInt (x : Int32) : ir x.toInt := ⟨by have := Int32.le_toInt x; omega, by have := Int32.toInt_lt x; omega⟩
theorem i32_div {a b : Int} (h1 : 0 ≤ a) (h2 : a < 2147483648) (h3 : 0 < b) (h4 : b < 2147483648) : i32 a / i32 b = i32 (a / b) := by
  have hb1 : i32 b ≠ -1 := fun h => by
    have := congrArg Int32.toInt h
    rw [i32_T ⟨by omega, by omega⟩] at this
    have h5 : (-1 : Int32).toInt = -1 := by decide
    omega
  have h6 : 0 ≤ a / b := Int.ediv_nonneg h1 (by omega)
  have h7 : a / b ≤ a := Int.ediv_le_self b h1
  rw [← Int32.toInt_inj, Int32.toInt_div_of_ne_right _ _ hb1, i32_T ⟨by omega, by omega⟩, i32_T ⟨by omega, by omega⟩, i32_T ⟨by omega, by omega⟩, Int.tdiv_eq_ediv_of_nonneg h1]
theorem i32_mod {a b : Int} (h1 : 0 ≤ a) (h2 : a < 2147483648) (h3 : 0 < b) (h4 : b < 2147483648) : i32 a % i32 b = i32 (a % b) := by
  have h6 : 0 ≤ a % b := Int.emod_nonneg a (by omega)
  have h7 : a % b < b := Int.emod_lt_of_pos a h3
  rw [← Int32.toInt_inj, Int32.toInt_mod, i32_T ⟨by omega, by omega⟩, i32_T ⟨by omega, by omega⟩, i32_T ⟨by omega, by omega⟩, Int.tmod_eq_emod_of_nonneg h1]
theorem i32_in {a : Int} {n : Nat} (h1 : 0 ≤ a) (h2 : a < n) (hn : n < 2147483648) : vp_in (i32 a) n := vp_in_iff.mpr (by rw [i32_T ⟨by omega, by omega⟩]; omega)
theorem i32_cl {a : Int} (h1 : 0 ≤ a) (h2 : a < 2147483648) : (i32 a).toNatClampNeg = a.toNat := by
  show (i32 a).toInt.toNat = _
  rw [i32_T ⟨by omega, by omega⟩]
theorem i32_clI {a : Int} (h1 : 0 ≤ a) (h2 : a < 2147483648) : (((i32 a).toNatClampNeg : Nat) : Int) = a := by
  rw [i32_cl h1 h2]; omega
def bi (b : Bool) : Int := if b then 1 else 0
theorem bi_ir (b : Bool) : ir (bi b) := by cases b <;> exact ⟨by decide, by decide⟩
theorem bi_t : bi true = 1 := rfl
theorem bi_f : bi false = 0 := rfl
theorem bi_nar (b : Bool) : narrow .boolean (.int (i32 (bi b))) = .int (i32 (bi b)) := by cases b <;> rfl
/-! the tables' words that last -/
def TB : List Cond := lw_tbl.filter goodWord
theorem tb_of {w : Cond} (i : Nat) (h : lw_tbl[i]? = some w) (g : goodWord w = true) : w ∈ TB := List.mem_filter.mpr ⟨List.mem_of_getElem? h, g⟩
theorem tb_tbl {w : Cond} (h : w ∈ TB) : w ∈ lw_tbl := (List.mem_filter.mp h).1
theorem tb_good {big X : List Cond} (hb : ∀ w ∈ TB, w ∈ big) (h : ∀ w ∈ X, w ∈ TB) : GoodIn big X := fun w hw => ⟨hb w (h w hw), good_of_word (List.mem_filter.mp (h w hw)).2⟩
def isNest : Cond → Bool
  | .fieldLinkNest _ _ _ _ _ _ => true
  | .methodLinkNest _ _ _ _ => true
  | _ => false
def NwOK (U : State) : Prop := ∀ w ∈ lw_tbl, isNest w = true → va_Nw w U
theorem NwOK.warm {s U : State} (hW : s.WarmedH U.vm) (h : NwOK s) : NwOK U := by
  intro w hw hn
  have h1 := h w hw hn
  match w, hn, h1 with
  | .fieldLinkNest _ _ _ _ _ _, _, h1 => exact va_Nw.warmF hW h1
  | .methodLinkNest _ _ _ _, _, h1 => exact va_Nw.warmM hW h1
theorem NwOK.same {s U : State} (hv : s.vm = U.vm) (h : NwOK s) : NwOK U := by
  intro w hw hn
  have h1 := h w hw hn
  match w, hn, h1 with
  | .fieldLinkNest _ _ _ _ _ _, _, h1 => exact va_Nw.same rfl hv h1
  | .methodLinkNest _ _ _ _, _, h1 => exact va_Nw.same rfl hv h1
def SrOK (U : State) : Prop := ∀ (o : String) (k : Nat) (tx : String), Cond.stringRef o k tx ∈ lw_tbl → ∃ a, vk_R o k tx a U
theorem SrOK.warm {s U : State} (hW : s.WarmedH U.vm) (h : SrOK s) : SrOK U := fun o k tx hw => (h o k tx hw).imp fun _ h => vk_R.warm hW h
theorem SrOK.same {s U : State} (hv : s.vm = U.vm) (h : SrOK s) : SrOK U := fun o k tx hw => (h o k tx hw).imp fun _ h => vk_R.same hv.symm h
def AOA (U : State) : Prop := (Cond.arrayOver (.array .int)).before #[] U = true
theorem AOA.moved {u U : State} (hvm : u.vm.Alike U.vm) (h : AOA u) : AOA U := over_moved hvm h
def AOK (U : State) : Prop := va_AO "CoveSignals$Lantern" U ∧ va_AO "CoveSignals$Watchman" U ∧ va_AO "CoveSignals$Boat" U ∧ AOA U
theorem AOK.moved {u U : State} (hvm : u.vm.Alike U.vm) (h : AOK u) : AOK U := ⟨h.1.moved hvm, h.2.1.moved hvm, h.2.2.1.moved hvm, h.2.2.2.moved hvm⟩
def Kp (cy : Nat → ClassId) (D : va_G) (U : State) : Prop := va_K D vwCl (tyl cy) U ∧ NwOK U ∧ AOK U
theorem Kp.warm {cy : Nat → ClassId} {D : va_G} {s U : State} (hW : s.WarmedH U.vm) (h : Kp cy D s) : Kp cy D U := ⟨va_K.moved hW.alike h.1, NwOK.warm hW h.2.1, AOK.moved hW.alike h.2.2⟩
theorem Kp.same {cy : Nat → ClassId} {D : va_G} {s U : State} (hv : s.vm = U.vm) (h : Kp cy D s) : Kp cy D U := ⟨va_K.moved (by rw [← hv]; exact Vm.Alike.refl s.vm) h.1, NwOK.same hv h.2.1, AOK.moved (by rw [← hv]; exact Vm.Alike.refl s.vm) h.2.2⟩
/-- the locals, by place -/
def lvh (nL : Nat) (ls : Array Slot) (lv : List (Option Value)) : Prop := ls.size = nL ∧ lv_wf ls ∧ ∀ (i : Nat) (v : Value), lv[i]? = some (some v) → ls[i]? = some (.val v)
def lvl : Nat → List (Option Value) → List (Nat × Value)
  | _, [] => []
  | i, none :: t => lvl (i + 1) t
  | i, some v :: t => (i, v) :: lvl (i + 1) t
theorem lvl_of : ∀ (lv : List (Option Value)) (k i : Nat) (v : Value), lv[i]? = some (some v) → (k + i, v) ∈ lvl k lv
  | [], k, i, v, h => by simp at h
  | none :: t, k, i, v, h => by
    cases i with
    | zero => simp at h
    | succ i =>
      have := lvl_of t (k + 1) i v (by simpa using h)
      rw [show k + 1 + i = k + (i + 1) from by omega] at this
      exact this
  | some x :: t, k, i, v, h => by
    cases i with
    | zero =>
      have e : x = v := by simpa using h
      subst e
      exact List.mem_cons_self
    | succ i =>
      have := lvl_of t (k + 1) i v (by simpa using h)
      rw [show k + 1 + i = k + (i + 1) from by omega] at this
      exact List.mem_cons_of_mem _ this
theorem lvl_to : ∀ (lv : List (Option Value)) (k j : Nat) (v : Value), (j, v) ∈ lvl k lv → ∃ i, j = k + i ∧ lv[i]? = some (some v)
  | [], k, j, v, h => by simp [lvl] at h
  | none :: t, k, j, v, h => by
    obtain ⟨i, h1, h2⟩ := lvl_to t (k + 1) j v h
    exact ⟨i + 1, by omega, by simpa using h2⟩
  | some x :: t, k, j, v, h => by
    rcases List.mem_cons.mp h with h | h
    · cases h
      exact ⟨0, rfl, rfl⟩
    · obtain ⟨i, h1, h2⟩ := lvl_to t (k + 1) j v h
      exact ⟨i + 1, by omega, by simpa using h2⟩
theorem lvh.has {nL : Nat} {ls : Array Slot} {lv : List (Option Value)} (h : lvh nL ls lv) : lv_has ls nL (lvl 0 lv) := ⟨h.1, h.2.1, fun q hq => by
  obtain ⟨i, h1, h2⟩ := lvl_to lv 0 q.1 q.2 hq
  have : q.1 = i := by omega
  rw [this]
  exact h.2.2 i q.2 h2⟩
def okp (lv : List (Option Value)) : Nat → Bool
  | 0 => true
  | i + 1 => match lv[i]? with
    | some (some v) => v.category == 1
    | _ => true
theorem lvh.st1 {nL : Nat} {ls' : Array Slot} {lv lv' : List (Option Value)} {i : Nat} {v : Value} (hs : lv.set i (some v) = lv') (hp : okp lv i = true)
    (h : lv_has ls' nL ((i, v) :: (lvl 0 lv).filter (fun q => !(q.1 == i) && !(q.1 + 1 == i && q.2.category == 2)))) : lvh nL ls' lv' := by
  subst hs
  refine ⟨h.1, h.2.1, fun j w hj => ?_⟩
  by_cases e : j = i
  · subst e
    rw [List.getElem?_set] at hj
    simp only [if_true] at hj
    split at hj
    · cases hj
      exact h.2.2 (j, v) List.mem_cons_self
    · cases hj
  · rw [List.getElem?_set_ne (Ne.symm e)] at hj
    refine h.2.2 (j, w) (List.mem_cons_of_mem _ (List.mem_filter.mpr ⟨by simpa using lvl_of lv 0 j w hj, ?_⟩))
    have h1 : ¬ (j + 1 = i ∧ w.category = 2) := fun ⟨a, b⟩ => by
      subst a
      simp only [okp, hj] at hp
      have : w.category = 1 := by simpa using hp
      omega
    simp only [Bool.and_eq_true, Bool.not_eq_true', beq_eq_false_iff_ne, Bool.and_eq_false_iff]
    refine ⟨e, ?_⟩
    by_cases e2 : j + 1 = i
    · exact Or.inr (fun e3 => h1 ⟨e2, e3⟩)
    · exact Or.inl e2
theorem lvh.st2 {nL : Nat} {ls' : Array Slot} {lv lv' : List (Option Value)} {i : Nat} {v : Value} (hs : (lv.set i (some v)).set (i + 1) none = lv') (hp : okp lv i = true)
    (h : lv_has ls' nL ((i, v) :: (lvl 0 lv).filter (fun q => !(q.1 == i) && (!(q.1 == i + 1) && !(q.1 + 1 == i && q.2.category == 2))))) : lvh nL ls' lv' := by
  subst hs
  refine ⟨h.1, h.2.1, fun j w hj => ?_⟩
  by_cases e0 : j = i + 1
  · subst e0
    rw [List.getElem?_set] at hj
    simp only [if_true] at hj
    split at hj <;> cases hj
  rw [List.getElem?_set_ne (Ne.symm e0)] at hj
  by_cases e : j = i
  · subst e
    rw [List.getElem?_set] at hj
    simp only [if_true] at hj
    split at hj
    · cases hj
      exact h.2.2 (j, v) List.mem_cons_self
    · cases hj
  · rw [List.getElem?_set_ne (Ne.symm e)] at hj
    refine h.2.2 (j, w) (List.mem_cons_of_mem _ (List.mem_filter.mpr ⟨by simpa using lvl_of lv 0 j w hj, ?_⟩))
    have h1 : ¬ (j + 1 = i ∧ w.category = 2) := fun ⟨a, b⟩ => by
      subst a
      simp only [okp, hj] at hp
      have : w.category = 1 := by simpa using hp
      omega
    simp only [Bool.and_eq_true, Bool.not_eq_true', beq_eq_false_iff_ne, Bool.and_eq_false_iff]
    refine ⟨e, e0, ?_⟩
    by_cases e2 : j + 1 = i
    · exact Or.inr (fun e3 => h1 ⟨e2, e3⟩)
    · exact Or.inl e2
/-- fewer known locals -/
theorem lvh.le {nL : Nat} {ls : Array Slot} {lv lv' : List (Option Value)} (h : lvh nL ls lv) (hs : ∀ (i : Nat) (v : Value), lv'[i]? = some (some v) → lv[i]? = some (some v)) : lvh nL ls lv' := ⟨h.1, h.2.1, fun i v hi => h.2.2 i v (hs i v hi)⟩
def lve : List Value → List (Option Value)
  | [] => []
  | v :: vs => if v.category = 2 then some v :: none :: lve vs else some v :: lve vs
theorem lve_mem : ∀ (As : List Value) (k i : Nat) (v : Value), (lve As)[i]? = some (some v) → (k + i, v) ∈ lv_args k As
  | [], k, i, v, h => by simp [lve] at h
  | x :: vs, k, i, v, h => by
    unfold lve at h
    unfold lv_args
    by_cases hc : x.category = 2
    · rw [if_pos hc] at h
      rw [if_pos hc]
      match i, h with
      | 0, h => have e : x = v := by simpa using h
                subst e; exact List.mem_cons_self
      | 1, h => simp at h
      | i + 2, h =>
        have := lve_mem vs (k + 2) i v (by simpa using h)
        rw [show k + 2 + i = k + (i + 2) from by omega] at this
        exact List.mem_cons_of_mem _ this
    · rw [if_neg hc] at h
      rw [if_neg hc]
      match i, h with
      | 0, h => have e : x = v := by simpa using h
                subst e; exact List.mem_cons_self
      | i + 1, h =>
        have := lve_mem vs (k + 1) i v (by simpa using h)
        rw [show k + 1 + i = k + (i + 1) from by omega] at this
        exact List.mem_cons_of_mem _ this
/-- which cells a method may change: the world's, and new ones -/
def Aw (ad : Nat → Nat → Int → Nat) (sz : Nat) : Nat → Prop := fun q => (∃ (t c : Nat) (i : Int), dmb ad t c i = true ∧ q = ad t c i) ∨ sz ≤ q
def Fx (p : Program) (s : State) (m : MethodId) (args : Array Value) (meth : Method) (c : Code) (own : String) (cc : ByteArray) (nL : Nat) (ret : Option FieldType) (cy : Nat → ClassId) (D : va_G) (ad : Nat → Nat → Int → Nat) (A : Nat → Prop) : Prop :=
  p.tables.exec = Jvm.exec ∧ c.code = cc ∧ c.maxLocals = nL ∧ s.vm.findClass own = some m.cls ∧ meth.sig.returnType = ret ∧ meth.locks = false ∧ (∀ w ∈ TB, w.before args s = true) ∧ Kp cy D s ∧ Inj ad ∧ (∀ (t c : Nat) (i : Int), dmb ad t c i = true → A (ad t c i)) ∧ ∀ q : Nat, s.heap.size ≤ q → A q
def V (p : Program) (l : Launch) (e : Env) (R : Room) (s : State) (m : MethodId) (args : Array Value) (below : List Frame) (meth : Method) (c : Code) (nL : Nat) (cy : Nat → ClassId) (D : va_G) (ad : Nat → Nat → Int → Nat) (A : Nat → Prop) (kc ks : Nat) (Q : State → Prop) (pc : Nat) (lv : List (Option Value)) (st : List Value) (M : Mem) : Prop :=
  ∀ (H : Heap) (locs : List Loc) (ls : Array Slot), va_P D vwCl (wsOf cy ad M) H → va_S A s.heap H locs → lvh nL ls lv → W p l e R s m args below meth c H locs kc ks Q (F0 m pc ls st)
section VROWS
variable {p : Program} {l : Launch} {e : Env} {R : Room} {s : State} {m : MethodId} {args : Array Value} {below : List Frame} {meth : Method} {c : Code} {nL : Nat} {cy : Nat → ClassId} {D : va_G} {ad : Nat → Nat → Int → Nat} {A : Nat → Prop} {kc ks : Nat} {Q : State → Prop} {pc : Nat} {lv : List (Option Value)} {st : List Value} {M : Mem} {own : String} {cc : ByteArray} {ret : Option FieldType}

theorem r_iconst (F : Fx p s m args meth c own cc nL ret cy D ad A) {n : Int} (d : decode cc pc = .ok (.iconst n, 1)) (k : V p l e R s m args below meth c nL cy D ad A kc ks Q (pc + 1) lv (.int (i32 n) :: st) M) : V p l e R s m args below meth c nL cy D ad A kc ks Q pc lv st M := by
  obtain ⟨hx, hb, hml, hown, hr, hlk, hts, hK, hI, hA1, hA2⟩ := F
  intro H locs ls hP hS hl
  exact lv_iconst (v := i32 n) hx hb d rfl (k H locs ls hP hS hl)
theorem r_bipush (F : Fx p s m args meth c own cc nL ret cy D ad A) {n : Int} (d : decode cc pc = .ok (.bipush n, 2)) (hv : (Int8.ofInt n).toInt32 = i32 n) (k : V p l e R s m args below meth c nL cy D ad A kc ks Q (pc + 2) lv (.int (i32 n) :: st) M) : V p l e R s m args below meth c nL cy D ad A kc ks Q pc lv st M := by
  obtain ⟨hx, hb, hml, hown, hr, hlk, hts, hK, hI, hA1, hA2⟩ := F
  intro H locs ls hP hS hl
  exact lv_bipush (v := i32 n) hx hb d hv (k H locs ls hP hS hl)
theorem r_sipush (F : Fx p s m args meth c own cc nL ret cy D ad A) {n : Int} (d : decode cc pc = .ok (.sipush n, 3)) (hv : (Int16.ofInt n).toInt32 = i32 n) (k : V p l e R s m args below meth c nL cy D ad A kc ks Q (pc + 3) lv (.int (i32 n) :: st) M) : V p l e R s m args below meth c nL cy D ad A kc ks Q pc lv st M := by
  obtain ⟨hx, hb, hml, hown, hr, hlk, hts, hK, hI, hA1, hA2⟩ := F
  intro H locs ls hP hS hl
  exact lv_sipush (v := i32 n) hx hb d hv (k H locs ls hP hS hl)
theorem r_iload_n (F : Fx p s m args meth c own cc nL ret cy D ad A) {k : Fin 4} {i : Nat} {x : Int32} (d : decode cc pc = .ok (.iload_n k, 1)) (hi : (k : Nat) = i) (hv : lv[i]? = some (some (.int x))) (kk : V p l e R s m args below meth c nL cy D ad A kc ks Q (pc + 1) lv (.int x :: st) M) : V p l e R s m args below meth c nL cy D ad A kc ks Q pc lv st M := by
  obtain ⟨hx, hb, hml, hown, hr, hlk, hts, hK, hI, hA1, hA2⟩ := F
  intro H locs ls hP hS hl
  exact lv_iload_n hx hb d hi (hl.2.2 _ _ hv) (kk H locs ls hP hS hl)
theorem r_iload (F : Fx p s m args meth c own cc nL ret cy D ad A) {i : Nat} {x : Int32} (d : decode cc pc = .ok (.iload i, 2)) (hv : lv[i]? = some (some (.int x))) (kk : V p l e R s m args below meth c nL cy D ad A kc ks Q (pc + 2) lv (.int x :: st) M) : V p l e R s m args below meth c nL cy D ad A kc ks Q pc lv st M := by
  obtain ⟨hx, hb, hml, hown, hr, hlk, hts, hK, hI, hA1, hA2⟩ := F
  intro H locs ls hP hS hl
  exact lv_iload hx hb d (hl.2.2 _ _ hv) (kk H locs ls hP hS hl)
theorem r_lload_n (F : Fx p s m args meth c own cc nL ret cy D ad A) {k : Fin 4} {i : Nat} {x : Int64} (d : decode cc pc = .ok (.lload_n k, 1)) (hi : (k : Nat) = i) (hv : lv[i]? = some (some (.long x))) (kk : V p l e R s m args below meth c nL cy D ad A kc ks Q (pc + 1) lv (.long x :: st) M) : V p l e R s m args below meth c nL cy D ad A kc ks Q pc lv st M := by
  obtain ⟨hx, hb, hml, hown, hr, hlk, hts, hK, hI, hA1, hA2⟩ := F
  intro H locs ls hP hS hl
  exact lv_lload_n hx hb d hi (hl.2.2 _ _ hv) (kk H locs ls hP hS hl)
theorem r_lload (F : Fx p s m args meth c own cc nL ret cy D ad A) {i : Nat} {x : Int64} (d : decode cc pc = .ok (.lload i, 2)) (hv : lv[i]? = some (some (.long x))) (kk : V p l e R s m args below meth c nL cy D ad A kc ks Q (pc + 2) lv (.long x :: st) M) : V p l e R s m args below meth c nL cy D ad A kc ks Q pc lv st M := by
  obtain ⟨hx, hb, hml, hown, hr, hlk, hts, hK, hI, hA1, hA2⟩ := F
  intro H locs ls hP hS hl
  exact lv_lload hx hb d (hl.2.2 _ _ hv) (kk H locs ls hP hS hl)
theorem r_dload_n (F : Fx p s m args meth c own cc nL ret cy D ad A) {k : Fin 4} {i : Nat} {x : UInt64} (d : decode cc pc = .ok (.dload_n k, 1)) (hi : (k : Nat) = i) (hv : lv[i]? = some (some (.double x))) (kk : V p l e R s m args below meth c nL cy D ad A kc ks Q (pc + 1) lv (.double x :: st) M) : V p l e R s m args below meth c nL cy D ad A kc ks Q pc lv st M := by
  obtain ⟨hx, hb, hml, hown, hr, hlk, hts, hK, hI, hA1, hA2⟩ := F
  intro H locs ls hP hS hl
  exact lv_dload_n hx hb d hi (hl.2.2 _ _ hv) (kk H locs ls hP hS hl)
theorem r_dload (F : Fx p s m args meth c own cc nL ret cy D ad A) {i : Nat} {x : UInt64} (d : decode cc pc = .ok (.dload i, 2)) (hv : lv[i]? = some (some (.double x))) (kk : V p l e R s m args below meth c nL cy D ad A kc ks Q (pc + 2) lv (.double x :: st) M) : V p l e R s m args below meth c nL cy D ad A kc ks Q pc lv st M := by
  obtain ⟨hx, hb, hml, hown, hr, hlk, hts, hK, hI, hA1, hA2⟩ := F
  intro H locs ls hP hS hl
  exact lv_dload hx hb d (hl.2.2 _ _ hv) (kk H locs ls hP hS hl)
theorem r_aload_n (F : Fx p s m args meth c own cc nL ret cy D ad A) {k : Fin 4} {i : Nat} {x : Nat} (d : decode cc pc = .ok (.aload_n k, 1)) (hi : (k : Nat) = i) (hv : lv[i]? = some (some (.ref x))) (kk : V p l e R s m args below meth c nL cy D ad A kc ks Q (pc + 1) lv (.ref x :: st) M) : V p l e R s m args below meth c nL cy D ad A kc ks Q pc lv st M := by
  obtain ⟨hx, hb, hml, hown, hr, hlk, hts, hK, hI, hA1, hA2⟩ := F
  intro H locs ls hP hS hl
  exact lv_aload_n hx hb d hi (hl.2.2 _ _ hv) (kk H locs ls hP hS hl)
theorem r_aload (F : Fx p s m args meth c own cc nL ret cy D ad A) {i : Nat} {x : Nat} (d : decode cc pc = .ok (.aload i, 2)) (hv : lv[i]? = some (some (.ref x))) (kk : V p l e R s m args below meth c nL cy D ad A kc ks Q (pc + 2) lv (.ref x :: st) M) : V p l e R s m args below meth c nL cy D ad A kc ks Q pc lv st M := by
  obtain ⟨hx, hb, hml, hown, hr, hlk, hts, hK, hI, hA1, hA2⟩ := F
  intro H locs ls hP hS hl
  exact lv_aload hx hb d (hl.2.2 _ _ hv) (kk H locs ls hP hS hl)
theorem r_istore_n (F : Fx p s m args meth c own cc nL ret cy D ad A) {k : Fin 4} {i : Nat} {x : Int32} {lv1 : List (Option Value)} (d : decode cc pc = .ok (.istore_n k, 1)) (hi : (k : Nat) = i) (hn : i < nL) (hs : lv.set i (some (.int x)) = lv1) (hp : okp lv i = true) (kk : V p l e R s m args below meth c nL cy D ad A kc ks Q (pc + 1) lv1 st M) : V p l e R s m args below meth c nL cy D ad A kc ks Q pc lv (.int x :: st) M := by
  obtain ⟨hx, hb, hml, hown, hr, hlk, hts, hK, hI, hA1, hA2⟩ := F
  intro H locs ls hP hS hl
  exact lv_istore_n hx hb d hi hl.has hn rfl (fun ls1 h1 => kk H locs ls1 hP hS (lvh.st1 hs hp h1))
theorem r_istore (F : Fx p s m args meth c own cc nL ret cy D ad A) {i : Nat} {x : Int32} {lv1 : List (Option Value)} (d : decode cc pc = .ok (.istore i, 2)) (hn : i < nL) (hs : lv.set i (some (.int x)) = lv1) (hp : okp lv i = true) (kk : V p l e R s m args below meth c nL cy D ad A kc ks Q (pc + 2) lv1 st M) : V p l e R s m args below meth c nL cy D ad A kc ks Q pc lv (.int x :: st) M := by
  obtain ⟨hx, hb, hml, hown, hr, hlk, hts, hK, hI, hA1, hA2⟩ := F
  intro H locs ls hP hS hl
  exact lv_istore hx hb d hl.has hn rfl (fun ls1 h1 => kk H locs ls1 hP hS (lvh.st1 hs hp h1))
theorem r_astore_n (F : Fx p s m args meth c own cc nL ret cy D ad A) {k : Fin 4} {i : Nat} {x : Nat} {lv1 : List (Option Value)} (d : decode cc pc = .ok (.astore_n k, 1)) (hi : (k : Nat) = i) (hn : i < nL) (hs : lv.set i (some (.ref x)) = lv1) (hp : okp lv i = true) (kk : V p l e R s m args below meth c nL cy D ad A kc ks Q (pc + 1) lv1 st M) : V p l e R s m args below meth c nL cy D ad A kc ks Q pc lv (.ref x :: st) M := by
  obtain ⟨hx, hb, hml, hown, hr, hlk, hts, hK, hI, hA1, hA2⟩ := F
  intro H locs ls hP hS hl
  exact lv_astore_n hx hb d hi hl.has hn rfl (fun ls1 h1 => kk H locs ls1 hP hS (lvh.st1 hs hp h1))
theorem r_astore (F : Fx p s m args meth c own cc nL ret cy D ad A) {i : Nat} {x : Nat} {lv1 : List (Option Value)} (d : decode cc pc = .ok (.astore i, 2)) (hn : i < nL) (hs : lv.set i (some (.ref x)) = lv1) (hp : okp lv i = true) (kk : V p l e R s m args below meth c nL cy D ad A kc ks Q (pc + 2) lv1 st M) : V p l e R s m args below meth c nL cy D ad A kc ks Q pc lv (.ref x :: st) M := by
  obtain ⟨hx, hb, hml, hown, hr, hlk, hts, hK, hI, hA1, hA2⟩ := F
  intro H locs ls hP hS hl
  exact lv_astore hx hb d hl.has hn rfl (fun ls1 h1 => kk H locs ls1 hP hS (lvh.st1 hs hp h1))
theorem r_lstore_n (F : Fx p s m args meth c own cc nL ret cy D ad A) {k : Fin 4} {i : Nat} {x : Int64} {lv1 : List (Option Value)} (d : decode cc pc = .ok (.lstore_n k, 1)) (hi : (k : Nat) = i) (hn : i + 1 < nL) (hs : (lv.set i (some (.long x))).set (i + 1) none = lv1) (hp : okp lv i = true) (kk : V p l e R s m args below meth c nL cy D ad A kc ks Q (pc + 1) lv1 st M) : V p l e R s m args below meth c nL cy D ad A kc ks Q pc lv (.long x :: st) M := by
  obtain ⟨hx, hb, hml, hown, hr, hlk, hts, hK, hI, hA1, hA2⟩ := F
  intro H locs ls hP hS hl
  exact lv_lstore_n hx hb d hi hl.has hn rfl (fun ls1 h1 => kk H locs ls1 hP hS (lvh.st2 hs hp h1))
theorem r_lstore (F : Fx p s m args meth c own cc nL ret cy D ad A) {i : Nat} {x : Int64} {lv1 : List (Option Value)} (d : decode cc pc = .ok (.lstore i, 2)) (hn : i + 1 < nL) (hs : (lv.set i (some (.long x))).set (i + 1) none = lv1) (hp : okp lv i = true) (kk : V p l e R s m args below meth c nL cy D ad A kc ks Q (pc + 2) lv1 st M) : V p l e R s m args below meth c nL cy D ad A kc ks Q pc lv (.long x :: st) M := by
  obtain ⟨hx, hb, hml, hown, hr, hlk, hts, hK, hI, hA1, hA2⟩ := F
  intro H locs ls hP hS hl
  exact lv_lstore hx hb d hl.has hn rfl (fun ls1 h1 => kk H locs ls1 hP hS (lvh.st2 hs hp h1))
theorem r_dstore_n (F : Fx p s m args meth c own cc nL ret cy D ad A) {k : Fin 4} {i : Nat} {x : UInt64} {lv1 : List (Option Value)} (d : decode cc pc = .ok (.dstore_n k, 1)) (hi : (k : Nat) = i) (hn : i + 1 < nL) (hs : (lv.set i (some (.double x))).set (i + 1) none = lv1) (hp : okp lv i = true) (kk : V p l e R s m args below meth c nL cy D ad A kc ks Q (pc + 1) lv1 st M) : V p l e R s m args below meth c nL cy D ad A kc ks Q pc lv (.double x :: st) M := by
  obtain ⟨hx, hb, hml, hown, hr, hlk, hts, hK, hI, hA1, hA2⟩ := F
  intro H locs ls hP hS hl
  exact lv_dstore_n hx hb d hi hl.has hn rfl (fun ls1 h1 => kk H locs ls1 hP hS (lvh.st2 hs hp h1))
theorem r_dstore (F : Fx p s m args meth c own cc nL ret cy D ad A) {i : Nat} {x : UInt64} {lv1 : List (Option Value)} (d : decode cc pc = .ok (.dstore i, 2)) (hn : i + 1 < nL) (hs : (lv.set i (some (.double x))).set (i + 1) none = lv1) (hp : okp lv i = true) (kk : V p l e R s m args below meth c nL cy D ad A kc ks Q (pc + 2) lv1 st M) : V p l e R s m args below meth c nL cy D ad A kc ks Q pc lv (.double x :: st) M := by
  obtain ⟨hx, hb, hml, hown, hr, hlk, hts, hK, hI, hA1, hA2⟩ := F
  intro H locs ls hP hS hl
  exact lv_dstore hx hb d hl.has hn rfl (fun ls1 h1 => kk H locs ls1 hP hS (lvh.st2 hs hp h1))
theorem r_iinc (F : Fx p s m args meth c own cc nL ret cy D ad A) {i : Nat} {n a : Int} {lv1 : List (Option Value)} (d : decode cc pc = .ok (.iinc i n, 3)) (hv : lv[i]? = some (some (.int (i32 a)))) (hn : i < nL) (hs : lv.set i (some (.int (i32 (a + n)))) = lv1) (hp : okp lv i = true) (kk : V p l e R s m args below meth c nL cy D ad A kc ks Q (pc + 3) lv1 st M) : V p l e R s m args below meth c nL cy D ad A kc ks Q pc lv st M := by
  obtain ⟨hx, hb, hml, hown, hr, hlk, hts, hK, hI, hA1, hA2⟩ := F
  intro H locs ls hP hS hl
  have hm : (i, Value.int (i32 a)) ∈ lvl 0 lv := by simpa using lvl_of lv 0 i _ hv
  obtain ⟨q0, hq⟩ := List.getElem?_of_mem hm
  exact lv_iinc (v := i32 (a + n)) hx hb d hl.has (k := q0) hq (by show i32 a + i32 n = _; rw [i32_add]) hn rfl (fun ls1 h1 => kk H locs ls1 hP hS (lvh.st1 hs hp h1))
theorem r_iadd (F : Fx p s m args meth c own cc nL ret cy D ad A) {a b : Int} (d : decode cc pc = .ok (.iadd, 1)) (k : V p l e R s m args below meth c nL cy D ad A kc ks Q (pc + 1) lv (.int (i32 (a + b)) :: st) M) : V p l e R s m args below meth c nL cy D ad A kc ks Q pc lv (.int (i32 b) :: .int (i32 a) :: st) M := by
  obtain ⟨hx, hb, hml, hown, hr, hlk, hts, hK, hI, hA1, hA2⟩ := F
  intro H locs ls hP hS hl
  refine lv_iadd hx hb d ?_
  rw [i32_add]
  exact k H locs ls hP hS hl
theorem r_isub (F : Fx p s m args meth c own cc nL ret cy D ad A) {a b : Int} (d : decode cc pc = .ok (.isub, 1)) (k : V p l e R s m args below meth c nL cy D ad A kc ks Q (pc + 1) lv (.int (i32 (a - b)) :: st) M) : V p l e R s m args below meth c nL cy D ad A kc ks Q pc lv (.int (i32 b) :: .int (i32 a) :: st) M := by
  obtain ⟨hx, hb, hml, hown, hr, hlk, hts, hK, hI, hA1, hA2⟩ := F
  intro H locs ls hP hS hl
  refine lv_isub hx hb d ?_
  rw [i32_sub]
  exact k H locs ls hP hS hl
theorem r_imul (F : Fx p s m args meth c own cc nL ret cy D ad A) {a b : Int} (d : decode cc pc = .ok (.imul, 1)) (k : V p l e R s m args below meth c nL cy D ad A kc ks Q (pc + 1) lv (.int (i32 (a * b)) :: st) M) : V p l e R s m args below meth c nL cy D ad A kc ks Q pc lv (.int (i32 b) :: .int (i32 a) :: st) M := by
  obtain ⟨hx, hb, hml, hown, hr, hlk, hts, hK, hI, hA1, hA2⟩ := F
  intro H locs ls hP hS hl
  refine lv_imul hx hb d ?_
  rw [i32_mul]
  exact k H locs ls hP hS hl
theorem r_ineg (F : Fx p s m args meth c own cc nL ret cy D ad A) {a : Int} (d : decode cc pc = .ok (.ineg, 1)) (k : V p l e R s m args below meth c nL cy D ad A kc ks Q (pc + 1) lv (.int (i32 (-a)) :: st) M) : V p l e R s m args below meth c nL cy D ad A kc ks Q pc lv (.int (i32 a) :: st) M := by
  obtain ⟨hx, hb, hml, hown, hr, hlk, hts, hK, hI, hA1, hA2⟩ := F
  intro H locs ls hP hS hl
  refine lv_ineg hx hb d ?_
  first | rw [i32_neg] | (rw [show (0 : Int32) = i32 0 from rfl, i32_sub, show (0 : Int) - a = -a by omega])
  exact k H locs ls hP hS hl
theorem r_idiv (F : Fx p s m args meth c own cc nL ret cy D ad A) {a b : Int} (d : decode cc pc = .ok (.idiv, 1)) (h1 : 0 ≤ a) (h2 : a < 2147483648) (h3 : 0 < b) (h4 : b < 2147483648) (k : V p l e R s m args below meth c nL cy D ad A kc ks Q (pc + 1) lv (.int (i32 (a / b)) :: st) M) : V p l e R s m args below meth c nL cy D ad A kc ks Q pc lv (.int (i32 b) :: .int (i32 a) :: st) M := by
  obtain ⟨hx, hb, hml, hown, hr, hlk, hts, hK, hI, hA1, hA2⟩ := F
  intro H locs ls hP hS hl
  refine lv_idiv hx hb d (fun h => by have := (i32_eq0 ⟨by omega, by omega⟩).mp h; omega) ?_
  rw [i32_div h1 h2 h3 h4]
  exact k H locs ls hP hS hl
theorem r_irem (F : Fx p s m args meth c own cc nL ret cy D ad A) {a b : Int} (d : decode cc pc = .ok (.irem, 1)) (h1 : 0 ≤ a) (h2 : a < 2147483648) (h3 : 0 < b) (h4 : b < 2147483648) (k : V p l e R s m args below meth c nL cy D ad A kc ks Q (pc + 1) lv (.int (i32 (a % b)) :: st) M) : V p l e R s m args below meth c nL cy D ad A kc ks Q pc lv (.int (i32 b) :: .int (i32 a) :: st) M := by
  obtain ⟨hx, hb, hml, hown, hr, hlk, hts, hK, hI, hA1, hA2⟩ := F
  intro H locs ls hP hS hl
  refine lv_irem hx hb d (fun h => by have := (i32_eq0 ⟨by omega, by omega⟩).mp h; omega) ?_
  first | rw [i32_mod h1 h2 h3 h4] | (rw [irem_eq_mod, i32_mod h1 h2 h3 h4])
  exact k H locs ls hP hS hl
theorem r_icmp_eq (F : Fx p s m args meth c own cc nL ret cy D ad A) {a b off : Int} {tgt : Nat} (d : decode cc pc = .ok (.if_icmp .eq off, 3)) (ht : (pc : Int) + off = (tgt : Int)) (ha : ir a) (hb9 : ir b) (kt : a = b → V p l e R s m args below meth c nL cy D ad A kc ks Q tgt lv st M) (kf : ¬ a = b → V p l e R s m args below meth c nL cy D ad A kc ks Q (pc + 3) lv st M) : V p l e R s m args below meth c nL cy D ad A kc ks Q pc lv (.int (i32 b) :: .int (i32 a) :: st) M := by
  obtain ⟨hx, hb, hml, hown, hr, hlk, hts, hK, hI, hA1, hA2⟩ := F
  intro H locs ls hP hS hl
  have e1 := i32_lt ha hb9
  have e2 := i32_le ha hb9
  have e3 := i32_eq ha hb9
  have e4 := i32_lt hb9 ha
  have e5 := i32_le hb9 ha
  refine lv_icmp_eq hx hb d ht (fun h => kt ?_ H locs ls hP hS hl) (fun h => kf ?_ H locs ls hP hS hl) <;> simp only [ge_iff_le, gt_iff_lt, e1, e2, e3, e4, e5, ne_eq, Decidable.not_not, Int.not_lt, Int.not_le] at h <;> omega
theorem r_if_eq (F : Fx p s m args meth c own cc nL ret cy D ad A) {a off : Int} {tgt : Nat} (d : decode cc pc = .ok (.ifCond .eq off, 3)) (ht : (pc : Int) + off = (tgt : Int)) (ha : ir a) (kt : a = 0 → V p l e R s m args below meth c nL cy D ad A kc ks Q tgt lv st M) (kf : ¬ a = 0 → V p l e R s m args below meth c nL cy D ad A kc ks Q (pc + 3) lv st M) : V p l e R s m args below meth c nL cy D ad A kc ks Q pc lv (.int (i32 a) :: st) M := by
  obtain ⟨hx, hb, hml, hown, hr, hlk, hts, hK, hI, hA1, hA2⟩ := F
  intro H locs ls hP hS hl
  have hb9 : ir 0 := ⟨by decide, by decide⟩
  have e1 := i32_lt ha hb9
  have e2 := i32_le ha hb9
  have e3 := i32_eq ha hb9
  have e4 := i32_lt hb9 ha
  have e5 := i32_le hb9 ha
  rw [i32_0] at e1 e2 e3 e4 e5
  refine lv_if_eq hx hb d ht (fun h => kt ?_ H locs ls hP hS hl) (fun h => kf ?_ H locs ls hP hS hl) <;> simp only [ge_iff_le, gt_iff_lt, e1, e2, e3, e4, e5, ne_eq, Decidable.not_not, Int.not_lt, Int.not_le] at h <;> omega
theorem r_icmp_ne (F : Fx p s m args meth c own cc nL ret cy D ad A) {a b off : Int} {tgt : Nat} (d : decode cc pc = .ok (.if_icmp .ne off, 3)) (ht : (pc : Int) + off = (tgt : Int)) (ha : ir a) (hb9 : ir b) (kt : ¬ a = b → V p l e R s m args below meth c nL cy D ad A kc ks Q tgt lv st M) (kf : a = b → V p l e R s m args below meth c nL cy D ad A kc ks Q (pc + 3) lv st M) : V p l e R s m args below meth c nL cy D ad A kc ks Q pc lv (.int (i32 b) :: .int (i32 a) :: st) M := by
  obtain ⟨hx, hb, hml, hown, hr, hlk, hts, hK, hI, hA1, hA2⟩ := F
  intro H locs ls hP hS hl
  have e1 := i32_lt ha hb9
  have e2 := i32_le ha hb9
  have e3 := i32_eq ha hb9
  have e4 := i32_lt hb9 ha
  have e5 := i32_le hb9 ha
  refine lv_icmp_ne hx hb d ht (fun h => kt ?_ H locs ls hP hS hl) (fun h => kf ?_ H locs ls hP hS hl) <;> simp only [ge_iff_le, gt_iff_lt, e1, e2, e3, e4, e5, ne_eq, Decidable.not_not, Int.not_lt, Int.not_le] at h <;> omega
theorem r_if_ne (F : Fx p s m args meth c own cc nL ret cy D ad A) {a off : Int} {tgt : Nat} (d : decode cc pc = .ok (.ifCond .ne off, 3)) (ht : (pc : Int) + off = (tgt : Int)) (ha : ir a) (kt : ¬ a = 0 → V p l e R s m args below meth c nL cy D ad A kc ks Q tgt lv st M) (kf : a = 0 → V p l e R s m args below meth c nL cy D ad A kc ks Q (pc + 3) lv st M) : V p l e R s m args below meth c nL cy D ad A kc ks Q pc lv (.int (i32 a) :: st) M := by
  obtain ⟨hx, hb, hml, hown, hr, hlk, hts, hK, hI, hA1, hA2⟩ := F
  intro H locs ls hP hS hl
  have hb9 : ir 0 := ⟨by decide, by decide⟩
  have e1 := i32_lt ha hb9
  have e2 := i32_le ha hb9
  have e3 := i32_eq ha hb9
  have e4 := i32_lt hb9 ha
  have e5 := i32_le hb9 ha
  rw [i32_0] at e1 e2 e3 e4 e5
  refine lv_if_ne hx hb d ht (fun h => kt ?_ H locs ls hP hS hl) (fun h => kf ?_ H locs ls hP hS hl) <;> simp only [ge_iff_le, gt_iff_lt, e1, e2, e3, e4, e5, ne_eq, Decidable.not_not, Int.not_lt, Int.not_le] at h <;> omega
theorem r_icmp_lt (F : Fx p s m args meth c own cc nL ret cy D ad A) {a b off : Int} {tgt : Nat} (d : decode cc pc = .ok (.if_icmp .lt off, 3)) (ht : (pc : Int) + off = (tgt : Int)) (ha : ir a) (hb9 : ir b) (kt : a < b → V p l e R s m args below meth c nL cy D ad A kc ks Q tgt lv st M) (kf : b ≤ a → V p l e R s m args below meth c nL cy D ad A kc ks Q (pc + 3) lv st M) : V p l e R s m args below meth c nL cy D ad A kc ks Q pc lv (.int (i32 b) :: .int (i32 a) :: st) M := by
  obtain ⟨hx, hb, hml, hown, hr, hlk, hts, hK, hI, hA1, hA2⟩ := F
  intro H locs ls hP hS hl
  have e1 := i32_lt ha hb9
  have e2 := i32_le ha hb9
  have e3 := i32_eq ha hb9
  have e4 := i32_lt hb9 ha
  have e5 := i32_le hb9 ha
  refine lv_icmp_lt hx hb d ht (fun h => kt ?_ H locs ls hP hS hl) (fun h => kf ?_ H locs ls hP hS hl) <;> simp only [ge_iff_le, gt_iff_lt, e1, e2, e3, e4, e5, ne_eq, Decidable.not_not, Int.not_lt, Int.not_le] at h <;> omega
theorem r_if_lt (F : Fx p s m args meth c own cc nL ret cy D ad A) {a off : Int} {tgt : Nat} (d : decode cc pc = .ok (.ifCond .lt off, 3)) (ht : (pc : Int) + off = (tgt : Int)) (ha : ir a) (kt : a < 0 → V p l e R s m args below meth c nL cy D ad A kc ks Q tgt lv st M) (kf : 0 ≤ a → V p l e R s m args below meth c nL cy D ad A kc ks Q (pc + 3) lv st M) : V p l e R s m args below meth c nL cy D ad A kc ks Q pc lv (.int (i32 a) :: st) M := by
  obtain ⟨hx, hb, hml, hown, hr, hlk, hts, hK, hI, hA1, hA2⟩ := F
  intro H locs ls hP hS hl
  have hb9 : ir 0 := ⟨by decide, by decide⟩
  have e1 := i32_lt ha hb9
  have e2 := i32_le ha hb9
  have e3 := i32_eq ha hb9
  have e4 := i32_lt hb9 ha
  have e5 := i32_le hb9 ha
  rw [i32_0] at e1 e2 e3 e4 e5
  refine lv_if_lt hx hb d ht (fun h => kt ?_ H locs ls hP hS hl) (fun h => kf ?_ H locs ls hP hS hl) <;> simp only [ge_iff_le, gt_iff_lt, e1, e2, e3, e4, e5, ne_eq, Decidable.not_not, Int.not_lt, Int.not_le] at h <;> omega
theorem r_icmp_ge (F : Fx p s m args meth c own cc nL ret cy D ad A) {a b off : Int} {tgt : Nat} (d : decode cc pc = .ok (.if_icmp .ge off, 3)) (ht : (pc : Int) + off = (tgt : Int)) (ha : ir a) (hb9 : ir b) (kt : b ≤ a → V p l e R s m args below meth c nL cy D ad A kc ks Q tgt lv st M) (kf : a < b → V p l e R s m args below meth c nL cy D ad A kc ks Q (pc + 3) lv st M) : V p l e R s m args below meth c nL cy D ad A kc ks Q pc lv (.int (i32 b) :: .int (i32 a) :: st) M := by
  obtain ⟨hx, hb, hml, hown, hr, hlk, hts, hK, hI, hA1, hA2⟩ := F
  intro H locs ls hP hS hl
  have e1 := i32_lt ha hb9
  have e2 := i32_le ha hb9
  have e3 := i32_eq ha hb9
  have e4 := i32_lt hb9 ha
  have e5 := i32_le hb9 ha
  refine lv_icmp_ge hx hb d ht (fun h => kt ?_ H locs ls hP hS hl) (fun h => kf ?_ H locs ls hP hS hl) <;> simp only [ge_iff_le, gt_iff_lt, e1, e2, e3, e4, e5, ne_eq, Decidable.not_not, Int.not_lt, Int.not_le] at h <;> omega
theorem r_if_ge (F : Fx p s m args meth c own cc nL ret cy D ad A) {a off : Int} {tgt : Nat} (d : decode cc pc = .ok (.ifCond .ge off, 3)) (ht : (pc : Int) + off = (tgt : Int)) (ha : ir a) (kt : 0 ≤ a → V p l e R s m args below meth c nL cy D ad A kc ks Q tgt lv st M) (kf : a < 0 → V p l e R s m args below meth c nL cy D ad A kc ks Q (pc + 3) lv st M) : V p l e R s m args below meth c nL cy D ad A kc ks Q pc lv (.int (i32 a) :: st) M := by
  obtain ⟨hx, hb, hml, hown, hr, hlk, hts, hK, hI, hA1, hA2⟩ := F
  intro H locs ls hP hS hl
  have hb9 : ir 0 := ⟨by decide, by decide⟩
  have e1 := i32_lt ha hb9
  have e2 := i32_le ha hb9
  have e3 := i32_eq ha hb9
  have e4 := i32_lt hb9 ha
  have e5 := i32_le hb9 ha
  rw [i32_0] at e1 e2 e3 e4 e5
  refine lv_if_ge hx hb d ht (fun h => kt ?_ H locs ls hP hS hl) (fun h => kf ?_ H locs ls hP hS hl) <;> simp only [ge_iff_le, gt_iff_lt, e1, e2, e3, e4, e5, ne_eq, Decidable.not_not, Int.not_lt, Int.not_le] at h <;> omega
theorem r_icmp_gt (F : Fx p s m args meth c own cc nL ret cy D ad A) {a b off : Int} {tgt : Nat} (d : decode cc pc = .ok (.if_icmp .gt off, 3)) (ht : (pc : Int) + off = (tgt : Int)) (ha : ir a) (hb9 : ir b) (kt : b < a → V p l e R s m args below meth c nL cy D ad A kc ks Q tgt lv st M) (kf : a ≤ b → V p l e R s m args below meth c nL cy D ad A kc ks Q (pc + 3) lv st M) : V p l e R s m args below meth c nL cy D ad A kc ks Q pc lv (.int (i32 b) :: .int (i32 a) :: st) M := by
  obtain ⟨hx, hb, hml, hown, hr, hlk, hts, hK, hI, hA1, hA2⟩ := F
  intro H locs ls hP hS hl
  have e1 := i32_lt ha hb9
  have e2 := i32_le ha hb9
  have e3 := i32_eq ha hb9
  have e4 := i32_lt hb9 ha
  have e5 := i32_le hb9 ha
  refine lv_icmp_gt hx hb d ht (fun h => kt ?_ H locs ls hP hS hl) (fun h => kf ?_ H locs ls hP hS hl) <;> simp only [ge_iff_le, gt_iff_lt, e1, e2, e3, e4, e5, ne_eq, Decidable.not_not, Int.not_lt, Int.not_le] at h <;> omega
theorem r_if_gt (F : Fx p s m args meth c own cc nL ret cy D ad A) {a off : Int} {tgt : Nat} (d : decode cc pc = .ok (.ifCond .gt off, 3)) (ht : (pc : Int) + off = (tgt : Int)) (ha : ir a) (kt : 0 < a → V p l e R s m args below meth c nL cy D ad A kc ks Q tgt lv st M) (kf : a ≤ 0 → V p l e R s m args below meth c nL cy D ad A kc ks Q (pc + 3) lv st M) : V p l e R s m args below meth c nL cy D ad A kc ks Q pc lv (.int (i32 a) :: st) M := by
  obtain ⟨hx, hb, hml, hown, hr, hlk, hts, hK, hI, hA1, hA2⟩ := F
  intro H locs ls hP hS hl
  have hb9 : ir 0 := ⟨by decide, by decide⟩
  have e1 := i32_lt ha hb9
  have e2 := i32_le ha hb9
  have e3 := i32_eq ha hb9
  have e4 := i32_lt hb9 ha
  have e5 := i32_le hb9 ha
  rw [i32_0] at e1 e2 e3 e4 e5
  refine lv_if_gt hx hb d ht (fun h => kt ?_ H locs ls hP hS hl) (fun h => kf ?_ H locs ls hP hS hl) <;> simp only [ge_iff_le, gt_iff_lt, e1, e2, e3, e4, e5, ne_eq, Decidable.not_not, Int.not_lt, Int.not_le] at h <;> omega
theorem r_icmp_le (F : Fx p s m args meth c own cc nL ret cy D ad A) {a b off : Int} {tgt : Nat} (d : decode cc pc = .ok (.if_icmp .le off, 3)) (ht : (pc : Int) + off = (tgt : Int)) (ha : ir a) (hb9 : ir b) (kt : a ≤ b → V p l e R s m args below meth c nL cy D ad A kc ks Q tgt lv st M) (kf : b < a → V p l e R s m args below meth c nL cy D ad A kc ks Q (pc + 3) lv st M) : V p l e R s m args below meth c nL cy D ad A kc ks Q pc lv (.int (i32 b) :: .int (i32 a) :: st) M := by
  obtain ⟨hx, hb, hml, hown, hr, hlk, hts, hK, hI, hA1, hA2⟩ := F
  intro H locs ls hP hS hl
  have e1 := i32_lt ha hb9
  have e2 := i32_le ha hb9
  have e3 := i32_eq ha hb9
  have e4 := i32_lt hb9 ha
  have e5 := i32_le hb9 ha
  refine lv_icmp_le hx hb d ht (fun h => kt ?_ H locs ls hP hS hl) (fun h => kf ?_ H locs ls hP hS hl) <;> simp only [ge_iff_le, gt_iff_lt, e1, e2, e3, e4, e5, ne_eq, Decidable.not_not, Int.not_lt, Int.not_le] at h <;> omega
theorem r_if_le (F : Fx p s m args meth c own cc nL ret cy D ad A) {a off : Int} {tgt : Nat} (d : decode cc pc = .ok (.ifCond .le off, 3)) (ht : (pc : Int) + off = (tgt : Int)) (ha : ir a) (kt : a ≤ 0 → V p l e R s m args below meth c nL cy D ad A kc ks Q tgt lv st M) (kf : 0 < a → V p l e R s m args below meth c nL cy D ad A kc ks Q (pc + 3) lv st M) : V p l e R s m args below meth c nL cy D ad A kc ks Q pc lv (.int (i32 a) :: st) M := by
  obtain ⟨hx, hb, hml, hown, hr, hlk, hts, hK, hI, hA1, hA2⟩ := F
  intro H locs ls hP hS hl
  have hb9 : ir 0 := ⟨by decide, by decide⟩
  have e1 := i32_lt ha hb9
  have e2 := i32_le ha hb9
  have e3 := i32_eq ha hb9
  have e4 := i32_lt hb9 ha
  have e5 := i32_le hb9 ha
  rw [i32_0] at e1 e2 e3 e4 e5
  refine lv_if_le hx hb d ht (fun h => kt ?_ H locs ls hP hS hl) (fun h => kf ?_ H locs ls hP hS hl) <;> simp only [ge_iff_le, gt_iff_lt, e1, e2, e3, e4, e5, ne_eq, Decidable.not_not, Int.not_lt, Int.not_le] at h <;> omega
theorem r_rcmp_lt (F : Fx p s m args meth c own cc nL ret cy D ad A) {a b off : Int} {tgt : Nat} (d : decode cc pc = .ok (.if_icmp .lt off, 3)) (ht : (pc : Int) + off = (tgt : Int)) (kt : i32 a < i32 b → V p l e R s m args below meth c nL cy D ad A kc ks Q tgt lv st M) (kf : ¬ i32 a < i32 b → V p l e R s m args below meth c nL cy D ad A kc ks Q (pc + 3) lv st M) : V p l e R s m args below meth c nL cy D ad A kc ks Q pc lv (.int (i32 b) :: .int (i32 a) :: st) M := by
  obtain ⟨hx, hb, hml, hown, hr, hlk, hts, hK, hI, hA1, hA2⟩ := F
  intro H locs ls hP hS hl
  exact lv_icmp_lt hx hb d ht (fun h => kt h H locs ls hP hS hl) (fun h => kf h H locs ls hP hS hl)
theorem r_rcmp_ge (F : Fx p s m args meth c own cc nL ret cy D ad A) {a b off : Int} {tgt : Nat} (d : decode cc pc = .ok (.if_icmp .ge off, 3)) (ht : (pc : Int) + off = (tgt : Int)) (kt : i32 b ≤ i32 a → V p l e R s m args below meth c nL cy D ad A kc ks Q tgt lv st M) (kf : ¬ i32 b ≤ i32 a → V p l e R s m args below meth c nL cy D ad A kc ks Q (pc + 3) lv st M) : V p l e R s m args below meth c nL cy D ad A kc ks Q pc lv (.int (i32 b) :: .int (i32 a) :: st) M := by
  obtain ⟨hx, hb, hml, hown, hr, hlk, hts, hK, hI, hA1, hA2⟩ := F
  intro H locs ls hP hS hl
  exact lv_icmp_ge hx hb d ht (fun h => kt h H locs ls hP hS hl) (fun h => kf h H locs ls hP hS hl)
theorem r_bz_eq (F : Fx p s m args meth c own cc nL ret cy D ad A) {b : Bool} {off : Int} {tgt : Nat} (d : decode cc pc = .ok (.ifCond .eq off, 3)) (ht : (pc : Int) + off = (tgt : Int)) (kt : b = false → V p l e R s m args below meth c nL cy D ad A kc ks Q tgt lv st M) (kf : b = true → V p l e R s m args below meth c nL cy D ad A kc ks Q (pc + 3) lv st M) : V p l e R s m args below meth c nL cy D ad A kc ks Q pc lv (.int (i32 (bi b)) :: st) M := by
  obtain ⟨hx, hb, hml, hown, hr, hlk, hts, hK, hI, hA1, hA2⟩ := F
  intro H locs ls hP hS hl
  refine lv_if_eq hx hb d ht (fun h => kt ?_ H locs ls hP hS hl) (fun h => kf ?_ H locs ls hP hS hl) <;> (cases b <;> first | rfl | (exfalso; revert h; decide))
theorem r_bz_ne (F : Fx p s m args meth c own cc nL ret cy D ad A) {b : Bool} {off : Int} {tgt : Nat} (d : decode cc pc = .ok (.ifCond .ne off, 3)) (ht : (pc : Int) + off = (tgt : Int)) (kt : b = true → V p l e R s m args below meth c nL cy D ad A kc ks Q tgt lv st M) (kf : b = false → V p l e R s m args below meth c nL cy D ad A kc ks Q (pc + 3) lv st M) : V p l e R s m args below meth c nL cy D ad A kc ks Q pc lv (.int (i32 (bi b)) :: st) M := by
  obtain ⟨hx, hb, hml, hown, hr, hlk, hts, hK, hI, hA1, hA2⟩ := F
  intro H locs ls hP hS hl
  refine lv_if_ne hx hb d ht (fun h => kt ?_ H locs ls hP hS hl) (fun h => kf ?_ H locs ls hP hS hl) <;> (cases b <;> first | rfl | (exfalso; revert h; decide))
theorem r_goto (F : Fx p s m args meth c own cc nL ret cy D ad A) {off : Int} {tgt : Nat} (d : decode cc pc = .ok (.goto off, 3)) (ht : (pc : Int) + off = (tgt : Int)) (k : V p l e R s m args below meth c nL cy D ad A kc ks Q tgt lv st M) : V p l e R s m args below meth c nL cy D ad A kc ks Q pc lv st M := by
  obtain ⟨hx, hb, hml, hown, hr, hlk, hts, hK, hI, hA1, hA2⟩ := F
  intro H locs ls hP hS hl
  exact lv_goto hx hb d ht (k H locs ls hP hS hl)
theorem r_dup (F : Fx p s m args meth c own cc nL ret cy D ad A) {v : Value} (d : decode cc pc = .ok (.dup, 1)) (hv : v.category = 1) (k : V p l e R s m args below meth c nL cy D ad A kc ks Q (pc + 1) lv (v :: v :: st) M) : V p l e R s m args below meth c nL cy D ad A kc ks Q pc lv (v :: st) M := by
  obtain ⟨hx, hb, hml, hown, hr, hlk, hts, hK, hI, hA1, hA2⟩ := F
  intro H locs ls hP hS hl
  exact lv_dup hx hb d hv (k H locs ls hP hS hl)
theorem r_dup2 (F : Fx p s m args meth c own cc nL ret cy D ad A) {v v2 : Value} (d : decode cc pc = .ok (.dup2, 1)) (hv : v.category = 1) (hv2 : v2.category = 1) (k : V p l e R s m args below meth c nL cy D ad A kc ks Q (pc + 1) lv (v :: v2 :: v :: v2 :: st) M) : V p l e R s m args below meth c nL cy D ad A kc ks Q pc lv (v :: v2 :: st) M := by
  obtain ⟨hx, hb, hml, hown, hr, hlk, hts, hK, hI, hA1, hA2⟩ := F
  intro H locs ls hP hS hl
  exact lv_dup2_11 hx hb d hv hv2 (k H locs ls hP hS hl)
theorem r_pop (F : Fx p s m args meth c own cc nL ret cy D ad A) {v : Value} (d : decode cc pc = .ok (.pop, 1)) (hv : v.category = 1) (k : V p l e R s m args below meth c nL cy D ad A kc ks Q (pc + 1) lv st M) : V p l e R s m args below meth c nL cy D ad A kc ks Q pc lv (v :: st) M := by
  obtain ⟨hx, hb, hml, hown, hr, hlk, hts, hK, hI, hA1, hA2⟩ := F
  intro H locs ls hP hS hl
  exact lv_pop hx hb d hv (k H locs ls hP hS hl)
theorem r_swIn (F : Fx p s m args meth c own cc nL ret cy D ad A) {dflt lo hi : Int} {offs : Array Int} {len : Nat} {a off : Int} {tgt : Nat} (d : decode cc pc = .ok (.tableswitch dflt lo hi offs, len)) (ha : ir a) (h1 : lo ≤ a) (h2 : a ≤ hi) (ho : offs[(a - lo).toNat]? = some off) (ht : (pc : Int) + off = (tgt : Int)) (k : V p l e R s m args below meth c nL cy D ad A kc ks Q tgt lv st M) : V p l e R s m args below meth c nL cy D ad A kc ks Q pc lv (.int (i32 a) :: st) M := by
  obtain ⟨hx, hb, hml, hown, hr, hlk, hts, hK, hI, hA1, hA2⟩ := F
  intro H locs ls hP hS hl
  exact lv_tableIn hx hb d (by rw [i32_T ha]; omega) (by rw [i32_T ha]; omega) (by rw [i32_T ha]; exact ho) ht (k H locs ls hP hS hl)
theorem r_swOut (F : Fx p s m args meth c own cc nL ret cy D ad A) {dflt lo hi : Int} {offs : Array Int} {len : Nat} {a : Int} {tgt : Nat} (d : decode cc pc = .ok (.tableswitch dflt lo hi offs, len)) (ha : ir a) (h : a < lo ∨ hi < a) (ht : (pc : Int) + dflt = (tgt : Int)) (k : V p l e R s m args below meth c nL cy D ad A kc ks Q tgt lv st M) : V p l e R s m args below meth c nL cy D ad A kc ks Q pc lv (.int (i32 a) :: st) M := by
  obtain ⟨hx, hb, hml, hown, hr, hlk, hts, hK, hI, hA1, hA2⟩ := F
  intro H locs ls hP hS hl
  exact lv_tableOut hx hb d (by rw [i32_T ha]; exact h) ht (k H locs ls hP hS hl)
theorem r_i2l (F : Fx p s m args meth c own cc nL ret cy D ad A) {x : Int32} (d : decode cc pc = .ok (.i2l, 1)) (k : V p l e R s m args below meth c nL cy D ad A kc ks Q (pc + 1) lv (.long x.toInt64 :: st) M) : V p l e R s m args below meth c nL cy D ad A kc ks Q pc lv (.int x :: st) M := by
  obtain ⟨hx, hb, hml, hown, hr, hlk, hts, hK, hI, hA1, hA2⟩ := F
  intro H locs ls hP hS hl
  exact lv_i2l hx hb d rfl (k H locs ls hP hS hl)
theorem r_ladd (F : Fx p s m args meth c own cc nL ret cy D ad A) {x y : Int64} (d : decode cc pc = .ok (.ladd, 1)) (k : V p l e R s m args below meth c nL cy D ad A kc ks Q (pc + 1) lv (.long (x + y) :: st) M) : V p l e R s m args below meth c nL cy D ad A kc ks Q pc lv (.long y :: .long x :: st) M := by
  obtain ⟨hx, hb, hml, hown, hr, hlk, hts, hK, hI, hA1, hA2⟩ := F
  intro H locs ls hP hS hl
  exact lv_ladd hx hb d (k H locs ls hP hS hl)
theorem r_lmul (F : Fx p s m args meth c own cc nL ret cy D ad A) {x y : Int64} (d : decode cc pc = .ok (.lmul, 1)) (k : V p l e R s m args below meth c nL cy D ad A kc ks Q (pc + 1) lv (.long (x * y) :: st) M) : V p l e R s m args below meth c nL cy D ad A kc ks Q pc lv (.long y :: .long x :: st) M := by
  obtain ⟨hx, hb, hml, hown, hr, hlk, hts, hK, hI, hA1, hA2⟩ := F
  intro H locs ls hP hS hl
  exact lv_lmul hx hb d (k H locs ls hP hS hl)
theorem r_ldc2 (F : Fx p s m args meth c own cc nL ret cy D ad A) {index : Nat} {v : Int64} (d : decode cc pc = .ok (.ldc2_w index, 3)) (hc : Jvm.Cond.constantLong own index v ∈ TB) (k : V p l e R s m args below meth c nL cy D ad A kc ks Q (pc + 3) lv (.long v :: st) M) : V p l e R s m args below meth c nL cy D ad A kc ks Q pc lv st M := by
  obtain ⟨hx, hb, hml, hown, hr, hlk, hts, hK, hI, hA1, hA2⟩ := F
  intro H locs ls hP hS hl
  exact lv_ldc2 hx hb hown (hts _ hc) d (k H locs ls hP hS hl)
theorem r_getF (F : Fx p s m args meth c own cc nL ret cy D ad A) {t cc1 : Nat} {i : Int} {C : String} {T : u_T} {N ci index : Nat} {fs : List Value} {k : Nat} {v : Value} (d : decode cc pc = .ok (.getfield index, 3)) (hk : dmb ad t cc1 i = true) (hcel : cel cy ad M t cc1 i = .inr (ci, fs)) (hc : vwCl[ci]? = some (C, T, N)) (hkN : k < N) (hin : ∀ w ∈ u_ws C T N, w ∈ TB) (hlk9 : Cond.fieldLink own index (T k).1 (T k).2.1 (T k).2.2.1 ∈ TB) (hv : fs[k]? = some v) (kk : V p l e R s m args below meth c nL cy D ad A kc ks Q (pc + 3) lv (v :: st) M) : V p l e R s m args below meth c nL cy D ad A kc ks Q pc lv (.ref (ad t cc1 i) :: st) M := by
  obtain ⟨hx, hb, hml, hown, hr, hlk, hts, hK, hI, hA1, hA2⟩ := F
  intro H locs ls hP hS hl
  obtain ⟨q0, hq, hw⟩ := ws_at (cy := cy) (ad := ad) M hk
  exact va_get hx hb hts hin hown hK.1 hP q0 (by rw [hw, hcel]) hc k hkN (hts _ hlk9) (fun _ h => h) hv d (kk H locs ls hP hS hl)
theorem r_getN (F : Fx p s m args meth c own cc nL ret cy D ad A) {t cc1 : Nat} {i : Int} {C host : String} {T : u_T} {N ci index : Nat} {fs : List Value} {k : Nat} {v : Value} (d : decode cc pc = .ok (.getfield index, 3)) (hk : dmb ad t cc1 i = true) (hcel : cel cy ad M t cc1 i = .inr (ci, fs)) (hc : vwCl[ci]? = some (C, T, N)) (hkN : k < N) (hin : ∀ w ∈ u_ws C T N, w ∈ TB) (hlk9 : Cond.fieldLinkNest own index (T k).1 (T k).2.1 (T k).2.2.1 host ∈ lw_tbl) (hv : fs[k]? = some v) (kk : V p l e R s m args below meth c nL cy D ad A kc ks Q (pc + 3) lv (v :: st) M) : V p l e R s m args below meth c nL cy D ad A kc ks Q pc lv (.ref (ad t cc1 i) :: st) M := by
  obtain ⟨hx, hb, hml, hown, hr, hlk, hts, hK, hI, hA1, hA2⟩ := F
  intro H locs ls hP hS hl
  obtain ⟨q0, hq, hw⟩ := ws_at (cy := cy) (ad := ad) M hk
  exact va_getN hx hb hts hin hown hK.1 hP q0 (by rw [hw, hcel]) hc k hkN (va_Nw.use rfl (hK.2.1 _ hlk9 rfl)) (fun _ h => h) hv d (kk H locs ls hP hS hl)
theorem r_putF (F : Fx p s m args meth c own cc nL ret cy D ad A) {t cc1 : Nat} {i : Int} {C : String} {T : u_T} {N ci index : Nat} {fs : List Value} {k : Nat} {v : Value} {M1 : Mem} {ty : FieldType} (d : decode cc pc = .ok (.putfield index, 3)) (hk : dmb ad t cc1 i = true) (hcel : cel cy ad M t cc1 i = .inr (ci, fs)) (hc : vwCl[ci]? = some (C, T, N)) (hlen : fs.length = N) (hkN : k < N) (hin : ∀ w ∈ u_ws C T N, w ∈ TB) (ty0 : Nat → FieldType) (hty : ∀ k, k < N → parseFieldDescriptor (T k).2.2.1 = some (ty0 k)) (hnm : ∀ a, a < N → ∀ b, b < N → a ≠ b → (T a).2.1 ≠ (T b).2.1) (hlk9 : Cond.fieldLink own index (T k).1 (T k).2.1 (T k).2.2.1 ∈ TB) (hfin : (T k).2.2.2 = false) (hd : parseFieldDescriptor (T k).2.2.1 = some ty) (hn : narrow ty v = v) (hfit : fits ty v = true) (hcel1 : cel cy ad M1 t cc1 i = .inr (ci, fs.set k v)) (hoth : ∀ (c1 k1 : Nat) (i1 : Int), owner c1 k1 i1 ≠ (t, cc1, i) → M1 c1 k1 i1 = M c1 k1 i1) (kk : V p l e R s m args below meth c nL cy D ad A kc ks Q (pc + 3) lv st M1) : V p l e R s m args below meth c nL cy D ad A kc ks Q pc lv (v :: .ref (ad t cc1 i) :: st) M := by
  obtain ⟨hx, hb, hml, hown, hr, hlk, hts, hK, hI, hA1, hA2⟩ := F
  intro H locs ls hP hS hl
  obtain ⟨q0, hq, hw⟩ := ws_at (cy := cy) (ad := ad) M hk
  refine va_put hx hb hts hin ty0 hty hnm hown hK.1 hP (wsD hI hA1 M) hS q0 (by rw [hw, hcel]) hc k hkN (hts _ hlk9) (fun _ h => h) hfin hd hn hfit (by rw [hlen]; exact hkN) d (fun H1 locs1 hP1 hD1 hS1 => ?_)
  rw [ws_set hq hcel1 hoth] at hP1
  exact kk H1 locs1 ls hP1 hS1 hl
theorem r_putN (F : Fx p s m args meth c own cc nL ret cy D ad A) {t cc1 : Nat} {i : Int} {C : String} {T : u_T} {N ci index : Nat} {fs : List Value} {k : Nat} {v : Value} {M1 : Mem} {ty : FieldType} (d : decode cc pc = .ok (.putfield index, 3)) (hk : dmb ad t cc1 i = true) (hcel : cel cy ad M t cc1 i = .inr (ci, fs)) (hc : vwCl[ci]? = some (C, T, N)) (hlen : fs.length = N) (hkN : k < N) (hin : ∀ w ∈ u_ws C T N, w ∈ TB) (ty0 : Nat → FieldType) (hty : ∀ k, k < N → parseFieldDescriptor (T k).2.2.1 = some (ty0 k)) (hnm : ∀ a, a < N → ∀ b, b < N → a ≠ b → (T a).2.1 ≠ (T b).2.1) {host : String} (hlk9 : Cond.fieldLinkNest own index (T k).1 (T k).2.1 (T k).2.2.1 host ∈ lw_tbl) (hfin : (T k).2.2.2 = false) (hd : parseFieldDescriptor (T k).2.2.1 = some ty) (hn : narrow ty v = v) (hfit : fits ty v = true) (hcel1 : cel cy ad M1 t cc1 i = .inr (ci, fs.set k v)) (hoth : ∀ (c1 k1 : Nat) (i1 : Int), owner c1 k1 i1 ≠ (t, cc1, i) → M1 c1 k1 i1 = M c1 k1 i1) (kk : V p l e R s m args below meth c nL cy D ad A kc ks Q (pc + 3) lv st M1) : V p l e R s m args below meth c nL cy D ad A kc ks Q pc lv (v :: .ref (ad t cc1 i) :: st) M := by
  obtain ⟨hx, hb, hml, hown, hr, hlk, hts, hK, hI, hA1, hA2⟩ := F
  intro H locs ls hP hS hl
  obtain ⟨q0, hq, hw⟩ := ws_at (cy := cy) (ad := ad) M hk
  refine va_putN hx hb hts hin ty0 hty hnm hown hK.1 hP (wsD hI hA1 M) hS q0 (by rw [hw, hcel]) hc k hkN (va_Nw.use rfl (hK.2.1 _ hlk9 rfl)) (fun _ h => h) hfin hd hn hfit (by rw [hlen]; exact hkN) d (fun H1 locs1 hP1 hD1 hS1 => ?_)
  rw [ws_set hq hcel1 hoth] at hP1
  exact kk H1 locs1 ls hP1 hS1 hl
theorem r_iald (F : Fx p s m args meth c own cc nL ret cy D ad A) {t cc1 : Nat} {i a : Int} {n : Nat} {f : Nat → Int32} {v : Int} (d : decode cc pc = .ok (.iaload, 1)) (hk : dmb ad t cc1 i = true) (hcel : cel cy ad M t cc1 i = .inl (cy 0, n, .inl f)) (h1 : 0 ≤ a) (h2 : a < n) (hn : n < 2147483648) (hv : f a.toNat = i32 v) (kk : V p l e R s m args below meth c nL cy D ad A kc ks Q (pc + 1) lv (.int (i32 v) :: st) M) : V p l e R s m args below meth c nL cy D ad A kc ks Q pc lv (.int (i32 a) :: .ref (ad t cc1 i) :: st) M := by
  obtain ⟨hx, hb, hml, hown, hr, hlk, hts, hK, hI, hA1, hA2⟩ := F
  intro H locs ls hP hS hl
  obtain ⟨q0, hq, hw⟩ := ws_at (cy := cy) (ad := ad) M hk
  refine va_iald hx hb hK.1 hP q0 0 (by rw [hw, hcel]) rfl (i32_in h1 h2 hn) d ?_
  rw [i32_cl h1 (by omega), hv]
  exact kk H locs ls hP hS hl
theorem r_iast (F : Fx p s m args meth c own cc nL ret cy D ad A) {t cc1 : Nat} {i a : Int} {n : Nat} {f : Nat → Int32} {x : Int32} {M1 : Mem} (d : decode cc pc = .ok (.iastore, 1)) (hk : dmb ad t cc1 i = true) (hcel : cel cy ad M t cc1 i = .inl (cy 0, n, .inl f)) (h1 : 0 ≤ a) (h2 : a < n) (hn : n < 2147483648) (hcel1 : cel cy ad M1 t cc1 i = .inl (cy 0, n, .inl (upd f a.toNat x))) (hoth : ∀ (c1 k1 : Nat) (i1 : Int), owner c1 k1 i1 ≠ (t, cc1, i) → M1 c1 k1 i1 = M c1 k1 i1) (kk : V p l e R s m args below meth c nL cy D ad A kc ks Q (pc + 1) lv st M1) : V p l e R s m args below meth c nL cy D ad A kc ks Q pc lv (.int x :: .int (i32 a) :: .ref (ad t cc1 i) :: st) M := by
  obtain ⟨hx, hb, hml, hown, hr, hlk, hts, hK, hI, hA1, hA2⟩ := F
  intro H locs ls hP hS hl
  obtain ⟨q0, hq, hw⟩ := ws_at (cy := cy) (ad := ad) M hk
  refine va_iast hx hb hK.1 hP (wsD hI hA1 M) hS q0 0 (by rw [hw, hcel]) rfl (i32_in h1 h2 hn) d (fun H1 locs1 hP1 hD1 hS1 => ?_)
  rw [i32_cl h1 (by omega), ws_set hq hcel1 hoth] at hP1
  exact kk H1 locs1 ls hP1 hS1 hl
theorem r_aald (F : Fx p s m args meth c own cc nL ret cy D ad A) {t cc1 : Nat} {i a : Int} {n tq : Nat} {cA : ClassId} {C : String} {f : Nat → Option Nat} {b : Nat} (d : decode cc pc = .ok (.aaload, 1)) (hk : dmb ad t cc1 i = true) (hcel : cel cy ad M t cc1 i = .inl (cA, n, .inr (.inr (.inr (.inr f))))) (ht : (tyl cy)[tq]? = some (cA, .object C)) (h1 : 0 ≤ a) (h2 : a < n) (hn : n < 2147483648) (hv : f a.toNat = some b) (kk : V p l e R s m args below meth c nL cy D ad A kc ks Q (pc + 1) lv (.ref b :: st) M) : V p l e R s m args below meth c nL cy D ad A kc ks Q pc lv (.int (i32 a) :: .ref (ad t cc1 i) :: st) M := by
  obtain ⟨hx, hb, hml, hown, hr, hlk, hts, hK, hI, hA1, hA2⟩ := F
  intro H locs ls hP hS hl
  obtain ⟨q0, hq, hw⟩ := ws_at (cy := cy) (ad := ad) M hk
  refine va_aldq hx hb hK.1 hP q0 tq (by rw [hw, hcel]) ht (i32_in h1 h2 hn) d ?_
  rw [i32_cl h1 (by omega), hv]
  exact kk H locs ls hP hS hl
theorem r_aaldA (F : Fx p s m args meth c own cc nL ret cy D ad A) {t cc1 : Nat} {i a : Int} {n tq : Nat} {cA : ClassId} {f : Nat → Option Nat} {b : Nat} (d : decode cc pc = .ok (.aaload, 1)) (hk : dmb ad t cc1 i = true) (hcel : cel cy ad M t cc1 i = .inl (cA, n, .inr (.inr (.inr (.inr f))))) (ht : (tyl cy)[tq]? = some (cA, .array .int)) (h1 : 0 ≤ a) (h2 : a < n) (hn : n < 2147483648) (hv : f a.toNat = some b) (kk : V p l e R s m args below meth c nL cy D ad A kc ks Q (pc + 1) lv (.ref b :: st) M) : V p l e R s m args below meth c nL cy D ad A kc ks Q pc lv (.int (i32 a) :: .ref (ad t cc1 i) :: st) M := by
  obtain ⟨hx, hb, hml, hown, hr, hlk, hts, hK, hI, hA1, hA2⟩ := F
  intro H locs ls hP hS hl
  obtain ⟨q0, hq, hw⟩ := ws_at (cy := cy) (ad := ad) M hk
  have hlt : (i32 a).toNatClampNeg < n := by rw [i32_cl h1 (by omega)]; omega
  have hin := i32_in h1 h2 hn
  refine W.aald (v := va_rf (f (i32 a).toNatClampNeg)) (ty := .array .int) hx hb (hP q0 (ad t cc1 i, .inl (cA, n, .inr (.inr (.inr (.inr f))))) (by rw [hw, hcel])) ((hK.1.2 tq _ ht).1 n (fun j => va_rf (f j))) rfl (fun q => by cases q) (by show ¬ (i32 a < 0 ∨ (arrV _ _ _).slots.size ≤ _); rw [arrV_size]; exact hin) (by show (arrV _ _ _).slots[_]? = _; rw [arrV_read _ _ hlt]) rfl rfl d ?_
  rw [i32_cl h1 (by omega), hv]
  exact kk H locs ls hP hS hl
theorem r_alen (F : Fx p s m args meth c own cc nL ret cy D ad A) {t cc1 : Nat} {i : Int} {cA : ClassId} {x : vp_A} {tq : Nat} {ty : FieldType} (d : decode cc pc = .ok (.arraylength, 1)) (hk : dmb ad t cc1 i = true) (hcel : cel cy ad M t cc1 i = .inl (cA, x)) (ht : (tyl cy)[tq]? = some (cA, ty)) (kk : V p l e R s m args below meth c nL cy D ad A kc ks Q (pc + 1) lv (.int (i32 (x.1 : Int)) :: st) M) : V p l e R s m args below meth c nL cy D ad A kc ks Q pc lv (.ref (ad t cc1 i) :: st) M := by
  obtain ⟨hx, hb, hml, hown, hr, hlk, hts, hK, hI, hA1, hA2⟩ := F
  intro H locs ls hP hS hl
  obtain ⟨q0, hq, hw⟩ := ws_at (cy := cy) (ad := ad) M hk
  exact va_alen hx hb hK.1 hP q0 tq (by rw [hw, hcel]) ht (v := i32 (x.1 : Int)) (by show Int32.ofNat _ = Int32.ofInt _; rw [Int32.ofInt_eq_ofNat]) d (kk H locs ls hP hS hl)
theorem V.mem {M1 : Mem} (h : wsOf cy ad M = wsOf cy ad M1) (k : V p l e R s m args below meth c nL cy D ad A kc ks Q pc lv st M1) : V p l e R s m args below meth c nL cy D ad A kc ks Q pc lv st M := fun H locs ls hP hS hl => k H locs ls (by rw [← h]; exact hP) hS hl
theorem V.loc {lv1 : List (Option Value)} (hs : ∀ (i : Nat) (v : Value), lv1[i]? = some (some v) → lv[i]? = some (some v)) (k : V p l e R s m args below meth c nL cy D ad A kc ks Q pc lv1 st M) : V p l e R s m args below meth c nL cy D ad A kc ks Q pc lv st M := fun H locs ls hP hS hl => k H locs ls hP hS (hl.le hs)
theorem V.wide {kc1 ks1 : Nat} (h1 : kc ≤ kc1) (h2 : ks ≤ ks1) (k : V p l e R s m args below meth c nL cy D ad A kc1 ks1 Q pc lv st M) : V p l e R s m args below meth c nL cy D ad A kc ks Q pc lv st M := fun H locs ls hP hS hl => W.widen h1 h2 (k H locs ls hP hS hl)
end VROWS
end
section
/-! Contracts of methods over the world, their starts, ends and calls. -/
def wsT (y : MethodName) (bytes : ByteArray) (maxL : Nat) (ret : Option FieldType) : List Cond := Cond.code y bytes maxL ret :: TB
def RM (lev : Nat) : Room := { frames := lev, cells := 0, slots := 0, locals := 30 * lev }
def Pn (cy : Nat → ClassId) (D : va_G) (ad : Nat → Nat → Int → Nat) (sz : Nat) (As : List Value) (M : Mem) : Array Value → State → Prop := va_Pc As (fun U => U.heap.size = sz ∧ va_P D vwCl (wsOf cy ad M) U.heap ∧ Kp cy D U ∧ Inj ad)
def Qn (cy : Nat → ClassId) (D : va_G) (ad : Nat → Nat → Int → Nat) (sz : Nat) (r : Option Value) (M : Mem) : Array Value → State → Outcome → State → Prop := fun _ st o t => (o = .returned r ∧ va_P D vwCl (wsOf cy ad M) t.heap) ∧ va_F (Aw ad sz) st t
/-- a method that returns: its answer and the memory behind it -/
def Ct (l : Launch) (cy : Nat → ClassId) (D : va_G) (ad : Nat → Nat → Int → Nat) (y : MethodName) (bytes : ByteArray) (maxL : Nat) (ret : Option FieldType) (lev : Nat) (As : List Value) (M : Mem) (r : Option Value) (M1 : Mem) : Prop :=
  ∀ sz : Nat, Met l y (wsT y bytes maxL ret) (RM lev) (Pn cy D ad sz As M) (Qn cy D ad sz r M1) 0 0 (Aw ad sz)
theorem Pn_blind (cy : Nat → ClassId) (D : va_G) (ad : Nat → Nat → Int → Nat) (sz : Nat) (As : List Value) (M : Mem) : FrameBlind (Pn cy D ad sz As M) := by
  intro a U g mk q
  obtain ⟨q0, q1, q2, q3, q4⟩ := q
  exact ⟨q0, q1, q2, Kp.same (s := U) (U := U.calling g mk a) rfl q3, q4⟩
theorem Ct.mk {l : Launch} {cy : Nat → ClassId} {D : va_G} {ad : Nat → Nat → Int → Nat} {y : MethodName} {bytes : ByteArray} {maxL : Nat} {ret : Option FieldType} {lev : Nat} {As : List Value} {M M1 : Mem} {r : Option Value} {lv : List (Option Value)} (n : Nat)
    (hy : plainName y.cls = true) (hlv : lve As ++ List.replicate n none = lv) (hlen : (lg_sl As).length ≤ maxL)
    (body : ∀ (p : Program) (e : Env) (s : State) (m : MethodId) (below : List Frame) (meth : Method) (c : Code), Fx p s m As.toArray meth c y.cls bytes maxL ret cy D ad (Aw ad s.heap.size) →
      V p l e (RM lev) s m As.toArray below meth c maxL cy D ad (Aw ad s.heap.size) 0 0 (MQ below (Qn cy D ad s.heap.size r M1) As.toArray s 0 0 (Aw ad s.heap.size)) 0 lv [] M) : Ct l cy D ad y bytes maxL ret lev As M r M1 := by
  intro sz
  refine Met.ofW (cc := bytes) (maxL := maxL) (ret := ret) hy rfl ?_
  intro p e s m args below meth c s₁ B hml hv
  obtain ⟨rfl, hsz, hP, hK, hI⟩ := hv
  subst hsz
  have hts : ∀ w ∈ TB, w.before As.toArray s = true := fun w hw => atoms_spec (ws := wsT y bytes maxL ret) B.pre w (List.mem_cons_of_mem _ hw)
  have F : Fx p s m As.toArray meth c y.cls bytes maxL ret cy D ad (Aw ad s.heap.size) := ⟨B.exec, B.bytes, hml, findClass_of_methodNamed B.named, B.returns, B.notSynchronized, hts, hK, hI, fun t c i h => Or.inl ⟨t, c, i, h, rfl⟩, fun q h => Or.inr h⟩
  have hl := lv_entry As (n := maxL) hlen
  rw [lg_entry_eq]
  refine body p e s m below meth c F s.heap [] _ hP va_S.rf ⟨hl.1, hl.2.1, fun i v hi => hl.2.2 (i, v) ?_⟩
  have hi2 : (lve As)[i]? = some (some v) := by
    rw [← hlv] at hi
    by_cases h : i < (lve As).length
    · rw [List.getElem?_append_left h] at hi
      exact hi
    · rw [List.getElem?_append_right (by omega), List.getElem?_replicate] at hi
      split at hi <;> cases hi
  simpa using lve_mem As 0 i v hi2
def LkV (own : String) (index : Nat) (y : MethodName) (n : Nat) : Prop := (Cond.methodLink own index y ∈ TB ∧ Cond.instanceMethod y ∈ TB ∧ Cond.selects y.cls y y ∈ TB ∧ Cond.initialized y.cls ∈ TB) ∧ y.cls ≠ "java/lang/invoke/MethodHandle" ∧ y.cls ≠ "java/lang/invoke/VarHandle" ∧ (parseMethodDescriptor y.desc).map (fun d => d.parameters.length) = some n
def LkS (own : String) (index : Nat) (y : MethodName) (n : Nat) : Prop := (Cond.methodLink own index y ∈ TB ∧ Cond.static y ∈ TB ∧ Cond.initialized y.cls ∈ TB) ∧ y.cls ≠ "java/lang/invoke/MethodHandle" ∧ y.cls ≠ "java/lang/invoke/VarHandle" ∧ (parseMethodDescriptor y.desc).map (fun d => d.parameters.length) = some n
def LkSN (own : String) (index : Nat) (y : MethodName) (host : String) (n : Nat) : Prop := (Cond.methodLinkNest own index y host ∈ lw_tbl ∧ Cond.static y ∈ TB ∧ Cond.initialized y.cls ∈ TB) ∧ y.cls ≠ "java/lang/invoke/MethodHandle" ∧ y.cls ≠ "java/lang/invoke/VarHandle" ∧ (parseMethodDescriptor y.desc).map (fun d => d.parameters.length) = some n
section CALLS
variable {p : Program} {l : Launch} {e : Env} {R : Room} {s : State} {m : MethodId} {args : Array Value} {below : List Frame} {meth : Method} {c : Code} {nL : Nat} {cy : Nat → ClassId} {D : va_G} {ad : Nat → Nat → Int → Nat} {A : Nat → Prop} {kc ks : Nat} {Q : State → Prop} {pc : Nat} {lv : List (Option Value)} {st : List Value} {M : Mem} {own : String} {cc : ByteArray} {ret : Option FieldType}
theorem Aw_sub (hA1 : ∀ (t c : Nat) (i : Int), dmb ad t c i = true → A (ad t c i)) (hA2 : ∀ q : Nat, s.heap.size ≤ q → A q) {sz : Nat} (h : s.heap.size ≤ sz) : ∀ q, Aw ad sz q → A q := by
  intro q hq
  rcases hq with ⟨t, c, i, h1, h2⟩ | h1
  · rw [h2]; exact hA1 t c i h1
  · exact hA2 q (Nat.le_trans h h1)
theorem r_after {aa : Array Value} {stk : List Value} {r : Option Value} {M1 : Mem} (hA1 : ∀ (t c : Nat) (i : Int), dmb ad t c i = true → A (ad t c i)) (hA2 : ∀ q : Nat, s.heap.size ≤ q → A q)
    (run : ∀ (H : Heap) (locs : List Loc) (ls : Array Slot), va_P D vwCl (wsOf cy ad M) H → va_S A s.heap H locs → lvh nL ls lv → va_Run p l e R s m args below meth c H locs kc ks 0 0 (F0 m pc ls stk) st (Qn cy D ad H.size r M1 aa) (Aw ad H.size))
    (kk : V p l e R s m args below meth c nL cy D ad A kc ks Q (pc + 3) lv (r.toList ++ st) M1) : V p l e R s m args below meth c nL cy D ad A kc ks Q pc lv stk M := by
  intro H locs ls hP hS hl T hT X
  obtain ⟨v, st₀, t, T', L, h0, X', hL, e1, e2, ⟨⟨hv, hP1⟩, hz, hk⟩, stp⟩ := run H locs ls hP hS hl T hT X
  cases hv
  rw [h0] at hz hk
  have hsub := Aw_sub hA1 hA2 (sz := H.size) hS.1
  have hS1 : va_S A s.heap T'.heap (locs ++ L) := ⟨Nat.le_trans hS.1 (by rw [e1]; exact hz), fun q h1 h2 => by
      rw [e1, hk q (Nat.lt_of_lt_of_le h1 hS.1) (fun z => h2 (hsub q z))]; exact hS.2.1 q h1 h2, fun q hq => by
      rcases List.mem_append.mp hq with h | h
      · exact hS.2.2 q h
      · exact hsub _ (hL q h)⟩
  obtain ⟨t2, a1, b1⟩ := kk T'.heap (locs ++ L) ls (by rw [e1]; exact hP1) hS1 hl T' rfl X'
  exact ⟨t2, stp t2 a1, b1⟩

theorem r_callV (F : Fx p s m args meth c own cc nL ret cy D ad A) {y : MethodName} {bytes : ByteArray} {maxL n lev index t cc1 ci N : Nat} {i : Int} {ret1 : Option FieldType} {fs : List Value} {T : u_T} {As stk : List Value} {r : Option Value} {M1 : Mem} (hM : Ct l cy D ad y bytes maxL ret1 lev (.ref (ad t cc1 i) :: As) M r M1) (d : decode cc pc = .ok (.invokevirtual index, 3)) (lk : LkV own index y n) (hn : As.length = n) (hst : stk = As.reverse ++ .ref (ad t cc1 i) :: st) (hk : dmb ad t cc1 i = true) (hcel : cel cy ad M t cc1 i = .inr (ci, fs)) (hc : vwCl[ci]? = some (y.cls, T, N)) (hcd : Cond.code y bytes maxL ret1 ∈ TB) (hR : lev + 1 ≤ R.frames ∧ 8 + (maxL + 11) + 30 * lev ≤ R.locals) (hf : kc ≤ R.cells ∧ ks ≤ R.slots) (hw : (st.map fun v => v.category).sum ≤ 8) (kk : V p l e R s m args below meth c nL cy D ad A kc ks Q (pc + 3) lv (r.toList ++ st) M1) : V p l e R s m args below meth c nL cy D ad A kc ks Q pc lv stk M := by
  obtain ⟨hx, hb, hml, hown, hr, hlk, hts, hK, hI, hA1, hA2⟩ := F
  subst hst
  obtain ⟨⟨l1, l2, l3, l4⟩, g1, g2, g3⟩ := lk
  refine r_after (aa := (Value.ref (ad t cc1 i) :: As).toArray) hA1 hA2 (fun H locs ls hP hS hl => ?_) kk
  obtain ⟨q0, hq, hw1⟩ := ws_at (cy := cy) (ad := ad) M hk
  refine va_runV (Ts := TB) (C := y.cls) (rm := RM lev) ⟨hx, hb, hml, hown, hts⟩ (hM H.size) (cwV n hts (tb_good (fun _ h => h) (X := wsV own index y.cls y (wsT y bytes maxL ret1)) ?_) rfl rfl rfl ⟨rfl, g1, g2, g3⟩ hR) ⟨Pn_blind _ _ _ _ _ _, va_recv hK.1 hP hc (by rw [hw1, hcel]), fun U hU hW => ⟨rfl, by rw [hU], by rw [hU]; exact hP, hK.warm hW, hI⟩⟩ rfl hn hl.1 rfl (lv_room hw) d ⟨hf.1, hf.2⟩
  intro w hw2
  simp only [wsV, List.mem_append, List.mem_cons, List.not_mem_nil, or_false, wsT] at hw2
  rcases hw2 with (rfl | rfl | rfl | rfl) | (rfl | h)
  · exact l1
  · exact l2
  · exact l3
  · exact l4
  · exact hcd
  · exact h
theorem r_callS (F : Fx p s m args meth c own cc nL ret cy D ad A) {y : MethodName} {bytes : ByteArray} {maxL n lev index : Nat} {ret1 : Option FieldType} {As stk : List Value} {r : Option Value} {M1 : Mem} (hM : Ct l cy D ad y bytes maxL ret1 lev As M r M1) (d : decode cc pc = .ok (.invokestatic index, 3)) (lk : LkS own index y n) (hn : As.length = n) (hst : stk = As.reverse ++ st) (hcd : Cond.code y bytes maxL ret1 ∈ TB) (hR : lev + 1 ≤ R.frames ∧ 8 + (maxL + 11) + 30 * lev ≤ R.locals) (hf : kc ≤ R.cells ∧ ks ≤ R.slots) (hw : (st.map fun v => v.category).sum ≤ 8) (kk : V p l e R s m args below meth c nL cy D ad A kc ks Q (pc + 3) lv (r.toList ++ st) M1) : V p l e R s m args below meth c nL cy D ad A kc ks Q pc lv stk M := by
  obtain ⟨hx, hb, hml, hown, hr, hlk, hts, hK, hI, hA1, hA2⟩ := F
  subst hst
  obtain ⟨⟨l1, l2, l4⟩, g1, g2, g3⟩ := lk
  refine r_after (aa := As.toArray) hA1 hA2 (fun H locs ls hP hS hl => ?_) kk
  refine va_runS (Ts := TB) (rm := RM lev) ⟨hx, hb, hml, hown, hts⟩ (hM H.size) (va_cwS n hts (tb_good (fun _ h => h) (X := va_wsS own index y (wsT y bytes maxL ret1)) ?_) rfl rfl rfl ⟨g1, g2, g3⟩ hR) ⟨Pn_blind _ _ _ _ _ _, fun U hU hW => ⟨rfl, by rw [hU], by rw [hU]; exact hP, hK.warm hW, hI⟩⟩ rfl hn hl.1 rfl (lv_room hw) d ⟨hf.1, hf.2⟩
  intro w hw2
  simp only [va_wsS, List.mem_append, List.mem_cons, List.not_mem_nil, or_false, wsT] at hw2
  rcases hw2 with (rfl | rfl | rfl) | (rfl | h)
  · exact l1
  · exact l2
  · exact l4
  · exact hcd
  · exact h
theorem r_callSN (F : Fx p s m args meth c own cc nL ret cy D ad A) {y : MethodName} {bytes : ByteArray} {maxL n lev index : Nat} {host : String} {ret1 : Option FieldType} {As stk : List Value} {r : Option Value} {M1 : Mem} (hM : Ct l cy D ad y bytes maxL ret1 lev As M r M1) (d : decode cc pc = .ok (.invokestatic index, 3)) (lk : LkSN own index y host n) (hn : As.length = n) (hst : stk = As.reverse ++ st) (hcd : Cond.code y bytes maxL ret1 ∈ TB) (hR : lev + 1 ≤ R.frames ∧ 8 + (maxL + 11) + 30 * lev ≤ R.locals) (hf : kc ≤ R.cells ∧ ks ≤ R.slots) (hw : (st.map fun v => v.category).sum ≤ 8) (kk : V p l e R s m args below meth c nL cy D ad A kc ks Q (pc + 3) lv (r.toList ++ st) M1) : V p l e R s m args below meth c nL cy D ad A kc ks Q pc lv stk M := by
  obtain ⟨hx, hb, hml, hown, hr, hlk, hts, hK, hI, hA1, hA2⟩ := F
  subst hst
  obtain ⟨⟨l1, l2, l4⟩, g1, g2, g3⟩ := lk
  refine r_after (aa := As.toArray) hA1 hA2 (fun H locs ls hP hS hl => ?_) kk
  refine va_runSN (Ts := TB) (rm := RM lev) (host := host) ⟨hx, hb, hml, hown, hts⟩ (hM H.size) ⟨va_cnB n hts (tb_good (fun _ h => h) (X := wsT y bytes maxL ret1) ?_) rfl rfl rfl (hK.2.1 _ l1 rfl) (hts _ l4) ⟨g1, g2, g3⟩ hR, hts _ l2, trivial⟩ ⟨Pn_blind _ _ _ _ _ _, fun U hU hW => ⟨rfl, by rw [hU], by rw [hU]; exact hP, hK.warm hW, hI⟩⟩ rfl hn hl.1 rfl (lv_room hw) d ⟨hf.1, hf.2⟩
  intro w hw2
  simp only [List.mem_cons, wsT] at hw2
  rcases hw2 with (rfl | h)
  · exact hcd
  · exact h
def iabs (a : Int) : Int := if 0 ≤ a then a else -a
theorem r_mabs (F : Fx p s m args meth c own cc nL ret cy D ad A) {a : Int} {index : Nat} (d : decode cc pc = .ok (.invokestatic index, 3)) (h1 : Cond.methodLink own index Lib.Math.abs.name ∈ TB) (h2 : Cond.static Lib.Math.abs.name ∈ TB) (h3 : Cond.initialized "java/lang/Math" ∈ TB) (h4 : Cond.code Lib.Math.abs.name Lib.Math.abs.code 1 (some .int) ∈ TB) (hfr : 1 ≤ R.frames) (hlo : (st.map fun v => v.category).sum + 13 ≤ R.locals) (hf : kc ≤ R.cells ∧ ks ≤ R.slots) (ha : ir a) (kk : V p l e R s m args below meth c nL cy D ad A kc ks Q (pc + 3) lv (.int (i32 (iabs a)) :: st) M) : V p l e R s m args below meth c nL cy D ad A kc ks Q pc lv (.int (i32 a) :: st) M := by
  obtain ⟨hx, hb, hml, hown, hr, hlk, hts, hK, hI, hA1, hA2⟩ := F
  intro H locs ls hP hS hl
  refine va_mabs hx hb (hml.trans hl.1.symm) hown (hts _ h1) (hts _ h2) (hts _ h3) (hts _ h4) hfr hlo hf.1 hf.2 d ?_
  have e : (if 0 ≤ i32 a then i32 a else 0 - i32 a) = i32 (iabs a) := by
    have h0 : (0 : Int32) ≤ i32 a ↔ 0 ≤ a := i32_le (a := 0) ⟨by decide, by decide⟩ ha
    unfold iabs
    by_cases h : 0 ≤ a
    · rw [if_pos h, if_pos (h0.mpr h)]
    · rw [if_neg h, if_neg (fun z => h (h0.mp z)), show (0 : Int32) = i32 0 from rfl, i32_sub, Int.zero_sub]
  rw [e]
  exact kk H locs ls hP hS hl
theorem r_mmax (F : Fx p s m args meth c own cc nL ret cy D ad A) {a b : Int} {index : Nat} (d : decode cc pc = .ok (.invokestatic index, 3)) (h1 : Cond.methodLink own index Lib.Math.max.name ∈ TB) (h2 : Cond.static Lib.Math.max.name ∈ TB) (h3 : Cond.initialized "java/lang/Math" ∈ TB) (h4 : Cond.code Lib.Math.max.name Lib.Math.max.code 2 (some .int) ∈ TB) (hfr : 1 ≤ R.frames) (hlo : (st.map fun v => v.category).sum + 13 ≤ R.locals) (hf : kc ≤ R.cells ∧ ks ≤ R.slots) (ha : ir a) (hb9 : ir b) (kk : V p l e R s m args below meth c nL cy D ad A kc ks Q (pc + 3) lv (.int (i32 (max a b)) :: st) M) : V p l e R s m args below meth c nL cy D ad A kc ks Q pc lv (.int (i32 b) :: .int (i32 a) :: st) M := by
  obtain ⟨hx, hb, hml, hown, hr, hlk, hts, hK, hI, hA1, hA2⟩ := F
  intro H locs ls hP hS hl
  refine va_mmax hx hb (hml.trans hl.1.symm) hown (hts _ h1) (hts _ h2) (hts _ h3) (hts _ h4) hfr hlo hf.1 hf.2 d ?_
  have e : (if i32 a < i32 b then i32 b else i32 a) = i32 (max a b) := by
    have h0 := i32_lt ha hb9
    by_cases h : a < b
    · rw [if_pos (h0.mpr h)]
      congr 1
      omega
    · rw [if_neg (fun z => h (h0.mp z))]
      congr 1
      omega
  rw [e]
  exact kk H locs ls hP hS hl
theorem r_mmin (F : Fx p s m args meth c own cc nL ret cy D ad A) {a b : Int} {index : Nat} (d : decode cc pc = .ok (.invokestatic index, 3)) (h1 : Cond.methodLink own index Lib.Math.min.name ∈ TB) (h2 : Cond.static Lib.Math.min.name ∈ TB) (h3 : Cond.initialized "java/lang/Math" ∈ TB) (h4 : Cond.code Lib.Math.min.name Lib.Math.min.code 2 (some .int) ∈ TB) (hfr : 1 ≤ R.frames) (hlo : (st.map fun v => v.category).sum + 13 ≤ R.locals) (hf : kc ≤ R.cells ∧ ks ≤ R.slots) (ha : ir a) (hb9 : ir b) (kk : V p l e R s m args below meth c nL cy D ad A kc ks Q (pc + 3) lv (.int (i32 (min a b)) :: st) M) : V p l e R s m args below meth c nL cy D ad A kc ks Q pc lv (.int (i32 b) :: .int (i32 a) :: st) M := by
  obtain ⟨hx, hb, hml, hown, hr, hlk, hts, hK, hI, hA1, hA2⟩ := F
  intro H locs ls hP hS hl
  refine va_mmin hx hb (hml.trans hl.1.symm) hown (hts _ h1) (hts _ h2) (hts _ h3) (hts _ h4) hfr hlo hf.1 hf.2 d ?_
  have e : (if i32 b < i32 a then i32 b else i32 a) = i32 (min a b) := by
    have h0 := i32_lt hb9 ha
    by_cases h : b < a
    · rw [if_pos (h0.mpr h)]
      congr 1
      omega
    · rw [if_neg (fun z => h (h0.mp z))]
      congr 1
      omega
  rw [e]
  exact kk H locs ls hP hS hl
theorem q_end {r r1 : Option Value} {M1 : Mem} {H : Heap} {locs : List Loc} (hv : r = r1) (hM : wsOf cy ad M = wsOf cy ad M1) (hP : va_P D vwCl (wsOf cy ad M) H) (hS : va_S (Aw ad s.heap.size) s.heap H locs) : ∀ t : State, t.heap = H → s.WarmedH t.vm → Qn cy D ad s.heap.size r1 M1 args s (.returned r) t := by
  intro t ht hW
  subst hv
  exact ⟨⟨rfl, by rw [ht, ← hM]; exact hP⟩, hS.F ht⟩

theorem r_iret (F : Fx p s m args meth c own cc nL ret cy D ad (Aw ad s.heap.size)) {a b : Int} {M1 : Mem} (d : decode cc pc = .ok (.ireturn, 1)) (hret : ret = some .int) (hv : a = b) (hM : M = M1) : V p l e R s m args below meth c nL cy D ad (Aw ad s.heap.size) kc ks (MQ below (Qn cy D ad s.heap.size (some (.int (i32 b))) M1) args s kc ks (Aw ad s.heap.size)) pc lv [.int (i32 a)] M := by
  obtain ⟨hx, hb, hml, hown, hr, hlk, hts, hK, hI, hA1, hA2⟩ := F
  subst hv; subst hM
  intro H locs ls hP hS hl
  exact W.iret hx hb (hr.trans hret) (q_end rfl rfl hP hS) hS.2.2 d hlk
theorem r_zret (F : Fx p s m args meth c own cc nL ret cy D ad (Aw ad s.heap.size)) {a : Int} {b : Bool} {M1 : Mem} (d : decode cc pc = .ok (.ireturn, 1)) (hret : ret = some .boolean) (hv : a = bi b) (hM : M = M1) : V p l e R s m args below meth c nL cy D ad (Aw ad s.heap.size) kc ks (MQ below (Qn cy D ad s.heap.size (some (.int (i32 (bi b)))) M1) args s kc ks (Aw ad s.heap.size)) pc lv [.int (i32 a)] M := by
  obtain ⟨hx, hb, hml, hown, hr, hlk, hts, hK, hI, hA1, hA2⟩ := F
  subst hv; subst hM
  intro H locs ls hP hS hl
  exact W.zret hx hb (hr.trans hret) (bi_nar b) (q_end rfl rfl hP hS) hS.2.2 d hlk
theorem r_vret (F : Fx p s m args meth c own cc nL ret cy D ad (Aw ad s.heap.size)) {M1 : Mem} (d : decode cc pc = .ok (.return_, 1)) (hret : ret = none) (hM : M = M1) : V p l e R s m args below meth c nL cy D ad (Aw ad s.heap.size) kc ks (MQ below (Qn cy D ad s.heap.size none M1) args s kc ks (Aw ad s.heap.size)) pc lv [] M := by
  obtain ⟨hx, hb, hml, hown, hr, hlk, hts, hK, hI, hA1, hA2⟩ := F
  subst hM
  intro H locs ls hP hS hl
  exact W.vret hx hb (hr.trans hret) (q_end rfl rfl hP hS) hS.2.2 d hlk
theorem r_lret (F : Fx p s m args meth c own cc nL ret cy D ad (Aw ad s.heap.size)) {a b : Int64} {M1 : Mem} (d : decode cc pc = .ok (.lreturn, 1)) (hret : ret = some .long) (hv : a = b) (hM : M = M1) : V p l e R s m args below meth c nL cy D ad (Aw ad s.heap.size) kc ks (MQ below (Qn cy D ad s.heap.size (some (.long b)) M1) args s kc ks (Aw ad s.heap.size)) pc lv [.long a] M := by
  obtain ⟨hx, hb, hml, hown, hr, hlk, hts, hK, hI, hA1, hA2⟩ := F
  subst hv; subst hM
  intro H locs ls hP hS hl
  exact W.lret hx hb (hr.trans hret) (q_end rfl rfl hP hS) hS.2.2 d hlk
theorem r_dret (F : Fx p s m args meth c own cc nL ret cy D ad (Aw ad s.heap.size)) {a b : UInt64} {M1 : Mem} (d : decode cc pc = .ok (.dreturn, 1)) (hret : ret = some .double) (hv : a = b) (hM : M = M1) : V p l e R s m args below meth c nL cy D ad (Aw ad s.heap.size) kc ks (MQ below (Qn cy D ad s.heap.size (some (.double b)) M1) args s kc ks (Aw ad s.heap.size)) pc lv [.double a] M := by
  obtain ⟨hx, hb, hml, hown, hr, hlk, hts, hK, hI, hA1, hA2⟩ := F
  subst hv; subst hM
  intro H locs ls hP hS hl
  exact W.dret hx hb (hr.trans hret) (q_end rfl rfl hP hS) hS.2.2 d hlk
end CALLS
end
section
set_option maxRecDepth 100000 in
theorem cd_X5_isSame : Cond.code yX5_isSame cX5_isSame 10 (some FieldType.boolean) ∈ TB := tb_of 559 rfl rfl
end
section
/-! Link facts of the tables. -/
theorem inT_X0 : ∀ w ∈ u_ws RX0 TX0 7, w ∈ TB := by decide +kernel
theorem inT_X1 : ∀ w ∈ u_ws RX1 TX1 13, w ∈ TB := by decide +kernel
theorem inT_X2 : ∀ w ∈ u_ws RX2 TX2 3, w ∈ TB := by decide +kernel
theorem inT_X3 : ∀ w ∈ u_ws RX3 TX3 6, w ∈ TB := by decide +kernel
theorem inT_X4 : ∀ w ∈ u_ws RX4 TX4 2, w ∈ TB := by decide +kernel
theorem inT_X5 : ∀ w ∈ u_ws RX5 TX5 10, w ∈ TB := by decide +kernel
theorem lf_X2_9 : Cond.fieldLink RX2 9 RX2 "table" "[I" ∈ TB := tb_of 48 (by decide +kernel) (by decide +kernel)
theorem lf_X4_85 : Cond.fieldLink RX4 85 RX2 "table" "[I" ∈ TB := tb_of 49 (by decide +kernel) (by decide +kernel)
theorem lf_X1_114 : Cond.fieldLink RX1 114 RX2 "table" "[I" ∈ TB := tb_of 50 (by decide +kernel) (by decide +kernel)
theorem lf_X2_21 : Cond.fieldLink RX2 21 RX2 "place" "I" ∈ TB := tb_of 51 (by decide +kernel) (by decide +kernel)
theorem lf_X4_70 : Cond.fieldLink RX4 70 RX2 "place" "I" ∈ TB := tb_of 52 (by decide +kernel) (by decide +kernel)
theorem lf_X1_90 : Cond.fieldLink RX1 90 RX2 "place" "I" ∈ TB := tb_of 53 (by decide +kernel) (by decide +kernel)
theorem lf_X2_25 : Cond.fieldLink RX2 25 RX2 "timesSeen" "I" ∈ TB := tb_of 54 (by decide +kernel) (by decide +kernel)
theorem lf_X1_120 : Cond.fieldLink RX1 120 RX2 "timesSeen" "I" ∈ TB := tb_of 55 (by decide +kernel) (by decide +kernel)
theorem lf_X3_7 : Cond.fieldLink RX3 7 RX3 "from" "I" ∈ TB := tb_of 69 (by decide +kernel) (by decide +kernel)
theorem lf_X3_13 : Cond.fieldLink RX3 13 RX3 "to" "I" ∈ TB := tb_of 70 (by decide +kernel) (by decide +kernel)
theorem lf_X3_16 : Cond.fieldLink RX3 16 RX3 "eyes" "I" ∈ TB := tb_of 71 (by decide +kernel) (by decide +kernel)
theorem lf_X3_19 : Cond.fieldLink RX3 19 RX3 "place" "I" ∈ TB := tb_of 72 (by decide +kernel) (by decide +kernel)
theorem lf_X1_174 : Cond.fieldLink RX1 174 RX3 "place" "I" ∈ TB := tb_of 73 (by decide +kernel) (by decide +kernel)
theorem lf_X3_22 : Cond.fieldLink RX3 22 RX3 "way" "I" ∈ TB := tb_of 74 (by decide +kernel) (by decide +kernel)
theorem lf_X3_25 : Cond.fieldLink RX3 25 RX3 "boatsSeized" "I" ∈ TB := tb_of 75 (by decide +kernel) (by decide +kernel)
theorem lf_X1_175 : Cond.fieldLink RX1 175 RX3 "boatsSeized" "I" ∈ TB := tb_of 76 (by decide +kernel) (by decide +kernel)
theorem lf_X0_9 : Cond.fieldLink RX0 9 RX0 "place" "I" ∈ TB := tb_of 95 (by decide +kernel) (by decide +kernel)
theorem lf_X1_144 : Cond.fieldLink RX1 144 RX0 "place" "I" ∈ TB := tb_of 96 (by decide +kernel) (by decide +kernel)
theorem lf_X0_15 : Cond.fieldLink RX0 15 RX0 "bales" "I" ∈ TB := tb_of 97 (by decide +kernel) (by decide +kernel)
theorem lf_X1_145 : Cond.fieldLink RX1 145 RX0 "bales" "I" ∈ TB := tb_of 98 (by decide +kernel) (by decide +kernel)
theorem lf_X0_18 : Cond.fieldLink RX0 18 RX0 "goal" "I" ∈ TB := tb_of 99 (by decide +kernel) (by decide +kernel)
theorem lf_X4_129 : Cond.fieldLink RX4 129 RX0 "goal" "I" ∈ TB := tb_of 100 (by decide +kernel) (by decide +kernel)
theorem lf_X1_154 : Cond.fieldLink RX1 154 RX0 "goal" "I" ∈ TB := tb_of 101 (by decide +kernel) (by decide +kernel)
theorem lf_X0_21 : Cond.fieldLink RX0 21 RX0 "ledBy" "I" ∈ TB := tb_of 102 (by decide +kernel) (by decide +kernel)
theorem lf_X1_157 : Cond.fieldLink RX1 157 RX0 "ledBy" "I" ∈ TB := tb_of 103 (by decide +kernel) (by decide +kernel)
theorem lf_X0_24 : Cond.fieldLink RX0 24 RX0 "minds" "Z" ∈ TB := tb_of 104 (by decide +kernel) (by decide +kernel)
theorem lf_X1_133 : Cond.fieldLink RX1 133 RX0 "minds" "Z" ∈ TB := tb_of 105 (by decide +kernel) (by decide +kernel)
theorem lf_X0_28 : Cond.fieldLink RX0 28 RX0 "fate" "I" ∈ TB := tb_of 106 (by decide +kernel) (by decide +kernel)
theorem lf_X1_130 : Cond.fieldLink RX1 130 RX0 "fate" "I" ∈ TB := tb_of 107 (by decide +kernel) (by decide +kernel)
theorem lf_X4_189 : Cond.fieldLink RX4 189 RX0 "fate" "I" ∈ TB := tb_of 108 (by decide +kernel) (by decide +kernel)
theorem lf_X0_31 : Cond.fieldLink RX0 31 RX0 "unloaded" "I" ∈ TB := tb_of 109 (by decide +kernel) (by decide +kernel)
theorem lf_X1_148 : Cond.fieldLink RX1 148 RX0 "unloaded" "I" ∈ TB := tb_of 110 (by decide +kernel) (by decide +kernel)
theorem lf_X1_9 : Cond.fieldLink RX1 9 RX1 "room" "[I" ∈ TB := tb_of 126 (by decide +kernel) (by decide +kernel)
theorem lf_X4_39 : Cond.fieldLink RX4 39 RX1 "room" "[I" ∈ TB := tb_of 127 (by decide +kernel) (by decide +kernel)
theorem lf_X1_15 : Cond.fieldLink RX1 15 RX1 "stored" "[I" ∈ TB := tb_of 128 (by decide +kernel) (by decide +kernel)
theorem lf_X4_30 : Cond.fieldLink RX4 30 RX1 "stored" "[I" ∈ TB := tb_of 129 (by decide +kernel) (by decide +kernel)
theorem lf_X1_18 : Cond.fieldLink RX1 18 RX1 "named" "[I" ∈ TB := tb_of 130 (by decide +kernel) (by decide +kernel)
theorem lf_X4_48 : Cond.fieldLink RX4 48 RX1 "named" "[I" ∈ TB := tb_of 131 (by decide +kernel) (by decide +kernel)
theorem lf_X1_21 : Cond.fieldLink RX1 21 RX1 "seen" "[I" ∈ TB := tb_of 132 (by decide +kernel) (by decide +kernel)
theorem lf_X4_51 : Cond.fieldLink RX4 51 RX1 "seen" "[I" ∈ TB := tb_of 133 (by decide +kernel) (by decide +kernel)
theorem lf_X1_26 : Cond.fieldLink RX1 26 RX1 "lanterns" "[LCoveSignals$Lantern;" ∈ TB := tb_of 134 (by decide +kernel) (by decide +kernel)
theorem lf_X4_66 : Cond.fieldLink RX4 66 RX1 "lanterns" "[LCoveSignals$Lantern;" ∈ TB := tb_of 135 (by decide +kernel) (by decide +kernel)
theorem lf_X1_32 : Cond.fieldLink RX1 32 RX1 "watchmen" "[LCoveSignals$Watchman;" ∈ TB := tb_of 136 (by decide +kernel) (by decide +kernel)
theorem lf_X4_97 : Cond.fieldLink RX4 97 RX1 "watchmen" "[LCoveSignals$Watchman;" ∈ TB := tb_of 137 (by decide +kernel) (by decide +kernel)
theorem lf_X1_38 : Cond.fieldLink RX1 38 RX1 "boats" "[LCoveSignals$Boat;" ∈ TB := tb_of 138 (by decide +kernel) (by decide +kernel)
theorem lf_X4_114 : Cond.fieldLink RX4 114 RX1 "boats" "[LCoveSignals$Boat;" ∈ TB := tb_of 139 (by decide +kernel) (by decide +kernel)
theorem lf_X1_51 : Cond.fieldLink RX1 51 RX1 "lanternCount" "I" ∈ TB := tb_of 140 (by decide +kernel) (by decide +kernel)
theorem lf_X4_54 : Cond.fieldLink RX4 54 RX1 "lanternCount" "I" ∈ TB := tb_of 141 (by decide +kernel) (by decide +kernel)
theorem lf_X1_55 : Cond.fieldLink RX1 55 RX1 "watchmanCount" "I" ∈ TB := tb_of 142 (by decide +kernel) (by decide +kernel)
theorem lf_X4_92 : Cond.fieldLink RX4 92 RX1 "watchmanCount" "I" ∈ TB := tb_of 143 (by decide +kernel) (by decide +kernel)
theorem lf_X1_58 : Cond.fieldLink RX1 58 RX1 "boatCount" "I" ∈ TB := tb_of 144 (by decide +kernel) (by decide +kernel)
theorem lf_X4_109 : Cond.fieldLink RX4 109 RX1 "boatCount" "I" ∈ TB := tb_of 145 (by decide +kernel) (by decide +kernel)
theorem lf_X1_71 : Cond.fieldLink RX1 71 RX1 "hour" "I" ∈ TB := tb_of 146 (by decide +kernel) (by decide +kernel)
theorem lf_X1_74 : Cond.fieldLink RX1 74 RX1 "balesSeized" "I" ∈ TB := tb_of 147 (by decide +kernel) (by decide +kernel)
theorem lf_X1_77 : Cond.fieldLink RX1 77 RX1 "balesCarried" "I" ∈ TB := tb_of 148 (by decide +kernel) (by decide +kernel)
theorem lf_X4_139 : Cond.fieldLink RX4 139 RX1 "balesCarried" "I" ∈ TB := tb_of 149 (by decide +kernel) (by decide +kernel)
theorem lf_X4_10 : Cond.fieldLink RX4 10 RX4 "coast" "LCoveSignals$Coast;" ∈ TB := tb_of 177 (by decide +kernel) (by decide +kernel)
theorem lf_X4_16 : Cond.fieldLink RX4 16 RX4 "trial" "LCoveSignals$Coast;" ∈ TB := tb_of 178 (by decide +kernel) (by decide +kernel)
theorem lcl_X4_207 : Cond.constantLong RX4 207 1669 ∈ TB := tb_of 492 (by decide +kernel) (by decide +kernel)
theorem lcl_X4_209 : Cond.constantLong RX4 209 31 ∈ TB := tb_of 493 (by decide +kernel) (by decide +kernel)
theorem lf_X5_40 : Cond.fieldLink RX5 40 RX5 "hour" "I" ∈ TB := tb_of 702 (by decide +kernel) (by decide +kernel)
theorem lf_X5_44 : Cond.fieldLink RX5 44 RX5 "seized" "I" ∈ TB := tb_of 703 (by decide +kernel) (by decide +kernel)
theorem lf_L_76 : Cond.fieldLink RL 76 RX5 "carried" "I" ∈ TB := tb_of 704 (by decide +kernel) (by decide +kernel)
theorem lf_X5_47 : Cond.fieldLink RX5 47 RX5 "carried" "I" ∈ TB := tb_of 705 (by decide +kernel) (by decide +kernel)
theorem lf_X5_7 : Cond.fieldLink RX5 7 RX5 "room" "[I" ∈ TB := tb_of 706 (by decide +kernel) (by decide +kernel)
theorem lf_L_28 : Cond.fieldLink RL 28 RX5 "room" "[I" ∈ TB := tb_of 707 (by decide +kernel) (by decide +kernel)
theorem lf_X5_13 : Cond.fieldLink RX5 13 RX5 "cave" "[I" ∈ TB := tb_of 708 (by decide +kernel) (by decide +kernel)
theorem lf_L_24 : Cond.fieldLink RL 24 RX5 "cave" "[I" ∈ TB := tb_of 709 (by decide +kernel) (by decide +kernel)
theorem lf_X5_16 : Cond.fieldLink RX5 16 RX5 "names" "[I" ∈ TB := tb_of 710 (by decide +kernel) (by decide +kernel)
theorem lf_L_36 : Cond.fieldLink RL 36 RX5 "names" "[I" ∈ TB := tb_of 711 (by decide +kernel) (by decide +kernel)
theorem lf_X5_19 : Cond.fieldLink RX5 19 RX5 "seen" "[I" ∈ TB := tb_of 712 (by decide +kernel) (by decide +kernel)
theorem lf_L_39 : Cond.fieldLink RL 39 RX5 "seen" "[I" ∈ TB := tb_of 713 (by decide +kernel) (by decide +kernel)
theorem lf_X5_23 : Cond.fieldLink RX5 23 RX5 "lanterns" "[[I" ∈ TB := tb_of 714 (by decide +kernel) (by decide +kernel)
theorem lf_L_15 : Cond.fieldLink RL 15 RX5 "lanterns" "[[I" ∈ TB := tb_of 715 (by decide +kernel) (by decide +kernel)
theorem lf_X5_27 : Cond.fieldLink RX5 27 RX5 "watch" "[[I" ∈ TB := tb_of 716 (by decide +kernel) (by decide +kernel)
theorem lf_L_64 : Cond.fieldLink RL 64 RX5 "watch" "[[I" ∈ TB := tb_of 717 (by decide +kernel) (by decide +kernel)
theorem lf_X5_30 : Cond.fieldLink RX5 30 RX5 "boats" "[[I" ∈ TB := tb_of 718 (by decide +kernel) (by decide +kernel)
theorem lf_L_21 : Cond.fieldLink RL 21 RX5 "boats" "[[I" ∈ TB := tb_of 719 (by decide +kernel) (by decide +kernel)
theorem cd_X4_init : Cond.code yX4_init cX4_init 1 none ∈ TB := tb_of 27 (by decide +kernel) rfl
theorem cd_X1_init : Cond.code yX1_init cX1_init 2 none ∈ TB := tb_of 35 (by decide +kernel) rfl
theorem cd_X2_init : Cond.code yX2_init cX2_init 1 none ∈ TB := tb_of 46 (by decide +kernel) rfl
theorem cd_X3_init : Cond.code yX3_init cX3_init 1 none ∈ TB := tb_of 67 (by decide +kernel) rfl
theorem cd_X0_init : Cond.code yX0_init cX0_init 1 none ∈ TB := tb_of 93 (by decide +kernel) rfl
theorem cd_X4_told : Cond.code yX4_told cX4_told 3 (some FieldType.int) ∈ TB := tb_of 187 (by decide +kernel) rfl
theorem cd_X4_requireBoat : Cond.code yX4_requireBoat cX4_requireBoat 2 none ∈ TB := tb_of 191 (by decide +kernel) rfl
theorem cd_X4_requireWhat : Cond.code yX4_requireWhat cX4_requireWhat 3 none ∈ TB := tb_of 262 (by decide +kernel) rfl
theorem cd_X0_tell : Cond.code yX0_tell cX0_tell 2 (some FieldType.int) ∈ TB := tb_of 267 (by decide +kernel) rfl
theorem cd_X0_stage : Cond.code yX0_stage cX0_stage 1 (some FieldType.int) ∈ TB := tb_of 271 (by decide +kernel) rfl
theorem cd_X4_about : Cond.code yX4_about cX4_about 3 (some FieldType.int) ∈ TB := tb_of 275 (by decide +kernel) rfl
theorem cd_X1_moonNow : Cond.code yX1_moonNow cX1_moonNow 1 (some FieldType.int) ∈ TB := tb_of 280 (by decide +kernel) rfl
theorem cd_X4_moonOf : Cond.code yX4_moonOf cX4_moonOf 2 (some FieldType.int) ∈ TB := tb_of 283 (by decide +kernel) rfl
theorem cd_J9_floorMod_7cf53 : Cond.code yJ9_floorMod_7cf53 cJ9_floorMod_7cf53 3 (some FieldType.int) ∈ TB := tb_of 286 (by decide +kernel) rfl
theorem cd_X3_tell : Cond.code yX3_tell cX3_tell 3 (some FieldType.int) ∈ TB := tb_of 290 (by decide +kernel) rfl
theorem cd_X3_sightOfPlaces : Cond.code yX3_sightOfPlaces cX3_sightOfPlaces 2 (some FieldType.int) ∈ TB := tb_of 294 (by decide +kernel) rfl
theorem cd_X3_sightOfLanterns : Cond.code yX3_sightOfLanterns cX3_sightOfLanterns 2 (some FieldType.int) ∈ TB := tb_of 298 (by decide +kernel) rfl
theorem cd_X4_code : Cond.code yX4_code cX4_code 3 (some FieldType.int) ∈ TB := tb_of 302 (by decide +kernel) rfl
theorem cd_X4_requireCode : Cond.code yX4_requireCode cX4_requireCode 1 none ∈ TB := tb_of 305 (by decide +kernel) rfl
theorem cd_X1_tellCode : Cond.code yX1_tellCode cX1_tellCode 3 (some FieldType.int) ∈ TB := tb_of 310 (by decide +kernel) rfl
theorem cd_X1_isKnown : Cond.code yX1_isKnown cX1_isKnown 2 (some FieldType.boolean) ∈ TB := tb_of 314 (by decide +kernel) rfl
theorem cd_X1_boatsAtSeaLedBy : Cond.code yX1_boatsAtSeaLedBy cX1_boatsAtSeaLedBy 4 (some FieldType.int) ∈ TB := tb_of 318 (by decide +kernel) rfl
theorem cd_X4_place : Cond.code yX4_place cX4_place 3 (some FieldType.int) ∈ TB := tb_of 322 (by decide +kernel) rfl
theorem cd_X4_requirePlace : Cond.code yX4_requirePlace cX4_requirePlace 1 none ∈ TB := tb_of 325 (by decide +kernel) rfl
theorem cd_X1_tellPlace : Cond.code yX1_tellPlace cX1_tellPlace 3 (some FieldType.int) ∈ TB := tb_of 330 (by decide +kernel) rfl
theorem cd_X1_watchmenAt : Cond.code yX1_watchmenAt cX1_watchmenAt 4 (some FieldType.int) ∈ TB := tb_of 334 (by decide +kernel) rfl
theorem cd_X1_boatsAtSeaAt : Cond.code yX1_boatsAtSeaAt cX1_boatsAtSeaAt 4 (some FieldType.int) ∈ TB := tb_of 338 (by decide +kernel) rfl
theorem cd_X1_watchmenSeeingPlace : Cond.code yX1_watchmenSeeingPlace cX1_watchmenSeeingPlace 5 (some FieldType.int) ∈ TB := tb_of 342 (by decide +kernel) rfl
theorem cd_X4_distance : Cond.code yX4_distance cX4_distance 2 (some FieldType.int) ∈ TB := tb_of 346 (by decide +kernel) rfl
theorem cd_X4_count : Cond.code yX4_count cX4_count 2 (some FieldType.int) ∈ TB := tb_of 351 (by decide +kernel) rfl
theorem cd_X1_tally : Cond.code yX1_tally cX1_tally 2 (some FieldType.int) ∈ TB := tb_of 355 (by decide +kernel) rfl
theorem cd_X1_boatsOfFate : Cond.code yX1_boatsOfFate cX1_boatsOfFate 4 (some FieldType.int) ∈ TB := tb_of 359 (by decide +kernel) rfl
theorem cd_X1_balesInCaves : Cond.code yX1_balesInCaves cX1_balesInCaves 3 (some FieldType.int) ∈ TB := tb_of 363 (by decide +kernel) rfl
theorem cd_X1_knownCodes : Cond.code yX1_knownCodes cX1_knownCodes 3 (some FieldType.int) ∈ TB := tb_of 367 (by decide +kernel) rfl
theorem cd_X4_pass : Cond.code yX4_pass cX4_pass 3 (some FieldType.int) ∈ TB := tb_of 371 (by decide +kernel) rfl
theorem cd_X4_requireHours : Cond.code yX4_requireHours cX4_requireHours 1 none ∈ TB := tb_of 374 (by decide +kernel) rfl
theorem cd_X1_balesUnloaded : Cond.code yX1_balesUnloaded cX1_balesUnloaded 3 (some FieldType.int) ∈ TB := tb_of 394 (by decide +kernel) rfl
theorem cd_X1_letGoBy : Cond.code yX1_letGoBy cX1_letGoBy 3 none ∈ TB := tb_of 398 (by decide +kernel) rfl
theorem cd_X1_passHour : Cond.code yX1_passHour cX1_passHour 3 none ∈ TB := tb_of 402 (by decide +kernel) rfl
theorem cd_X1_hourOfNight : Cond.code yX1_hourOfNight cX1_hourOfNight 1 (some FieldType.int) ∈ TB := tb_of 406 (by decide +kernel) rfl
theorem cd_X1_noteLanterns : Cond.code yX1_noteLanterns cX1_noteLanterns 6 none ∈ TB := tb_of 411 (by decide +kernel) rfl
theorem cd_X1_watchmenSeeingLantern : Cond.code yX1_watchmenSeeingLantern cX1_watchmenSeeingLantern 5 (some FieldType.int) ∈ TB := tb_of 415 (by decide +kernel) rfl
theorem cd_X1_moveBoats : Cond.code yX1_moveBoats cX1_moveBoats 5 none ∈ TB := tb_of 420 (by decide +kernel) rfl
theorem cd_X0_liesAtGoal : Cond.code yX0_liesAtGoal cX0_liesAtGoal 1 (some FieldType.boolean) ∈ TB := tb_of 424 (by decide +kernel) rfl
theorem cd_X1_unload : Cond.code yX1_unload cX1_unload 5 none ∈ TB := tb_of 428 (by decide +kernel) rfl
theorem cd_X1_followLantern : Cond.code yX1_followLantern cX1_followLantern 9 none ∈ TB := tb_of 432 (by decide +kernel) rfl
theorem cd_X0_sail : Cond.code yX0_sail cX0_sail 3 none ∈ TB := tb_of 436 (by decide +kernel) rfl
theorem cd_X1_moveWatchmen : Cond.code yX1_moveWatchmen cX1_moveWatchmen 3 none ∈ TB := tb_of 441 (by decide +kernel) rfl
theorem cd_X3_walk : Cond.code yX3_walk cX3_walk 1 none ∈ TB := tb_of 445 (by decide +kernel) rfl
theorem cd_X1_seizeFirst : Cond.code yX1_seizeFirst cX1_seizeFirst 7 none ∈ TB := tb_of 449 (by decide +kernel) rfl
theorem cd_X4_until : Cond.code yX4_until cX4_until 4 (some FieldType.int) ∈ TB := tb_of 453 (by decide +kernel) rfl
theorem cd_X1_copyFrom : Cond.code yX1_copyFrom cX1_copyFrom 3 none ∈ TB := tb_of 457 (by decide +kernel) rfl
theorem cd_X2_copyFrom : Cond.code yX2_copyFrom cX2_copyFrom 2 none ∈ TB := tb_of 464 (by decide +kernel) rfl
theorem cd_X3_copyFrom : Cond.code yX3_copyFrom cX3_copyFrom 2 none ∈ TB := tb_of 469 (by decide +kernel) rfl
theorem cd_X0_copyFrom : Cond.code yX0_copyFrom cX0_copyFrom 2 none ∈ TB := tb_of 473 (by decide +kernel) rfl
theorem cd_X4_foresee : Cond.code yX4_foresee cX4_foresee 3 (some FieldType.int) ∈ TB := tb_of 478 (by decide +kernel) rfl
theorem cd_X4_mean : Cond.code yX4_mean cX4_mean 2 (some FieldType.double) ∈ TB := tb_of 482 (by decide +kernel) rfl
theorem cd_X1_balesAtSea : Cond.code yX1_balesAtSea cX1_balesAtSea 3 (some FieldType.int) ∈ TB := tb_of 487 (by decide +kernel) rfl
theorem cd_X4_digest : Cond.code yX4_digest cX4_digest 5 (some FieldType.long) ∈ TB := tb_of 491 (by decide +kernel) rfl
theorem cd_X4_digestOfLanterns : Cond.code yX4_digestOfLanterns cX4_digestOfLanterns 7 (some FieldType.long) ∈ TB := tb_of 500 (by decide +kernel) rfl
theorem cd_X4_light : Cond.code yX4_light cX4_light 3 (some FieldType.int) ∈ TB := tb_of 504 (by decide +kernel) rfl
theorem cd_X4_requireLantern : Cond.code yX4_requireLantern cX4_requireLantern 2 none ∈ TB := tb_of 508 (by decide +kernel) rfl
theorem cd_X1_tellLantern : Cond.code yX1_tellLantern cX1_tellLantern 3 (some FieldType.int) ∈ TB := tb_of 513 (by decide +kernel) rfl
theorem cd_X4_digestOfWatchmen : Cond.code yX4_digestOfWatchmen cX4_digestOfWatchmen 7 (some FieldType.long) ∈ TB := tb_of 517 (by decide +kernel) rfl
theorem cd_X4_digestOfBoats : Cond.code yX4_digestOfBoats cX4_digestOfBoats 7 (some FieldType.long) ∈ TB := tb_of 522 (by decide +kernel) rfl
theorem cd_X5_go : Cond.code yX5_go cX5_go 9 (some FieldType.int) ∈ TB := tb_of 527 (by decide +kernel) rfl
theorem cd_X5_shown : Cond.code yX5_shown cX5_shown 2 (some FieldType.int) ∈ TB := tb_of 531 (by decide +kernel) rfl
theorem cd_X5_lightWatchers : Cond.code yX5_lightWatchers cX5_lightWatchers 4 (some FieldType.int) ∈ TB := tb_of 535 (by decide +kernel) rfl
theorem cd_X5_seesLight : Cond.code yX5_seesLight cX5_seesLight 3 (some FieldType.boolean) ∈ TB := tb_of 539 (by decide +kernel) rfl
theorem cd_X5_far : Cond.code yX5_far cX5_far 2 (some FieldType.int) ∈ TB := tb_of 542 (by decide +kernel) rfl
theorem cd_X5_moon : Cond.code yX5_moon cX5_moon 2 (some FieldType.int) ∈ TB := tb_of 546 (by decide +kernel) rfl
theorem cd_X5_leads : Cond.code yX5_leads cX5_leads 4 (some FieldType.int) ∈ TB := tb_of 551 (by decide +kernel) rfl
theorem cd_X5_sees : Cond.code yX5_sees cX5_sees 4 (some FieldType.boolean) ∈ TB := tb_of 555 (by decide +kernel) rfl
theorem cd_X5_counted : Cond.code yX5_counted cX5_counted 4 (some FieldType.int) ∈ TB := tb_of 564 (by decide +kernel) rfl
theorem cd_X5_in : Cond.code yX5_in cX5_in 7 (some FieldType.int) ∈ TB := tb_of 568 (by decide +kernel) rfl
theorem cd_X5_caves : Cond.code yX5_caves cX5_caves 6 (some FieldType.int) ∈ TB := tb_of 572 (by decide +kernel) rfl
theorem cd_X5_watchers : Cond.code yX5_watchers cX5_watchers 4 (some FieldType.int) ∈ TB := tb_of 576 (by decide +kernel) rfl
theorem cd_X4_moon : Cond.code yX4_moon cX4_moon 2 (some FieldType.int) ∈ TB := tb_of 585 (by decide +kernel) rfl
theorem cd_L_below : Cond.code yL_below cL_below 2 (some FieldType.int) ∈ TB := tb_of 591 (by decide +kernel) rfl
theorem cd_L_cell : Cond.code yL_cell cL_cell 2 (some FieldType.int) ∈ TB := tb_of 595 (by decide +kernel) rfl
theorem cd_X4_setRoom : Cond.code yX4_setRoom cX4_setRoom 4 (some FieldType.int) ∈ TB := tb_of 604 (by decide +kernel) rfl
theorem cd_X4_setCode : Cond.code yX4_setCode cX4_setCode 4 (some FieldType.int) ∈ TB := tb_of 625 (by decide +kernel) rfl
theorem cd_X4_requirePlaceOrNone : Cond.code yX4_requirePlaceOrNone cX4_requirePlaceOrNone 1 none ∈ TB := tb_of 628 (by decide +kernel) rfl
theorem cd_X5_with : Cond.code yX5_with cX5_with 4 (some (FieldType.array (FieldType.array FieldType.int))) ∈ TB := tb_of 632 (by decide +kernel) rfl
theorem cd_X4_lantern : Cond.code yX4_lantern cX4_lantern 3 (some FieldType.int) ∈ TB := tb_of 638 (by decide +kernel) rfl
theorem cd_X1_hasLanternAt : Cond.code yX1_hasLanternAt cX1_hasLanternAt 3 (some FieldType.boolean) ∈ TB := tb_of 643 (by decide +kernel) rfl
theorem cd_X4_setShow : Cond.code yX4_setShow cX4_setShow 6 (some FieldType.int) ∈ TB := tb_of 648 (by decide +kernel) rfl
theorem cd_J9_min_7cf53 : Cond.code yJ9_min_7cf53 cJ9_min_7cf53 2 (some FieldType.int) ∈ TB := tb_of 653 (by decide +kernel) rfl
theorem cd_X4_watchman : Cond.code yX4_watchman cX4_watchman 5 (some FieldType.int) ∈ TB := tb_of 657 (by decide +kernel) rfl
theorem cd_X3_begin : Cond.code yX3_begin cX3_begin 4 none ∈ TB := tb_of 664 (by decide +kernel) rfl
theorem cd_X4_boat : Cond.code yX4_boat cX4_boat 4 (some FieldType.int) ∈ TB := tb_of 668 (by decide +kernel) rfl
theorem cd_X0_begin : Cond.code yX0_begin cX0_begin 3 none ∈ TB := tb_of 674 (by decide +kernel) rfl
theorem cd_X4_send : Cond.code yX4_send cX4_send 4 (some FieldType.int) ∈ TB := tb_of 678 (by decide +kernel) rfl
theorem cd_X4_requireAtSea : Cond.code yX4_requireAtSea cX4_requireAtSea 2 none ∈ TB := tb_of 682 (by decide +kernel) rfl
theorem cd_X0_sendTo : Cond.code yX0_sendTo cX0_sendTo 2 none ∈ TB := tb_of 687 (by decide +kernel) rfl
theorem cd_X4_carry : Cond.code yX4_carry cX4_carry 3 (some FieldType.int) ∈ TB := tb_of 691 (by decide +kernel) rfl
theorem cd_L_build : Cond.code yL_build cL_build 6 (some (FieldType.object "CoveSignalsLaw$Sim")) ∈ TB := tb_of 696 (by decide +kernel) rfl
theorem cd_X5_init : Cond.code yX5_init cX5_init 1 none ∈ TB := tb_of 700 (by decide +kernel) rfl
theorem cd_J9_abs_0f7a4 : Cond.code yJ9_abs_0f7a4 cJ9_abs_0f7a4 1 (some FieldType.int) ∈ TB := tb_of 744 (by decide +kernel) rfl
theorem lkv_L_112 : LkV RL 112 yX4_told 2 := ⟨⟨tb_of 184 (by decide +kernel) (by decide +kernel), tb_of 185 (by decide +kernel) (by decide +kernel), tb_of 186 (by decide +kernel) (by decide +kernel), tb_of 9 (by decide +kernel) (by decide +kernel)⟩, by decide +kernel, by decide +kernel, by decide +kernel⟩
theorem lkv_X4_123 : LkV RX4 123 yX4_requireBoat 1 := ⟨⟨tb_of 188 (by decide +kernel) (by decide +kernel), tb_of 190 (by decide +kernel) (by decide +kernel), tb_of 0 (by decide +kernel) (by decide +kernel), tb_of 9 (by decide +kernel) (by decide +kernel)⟩, by decide +kernel, by decide +kernel, by decide +kernel⟩
theorem lks_X4_142 : LkS RX4 142 yX4_requireWhat 3 := ⟨⟨tb_of 260 (by decide +kernel) (by decide +kernel), tb_of 261 (by decide +kernel) (by decide +kernel), tb_of 9 (by decide +kernel) (by decide +kernel)⟩, by decide +kernel, by decide +kernel, by decide +kernel⟩
theorem lkv_X4_145 : LkV RX4 145 yX0_tell 1 := ⟨⟨tb_of 264 (by decide +kernel) (by decide +kernel), tb_of 265 (by decide +kernel) (by decide +kernel), tb_of 266 (by decide +kernel) (by decide +kernel), tb_of 13 (by decide +kernel) (by decide +kernel)⟩, by decide +kernel, by decide +kernel, by decide +kernel⟩
theorem lkv_X0_38 : LkV RX0 38 yX0_stage 0 := ⟨⟨tb_of 268 (by decide +kernel) (by decide +kernel), tb_of 269 (by decide +kernel) (by decide +kernel), tb_of 270 (by decide +kernel) (by decide +kernel), tb_of 13 (by decide +kernel) (by decide +kernel)⟩, by decide +kernel, by decide +kernel, by decide +kernel⟩
theorem lkv_L_128 : LkV RL 128 yX4_about 2 := ⟨⟨tb_of 272 (by decide +kernel) (by decide +kernel), tb_of 273 (by decide +kernel) (by decide +kernel), tb_of 274 (by decide +kernel) (by decide +kernel), tb_of 9 (by decide +kernel) (by decide +kernel)⟩, by decide +kernel, by decide +kernel, by decide +kernel⟩
theorem lkv_X4_151 : LkV RX4 151 yX1_moonNow 0 := ⟨⟨tb_of 277 (by decide +kernel) (by decide +kernel), tb_of 278 (by decide +kernel) (by decide +kernel), tb_of 279 (by decide +kernel) (by decide +kernel), tb_of 10 (by decide +kernel) (by decide +kernel)⟩, by decide +kernel, by decide +kernel, by decide +kernel⟩
theorem lksn_X1_80 : LkSN RX1 80 yX4_moonOf RX4 1 := ⟨⟨List.mem_of_getElem? (i := 281) (by decide +kernel), tb_of 282 (by decide +kernel) (by decide +kernel), tb_of 9 (by decide +kernel) (by decide +kernel)⟩, by decide +kernel, by decide +kernel, by decide +kernel⟩
theorem lks_X4_257 : LkS RX4 257 yJ9_floorMod_7cf53 2 := ⟨⟨tb_of 284 (by decide +kernel) (by decide +kernel), tb_of 285 (by decide +kernel) (by decide +kernel), tb_of 21 (by decide +kernel) (by decide +kernel)⟩, by decide +kernel, by decide +kernel, by decide +kernel⟩
theorem lkv_X4_155 : LkV RX4 155 yX3_tell 2 := ⟨⟨tb_of 287 (by decide +kernel) (by decide +kernel), tb_of 288 (by decide +kernel) (by decide +kernel), tb_of 289 (by decide +kernel) (by decide +kernel), tb_of 12 (by decide +kernel) (by decide +kernel)⟩, by decide +kernel, by decide +kernel, by decide +kernel⟩
theorem lkv_X3_28 : LkV RX3 28 yX3_sightOfPlaces 1 := ⟨⟨tb_of 291 (by decide +kernel) (by decide +kernel), tb_of 292 (by decide +kernel) (by decide +kernel), tb_of 293 (by decide +kernel) (by decide +kernel), tb_of 12 (by decide +kernel) (by decide +kernel)⟩, by decide +kernel, by decide +kernel, by decide +kernel⟩
theorem lkv_X3_32 : LkV RX3 32 yX3_sightOfLanterns 1 := ⟨⟨tb_of 295 (by decide +kernel) (by decide +kernel), tb_of 296 (by decide +kernel) (by decide +kernel), tb_of 297 (by decide +kernel) (by decide +kernel), tb_of 12 (by decide +kernel) (by decide +kernel)⟩, by decide +kernel, by decide +kernel, by decide +kernel⟩
theorem lkv_L_125 : LkV RL 125 yX4_code 2 := ⟨⟨tb_of 299 (by decide +kernel) (by decide +kernel), tb_of 300 (by decide +kernel) (by decide +kernel), tb_of 301 (by decide +kernel) (by decide +kernel), tb_of 9 (by decide +kernel) (by decide +kernel)⟩, by decide +kernel, by decide +kernel, by decide +kernel⟩
theorem lks_X4_42 : LkS RX4 42 yX4_requireCode 1 := ⟨⟨tb_of 303 (by decide +kernel) (by decide +kernel), tb_of 304 (by decide +kernel) (by decide +kernel), tb_of 9 (by decide +kernel) (by decide +kernel)⟩, by decide +kernel, by decide +kernel, by decide +kernel⟩
theorem lkv_X4_162 : LkV RX4 162 yX1_tellCode 2 := ⟨⟨tb_of 307 (by decide +kernel) (by decide +kernel), tb_of 308 (by decide +kernel) (by decide +kernel), tb_of 309 (by decide +kernel) (by decide +kernel), tb_of 10 (by decide +kernel) (by decide +kernel)⟩, by decide +kernel, by decide +kernel, by decide +kernel⟩
theorem lkv_X1_170 : LkV RX1 170 yX1_isKnown 1 := ⟨⟨tb_of 311 (by decide +kernel) (by decide +kernel), tb_of 312 (by decide +kernel) (by decide +kernel), tb_of 313 (by decide +kernel) (by decide +kernel), tb_of 10 (by decide +kernel) (by decide +kernel)⟩, by decide +kernel, by decide +kernel, by decide +kernel⟩
theorem lkv_X1_181 : LkV RX1 181 yX1_boatsAtSeaLedBy 1 := ⟨⟨tb_of 315 (by decide +kernel) (by decide +kernel), tb_of 316 (by decide +kernel) (by decide +kernel), tb_of 317 (by decide +kernel) (by decide +kernel), tb_of 10 (by decide +kernel) (by decide +kernel)⟩, by decide +kernel, by decide +kernel, by decide +kernel⟩
theorem lkv_L_118 : LkV RL 118 yX4_place 2 := ⟨⟨tb_of 319 (by decide +kernel) (by decide +kernel), tb_of 320 (by decide +kernel) (by decide +kernel), tb_of 321 (by decide +kernel) (by decide +kernel), tb_of 9 (by decide +kernel) (by decide +kernel)⟩, by decide +kernel, by decide +kernel, by decide +kernel⟩
theorem lks_X4_19 : LkS RX4 19 yX4_requirePlace 1 := ⟨⟨tb_of 323 (by decide +kernel) (by decide +kernel), tb_of 324 (by decide +kernel) (by decide +kernel), tb_of 9 (by decide +kernel) (by decide +kernel)⟩, by decide +kernel, by decide +kernel, by decide +kernel⟩
theorem lkv_X4_165 : LkV RX4 165 yX1_tellPlace 2 := ⟨⟨tb_of 327 (by decide +kernel) (by decide +kernel), tb_of 328 (by decide +kernel) (by decide +kernel), tb_of 329 (by decide +kernel) (by decide +kernel), tb_of 10 (by decide +kernel) (by decide +kernel)⟩, by decide +kernel, by decide +kernel, by decide +kernel⟩
theorem lkv_X1_184 : LkV RX1 184 yX1_watchmenAt 1 := ⟨⟨tb_of 331 (by decide +kernel) (by decide +kernel), tb_of 332 (by decide +kernel) (by decide +kernel), tb_of 333 (by decide +kernel) (by decide +kernel), tb_of 10 (by decide +kernel) (by decide +kernel)⟩, by decide +kernel, by decide +kernel, by decide +kernel⟩
theorem lkv_X1_187 : LkV RX1 187 yX1_boatsAtSeaAt 1 := ⟨⟨tb_of 335 (by decide +kernel) (by decide +kernel), tb_of 336 (by decide +kernel) (by decide +kernel), tb_of 337 (by decide +kernel) (by decide +kernel), tb_of 10 (by decide +kernel) (by decide +kernel)⟩, by decide +kernel, by decide +kernel, by decide +kernel⟩
theorem lkv_X1_190 : LkV RX1 190 yX1_watchmenSeeingPlace 1 := ⟨⟨tb_of 339 (by decide +kernel) (by decide +kernel), tb_of 340 (by decide +kernel) (by decide +kernel), tb_of 341 (by decide +kernel) (by decide +kernel), tb_of 10 (by decide +kernel) (by decide +kernel)⟩, by decide +kernel, by decide +kernel, by decide +kernel⟩
theorem lkv_X1_96 : LkV RX1 96 yX1_moonNow 0 := ⟨⟨tb_of 343 (by decide +kernel) (by decide +kernel), tb_of 278 (by decide +kernel) (by decide +kernel), tb_of 279 (by decide +kernel) (by decide +kernel), tb_of 10 (by decide +kernel) (by decide +kernel)⟩, by decide +kernel, by decide +kernel, by decide +kernel⟩
theorem lksn_X1_151 : LkSN RX1 151 yX4_distance RX4 2 := ⟨⟨List.mem_of_getElem? (i := 344) (by decide +kernel), tb_of 345 (by decide +kernel) (by decide +kernel), tb_of 9 (by decide +kernel) (by decide +kernel)⟩, by decide +kernel, by decide +kernel, by decide +kernel⟩
theorem lkv_X1_167 : LkV RX1 167 yX3_sightOfPlaces 1 := ⟨⟨tb_of 347 (by decide +kernel) (by decide +kernel), tb_of 292 (by decide +kernel) (by decide +kernel), tb_of 293 (by decide +kernel) (by decide +kernel), tb_of 12 (by decide +kernel) (by decide +kernel)⟩, by decide +kernel, by decide +kernel, by decide +kernel⟩
theorem lkv_L_109 : LkV RL 109 yX4_count 1 := ⟨⟨tb_of 348 (by decide +kernel) (by decide +kernel), tb_of 349 (by decide +kernel) (by decide +kernel), tb_of 350 (by decide +kernel) (by decide +kernel), tb_of 9 (by decide +kernel) (by decide +kernel)⟩, by decide +kernel, by decide +kernel, by decide +kernel⟩
theorem lkv_X4_173 : LkV RX4 173 yX1_tally 1 := ⟨⟨tb_of 352 (by decide +kernel) (by decide +kernel), tb_of 353 (by decide +kernel) (by decide +kernel), tb_of 354 (by decide +kernel) (by decide +kernel), tb_of 10 (by decide +kernel) (by decide +kernel)⟩, by decide +kernel, by decide +kernel, by decide +kernel⟩
theorem lkv_X1_193 : LkV RX1 193 yX1_boatsOfFate 1 := ⟨⟨tb_of 356 (by decide +kernel) (by decide +kernel), tb_of 357 (by decide +kernel) (by decide +kernel), tb_of 358 (by decide +kernel) (by decide +kernel), tb_of 10 (by decide +kernel) (by decide +kernel)⟩, by decide +kernel, by decide +kernel, by decide +kernel⟩
theorem lkv_X1_196 : LkV RX1 196 yX1_balesInCaves 0 := ⟨⟨tb_of 360 (by decide +kernel) (by decide +kernel), tb_of 361 (by decide +kernel) (by decide +kernel), tb_of 362 (by decide +kernel) (by decide +kernel), tb_of 10 (by decide +kernel) (by decide +kernel)⟩, by decide +kernel, by decide +kernel, by decide +kernel⟩
theorem lkv_X1_199 : LkV RX1 199 yX1_knownCodes 0 := ⟨⟨tb_of 364 (by decide +kernel) (by decide +kernel), tb_of 365 (by decide +kernel) (by decide +kernel), tb_of 366 (by decide +kernel) (by decide +kernel), tb_of 10 (by decide +kernel) (by decide +kernel)⟩, by decide +kernel, by decide +kernel, by decide +kernel⟩
theorem lkv_L_87 : LkV RL 87 yX4_pass 1 := ⟨⟨tb_of 368 (by decide +kernel) (by decide +kernel), tb_of 369 (by decide +kernel) (by decide +kernel), tb_of 370 (by decide +kernel) (by decide +kernel), tb_of 9 (by decide +kernel) (by decide +kernel)⟩, by decide +kernel, by decide +kernel, by decide +kernel⟩
theorem lks_X4_176 : LkS RX4 176 yX4_requireHours 1 := ⟨⟨tb_of 372 (by decide +kernel) (by decide +kernel), tb_of 373 (by decide +kernel) (by decide +kernel), tb_of 9 (by decide +kernel) (by decide +kernel)⟩, by decide +kernel, by decide +kernel, by decide +kernel⟩
theorem lkv_X4_179 : LkV RX4 179 yX1_balesUnloaded 0 := ⟨⟨tb_of 391 (by decide +kernel) (by decide +kernel), tb_of 392 (by decide +kernel) (by decide +kernel), tb_of 393 (by decide +kernel) (by decide +kernel), tb_of 10 (by decide +kernel) (by decide +kernel)⟩, by decide +kernel, by decide +kernel, by decide +kernel⟩
theorem lkv_X4_182 : LkV RX4 182 yX1_letGoBy 1 := ⟨⟨tb_of 395 (by decide +kernel) (by decide +kernel), tb_of 396 (by decide +kernel) (by decide +kernel), tb_of 397 (by decide +kernel) (by decide +kernel), tb_of 10 (by decide +kernel) (by decide +kernel)⟩, by decide +kernel, by decide +kernel, by decide +kernel⟩
theorem lkv_X1_93 : LkV RX1 93 yX1_passHour 0 := ⟨⟨tb_of 399 (by decide +kernel) (by decide +kernel), tb_of 400 (by decide +kernel) (by decide +kernel), tb_of 401 (by decide +kernel) (by decide +kernel), tb_of 10 (by decide +kernel) (by decide +kernel)⟩, by decide +kernel, by decide +kernel, by decide +kernel⟩
theorem lkv_X1_100 : LkV RX1 100 yX1_hourOfNight 0 := ⟨⟨tb_of 403 (by decide +kernel) (by decide +kernel), tb_of 404 (by decide +kernel) (by decide +kernel), tb_of 405 (by decide +kernel) (by decide +kernel), tb_of 10 (by decide +kernel) (by decide +kernel)⟩, by decide +kernel, by decide +kernel, by decide +kernel⟩
theorem lks_X1_84 : LkS RX1 84 yJ9_floorMod_7cf53 2 := ⟨⟨tb_of 407 (by decide +kernel) (by decide +kernel), tb_of 285 (by decide +kernel) (by decide +kernel), tb_of 21 (by decide +kernel) (by decide +kernel)⟩, by decide +kernel, by decide +kernel, by decide +kernel⟩
theorem lkv_X1_103 : LkV RX1 103 yX1_noteLanterns 2 := ⟨⟨tb_of 408 (by decide +kernel) (by decide +kernel), tb_of 409 (by decide +kernel) (by decide +kernel), tb_of 410 (by decide +kernel) (by decide +kernel), tb_of 10 (by decide +kernel) (by decide +kernel)⟩, by decide +kernel, by decide +kernel, by decide +kernel⟩
theorem lkv_X1_117 : LkV RX1 117 yX1_watchmenSeeingLantern 2 := ⟨⟨tb_of 412 (by decide +kernel) (by decide +kernel), tb_of 413 (by decide +kernel) (by decide +kernel), tb_of 414 (by decide +kernel) (by decide +kernel), tb_of 10 (by decide +kernel) (by decide +kernel)⟩, by decide +kernel, by decide +kernel, by decide +kernel⟩
theorem lkv_X1_178 : LkV RX1 178 yX3_sightOfLanterns 1 := ⟨⟨tb_of 416 (by decide +kernel) (by decide +kernel), tb_of 296 (by decide +kernel) (by decide +kernel), tb_of 297 (by decide +kernel) (by decide +kernel), tb_of 12 (by decide +kernel) (by decide +kernel)⟩, by decide +kernel, by decide +kernel, by decide +kernel⟩
theorem lkv_X1_107 : LkV RX1 107 yX1_moveBoats 2 := ⟨⟨tb_of 417 (by decide +kernel) (by decide +kernel), tb_of 418 (by decide +kernel) (by decide +kernel), tb_of 419 (by decide +kernel) (by decide +kernel), tb_of 10 (by decide +kernel) (by decide +kernel)⟩, by decide +kernel, by decide +kernel, by decide +kernel⟩
theorem lkv_X1_123 : LkV RX1 123 yX0_liesAtGoal 0 := ⟨⟨tb_of 421 (by decide +kernel) (by decide +kernel), tb_of 422 (by decide +kernel) (by decide +kernel), tb_of 423 (by decide +kernel) (by decide +kernel), tb_of 13 (by decide +kernel) (by decide +kernel)⟩, by decide +kernel, by decide +kernel, by decide +kernel⟩
theorem lkv_X1_127 : LkV RX1 127 yX1_unload 1 := ⟨⟨tb_of 425 (by decide +kernel) (by decide +kernel), tb_of 426 (by decide +kernel) (by decide +kernel), tb_of 427 (by decide +kernel) (by decide +kernel), tb_of 10 (by decide +kernel) (by decide +kernel)⟩, by decide +kernel, by decide +kernel, by decide +kernel⟩
theorem lkv_X1_137 : LkV RX1 137 yX1_followLantern 3 := ⟨⟨tb_of 429 (by decide +kernel) (by decide +kernel), tb_of 430 (by decide +kernel) (by decide +kernel), tb_of 431 (by decide +kernel) (by decide +kernel), tb_of 10 (by decide +kernel) (by decide +kernel)⟩, by decide +kernel, by decide +kernel, by decide +kernel⟩
theorem lkv_X1_141 : LkV RX1 141 yX0_sail 0 := ⟨⟨tb_of 433 (by decide +kernel) (by decide +kernel), tb_of 434 (by decide +kernel) (by decide +kernel), tb_of 435 (by decide +kernel) (by decide +kernel), tb_of 13 (by decide +kernel) (by decide +kernel)⟩, by decide +kernel, by decide +kernel, by decide +kernel⟩
theorem lksn_X0_34 : LkSN RX0 34 yX4_distance RX4 2 := ⟨⟨List.mem_of_getElem? (i := 437) (by decide +kernel), tb_of 345 (by decide +kernel) (by decide +kernel), tb_of 9 (by decide +kernel) (by decide +kernel)⟩, by decide +kernel, by decide +kernel, by decide +kernel⟩
theorem lkv_X1_110 : LkV RX1 110 yX1_moveWatchmen 1 := ⟨⟨tb_of 438 (by decide +kernel) (by decide +kernel), tb_of 439 (by decide +kernel) (by decide +kernel), tb_of 440 (by decide +kernel) (by decide +kernel), tb_of 10 (by decide +kernel) (by decide +kernel)⟩, by decide +kernel, by decide +kernel, by decide +kernel⟩
theorem lkv_X1_160 : LkV RX1 160 yX3_walk 0 := ⟨⟨tb_of 442 (by decide +kernel) (by decide +kernel), tb_of 443 (by decide +kernel) (by decide +kernel), tb_of 444 (by decide +kernel) (by decide +kernel), tb_of 12 (by decide +kernel) (by decide +kernel)⟩, by decide +kernel, by decide +kernel, by decide +kernel⟩
theorem lkv_X1_163 : LkV RX1 163 yX1_seizeFirst 2 := ⟨⟨tb_of 446 (by decide +kernel) (by decide +kernel), tb_of 447 (by decide +kernel) (by decide +kernel), tb_of 448 (by decide +kernel) (by decide +kernel), tb_of 10 (by decide +kernel) (by decide +kernel)⟩, by decide +kernel, by decide +kernel, by decide +kernel⟩
theorem lkv_L_115 : LkV RL 115 yX4_until 1 := ⟨⟨tb_of 450 (by decide +kernel) (by decide +kernel), tb_of 451 (by decide +kernel) (by decide +kernel), tb_of 452 (by decide +kernel) (by decide +kernel), tb_of 9 (by decide +kernel) (by decide +kernel)⟩, by decide +kernel, by decide +kernel, by decide +kernel⟩
theorem lkv_X4_185 : LkV RX4 185 yX1_copyFrom 1 := ⟨⟨tb_of 454 (by decide +kernel) (by decide +kernel), tb_of 455 (by decide +kernel) (by decide +kernel), tb_of 456 (by decide +kernel) (by decide +kernel), tb_of 10 (by decide +kernel) (by decide +kernel)⟩, by decide +kernel, by decide +kernel, by decide +kernel⟩
theorem lkv_X1_61 : LkV RX1 61 yX2_copyFrom 1 := ⟨⟨tb_of 461 (by decide +kernel) (by decide +kernel), tb_of 462 (by decide +kernel) (by decide +kernel), tb_of 463 (by decide +kernel) (by decide +kernel), tb_of 11 (by decide +kernel) (by decide +kernel)⟩, by decide +kernel, by decide +kernel, by decide +kernel⟩
theorem lkv_X1_65 : LkV RX1 65 yX3_copyFrom 1 := ⟨⟨tb_of 466 (by decide +kernel) (by decide +kernel), tb_of 467 (by decide +kernel) (by decide +kernel), tb_of 468 (by decide +kernel) (by decide +kernel), tb_of 12 (by decide +kernel) (by decide +kernel)⟩, by decide +kernel, by decide +kernel, by decide +kernel⟩
theorem lkv_X1_68 : LkV RX1 68 yX0_copyFrom 1 := ⟨⟨tb_of 470 (by decide +kernel) (by decide +kernel), tb_of 471 (by decide +kernel) (by decide +kernel), tb_of 472 (by decide +kernel) (by decide +kernel), tb_of 13 (by decide +kernel) (by decide +kernel)⟩, by decide +kernel, by decide +kernel, by decide +kernel⟩
theorem lkv_X4_192 : LkV RX4 192 yX1_passHour 0 := ⟨⟨tb_of 474 (by decide +kernel) (by decide +kernel), tb_of 400 (by decide +kernel) (by decide +kernel), tb_of 401 (by decide +kernel) (by decide +kernel), tb_of 10 (by decide +kernel) (by decide +kernel)⟩, by decide +kernel, by decide +kernel, by decide +kernel⟩
theorem lkv_L_134 : LkV RL 134 yX4_foresee 2 := ⟨⟨tb_of 475 (by decide +kernel) (by decide +kernel), tb_of 476 (by decide +kernel) (by decide +kernel), tb_of 477 (by decide +kernel) (by decide +kernel), tb_of 9 (by decide +kernel) (by decide +kernel)⟩, by decide +kernel, by decide +kernel, by decide +kernel⟩
theorem lkv_L_121 : LkV RL 121 yX4_mean 0 := ⟨⟨tb_of 479 (by decide +kernel) (by decide +kernel), tb_of 480 (by decide +kernel) (by decide +kernel), tb_of 481 (by decide +kernel) (by decide +kernel), tb_of 9 (by decide +kernel) (by decide +kernel)⟩, by decide +kernel, by decide +kernel, by decide +kernel⟩
theorem lkv_X4_201 : LkV RX4 201 yX1_boatsOfFate 1 := ⟨⟨tb_of 483 (by decide +kernel) (by decide +kernel), tb_of 357 (by decide +kernel) (by decide +kernel), tb_of 358 (by decide +kernel) (by decide +kernel), tb_of 10 (by decide +kernel) (by decide +kernel)⟩, by decide +kernel, by decide +kernel, by decide +kernel⟩
theorem lkv_X4_204 : LkV RX4 204 yX1_balesAtSea 0 := ⟨⟨tb_of 484 (by decide +kernel) (by decide +kernel), tb_of 485 (by decide +kernel) (by decide +kernel), tb_of 486 (by decide +kernel) (by decide +kernel), tb_of 10 (by decide +kernel) (by decide +kernel)⟩, by decide +kernel, by decide +kernel, by decide +kernel⟩
theorem lkv_L_105 : LkV RL 105 yX4_digest 0 := ⟨⟨tb_of 488 (by decide +kernel) (by decide +kernel), tb_of 489 (by decide +kernel) (by decide +kernel), tb_of 490 (by decide +kernel) (by decide +kernel), tb_of 9 (by decide +kernel) (by decide +kernel)⟩, by decide +kernel, by decide +kernel, by decide +kernel⟩
theorem lkv_X4_211 : LkV RX4 211 yX4_count 1 := ⟨⟨tb_of 494 (by decide +kernel) (by decide +kernel), tb_of 349 (by decide +kernel) (by decide +kernel), tb_of 350 (by decide +kernel) (by decide +kernel), tb_of 9 (by decide +kernel) (by decide +kernel)⟩, by decide +kernel, by decide +kernel, by decide +kernel⟩
theorem lkv_X4_214 : LkV RX4 214 yX4_place 2 := ⟨⟨tb_of 495 (by decide +kernel) (by decide +kernel), tb_of 320 (by decide +kernel) (by decide +kernel), tb_of 321 (by decide +kernel) (by decide +kernel), tb_of 9 (by decide +kernel) (by decide +kernel)⟩, by decide +kernel, by decide +kernel, by decide +kernel⟩
theorem lkv_X4_216 : LkV RX4 216 yX4_code 2 := ⟨⟨tb_of 496 (by decide +kernel) (by decide +kernel), tb_of 300 (by decide +kernel) (by decide +kernel), tb_of 301 (by decide +kernel) (by decide +kernel), tb_of 9 (by decide +kernel) (by decide +kernel)⟩, by decide +kernel, by decide +kernel, by decide +kernel⟩
theorem lkv_X4_219 : LkV RX4 219 yX4_digestOfLanterns 1 := ⟨⟨tb_of 497 (by decide +kernel) (by decide +kernel), tb_of 499 (by decide +kernel) (by decide +kernel), tb_of 2 (by decide +kernel) (by decide +kernel), tb_of 9 (by decide +kernel) (by decide +kernel)⟩, by decide +kernel, by decide +kernel, by decide +kernel⟩
theorem lkv_X4_229 : LkV RX4 229 yX4_light 2 := ⟨⟨tb_of 501 (by decide +kernel) (by decide +kernel), tb_of 502 (by decide +kernel) (by decide +kernel), tb_of 503 (by decide +kernel) (by decide +kernel), tb_of 9 (by decide +kernel) (by decide +kernel)⟩, by decide +kernel, by decide +kernel, by decide +kernel⟩
theorem lkv_X4_75 : LkV RX4 75 yX4_requireLantern 1 := ⟨⟨tb_of 505 (by decide +kernel) (by decide +kernel), tb_of 507 (by decide +kernel) (by decide +kernel), tb_of 3 (by decide +kernel) (by decide +kernel), tb_of 9 (by decide +kernel) (by decide +kernel)⟩, by decide +kernel, by decide +kernel, by decide +kernel⟩
theorem lkv_X4_158 : LkV RX4 158 yX1_tellLantern 2 := ⟨⟨tb_of 510 (by decide +kernel) (by decide +kernel), tb_of 511 (by decide +kernel) (by decide +kernel), tb_of 512 (by decide +kernel) (by decide +kernel), tb_of 10 (by decide +kernel) (by decide +kernel)⟩, by decide +kernel, by decide +kernel, by decide +kernel⟩
theorem lkv_X4_223 : LkV RX4 223 yX4_digestOfWatchmen 1 := ⟨⟨tb_of 514 (by decide +kernel) (by decide +kernel), tb_of 516 (by decide +kernel) (by decide +kernel), tb_of 4 (by decide +kernel) (by decide +kernel), tb_of 9 (by decide +kernel) (by decide +kernel)⟩, by decide +kernel, by decide +kernel, by decide +kernel⟩
theorem lkv_X4_232 : LkV RX4 232 yX4_about 2 := ⟨⟨tb_of 518 (by decide +kernel) (by decide +kernel), tb_of 273 (by decide +kernel) (by decide +kernel), tb_of 274 (by decide +kernel) (by decide +kernel), tb_of 9 (by decide +kernel) (by decide +kernel)⟩, by decide +kernel, by decide +kernel, by decide +kernel⟩
theorem lkv_X4_226 : LkV RX4 226 yX4_digestOfBoats 1 := ⟨⟨tb_of 519 (by decide +kernel) (by decide +kernel), tb_of 521 (by decide +kernel) (by decide +kernel), tb_of 5 (by decide +kernel) (by decide +kernel), tb_of 9 (by decide +kernel) (by decide +kernel)⟩, by decide +kernel, by decide +kernel, by decide +kernel⟩
theorem lkv_X4_235 : LkV RX4 235 yX4_told 2 := ⟨⟨tb_of 523 (by decide +kernel) (by decide +kernel), tb_of 185 (by decide +kernel) (by decide +kernel), tb_of 186 (by decide +kernel) (by decide +kernel), tb_of 9 (by decide +kernel) (by decide +kernel)⟩, by decide +kernel, by decide +kernel, by decide +kernel⟩
theorem lkv_L_83 : LkV RL 83 yX5_go 0 := ⟨⟨tb_of 524 (by decide +kernel) (by decide +kernel), tb_of 525 (by decide +kernel) (by decide +kernel), tb_of 526 (by decide +kernel) (by decide +kernel), tb_of 14 (by decide +kernel) (by decide +kernel)⟩, by decide +kernel, by decide +kernel, by decide +kernel⟩
theorem lkv_X5_70 : LkV RX5 70 yX5_shown 1 := ⟨⟨tb_of 528 (by decide +kernel) (by decide +kernel), tb_of 529 (by decide +kernel) (by decide +kernel), tb_of 530 (by decide +kernel) (by decide +kernel), tb_of 14 (by decide +kernel) (by decide +kernel)⟩, by decide +kernel, by decide +kernel, by decide +kernel⟩
theorem lkv_X5_74 : LkV RX5 74 yX5_lightWatchers 1 := ⟨⟨tb_of 532 (by decide +kernel) (by decide +kernel), tb_of 533 (by decide +kernel) (by decide +kernel), tb_of 534 (by decide +kernel) (by decide +kernel), tb_of 14 (by decide +kernel) (by decide +kernel)⟩, by decide +kernel, by decide +kernel, by decide +kernel⟩
theorem lkv_X5_66 : LkV RX5 66 yX5_seesLight 2 := ⟨⟨tb_of 536 (by decide +kernel) (by decide +kernel), tb_of 537 (by decide +kernel) (by decide +kernel), tb_of 538 (by decide +kernel) (by decide +kernel), tb_of 14 (by decide +kernel) (by decide +kernel)⟩, by decide +kernel, by decide +kernel, by decide +kernel⟩
theorem lks_X5_54 : LkS RX5 54 yX5_far 2 := ⟨⟨tb_of 540 (by decide +kernel) (by decide +kernel), tb_of 541 (by decide +kernel) (by decide +kernel), tb_of 14 (by decide +kernel) (by decide +kernel)⟩, by decide +kernel, by decide +kernel, by decide +kernel⟩
theorem lkv_X5_58 : LkV RX5 58 yX5_moon 0 := ⟨⟨tb_of 543 (by decide +kernel) (by decide +kernel), tb_of 544 (by decide +kernel) (by decide +kernel), tb_of 545 (by decide +kernel) (by decide +kernel), tb_of 14 (by decide +kernel) (by decide +kernel)⟩, by decide +kernel, by decide +kernel, by decide +kernel⟩
theorem lkv_X5_77 : LkV RX5 77 yX5_leads 1 := ⟨⟨tb_of 547 (by decide +kernel) (by decide +kernel), tb_of 549 (by decide +kernel) (by decide +kernel), tb_of 6 (by decide +kernel) (by decide +kernel), tb_of 14 (by decide +kernel) (by decide +kernel)⟩, by decide +kernel, by decide +kernel, by decide +kernel⟩
theorem lkv_X5_62 : LkV RX5 62 yX5_sees 3 := ⟨⟨tb_of 552 (by decide +kernel) (by decide +kernel), tb_of 553 (by decide +kernel) (by decide +kernel), tb_of 554 (by decide +kernel) (by decide +kernel), tb_of 14 (by decide +kernel) (by decide +kernel)⟩, by decide +kernel, by decide +kernel, by decide +kernel⟩
theorem lkv_L_137 : LkV RL 137 yX5_isSame 1 := ⟨⟨tb_of 556 (by decide +kernel) (by decide +kernel), tb_of 557 (by decide +kernel) (by decide +kernel), tb_of 558 (by decide +kernel) (by decide +kernel), tb_of 14 (by decide +kernel) (by decide +kernel)⟩, by decide +kernel, by decide +kernel, by decide +kernel⟩
theorem lkv_X5_87 : LkV RX5 87 yX4_count 1 := ⟨⟨tb_of 560 (by decide +kernel) (by decide +kernel), tb_of 349 (by decide +kernel) (by decide +kernel), tb_of 350 (by decide +kernel) (by decide +kernel), tb_of 9 (by decide +kernel) (by decide +kernel)⟩, by decide +kernel, by decide +kernel, by decide +kernel⟩
theorem lkv_X5_92 : LkV RX5 92 yX5_counted 1 := ⟨⟨tb_of 561 (by decide +kernel) (by decide +kernel), tb_of 562 (by decide +kernel) (by decide +kernel), tb_of 563 (by decide +kernel) (by decide +kernel), tb_of 14 (by decide +kernel) (by decide +kernel)⟩, by decide +kernel, by decide +kernel, by decide +kernel⟩
theorem lkv_X5_81 : LkV RX5 81 yX5_in 1 := ⟨⟨tb_of 565 (by decide +kernel) (by decide +kernel), tb_of 566 (by decide +kernel) (by decide +kernel), tb_of 567 (by decide +kernel) (by decide +kernel), tb_of 14 (by decide +kernel) (by decide +kernel)⟩, by decide +kernel, by decide +kernel, by decide +kernel⟩
theorem lkv_X5_84 : LkV RX5 84 yX5_caves 0 := ⟨⟨tb_of 569 (by decide +kernel) (by decide +kernel), tb_of 570 (by decide +kernel) (by decide +kernel), tb_of 571 (by decide +kernel) (by decide +kernel), tb_of 14 (by decide +kernel) (by decide +kernel)⟩, by decide +kernel, by decide +kernel, by decide +kernel⟩
theorem lkv_X5_95 : LkV RX5 95 yX5_watchers 1 := ⟨⟨tb_of 573 (by decide +kernel) (by decide +kernel), tb_of 574 (by decide +kernel) (by decide +kernel), tb_of 575 (by decide +kernel) (by decide +kernel), tb_of 14 (by decide +kernel) (by decide +kernel)⟩, by decide +kernel, by decide +kernel, by decide +kernel⟩
theorem lkv_X5_98 : LkV RX5 98 yX4_place 2 := ⟨⟨tb_of 577 (by decide +kernel) (by decide +kernel), tb_of 320 (by decide +kernel) (by decide +kernel), tb_of 321 (by decide +kernel) (by decide +kernel), tb_of 9 (by decide +kernel) (by decide +kernel)⟩, by decide +kernel, by decide +kernel, by decide +kernel⟩
theorem lkv_X5_101 : LkV RX5 101 yX4_code 2 := ⟨⟨tb_of 578 (by decide +kernel) (by decide +kernel), tb_of 300 (by decide +kernel) (by decide +kernel), tb_of 301 (by decide +kernel) (by decide +kernel), tb_of 9 (by decide +kernel) (by decide +kernel)⟩, by decide +kernel, by decide +kernel, by decide +kernel⟩
theorem lkv_X5_104 : LkV RX5 104 yX4_light 2 := ⟨⟨tb_of 579 (by decide +kernel) (by decide +kernel), tb_of 502 (by decide +kernel) (by decide +kernel), tb_of 503 (by decide +kernel) (by decide +kernel), tb_of 9 (by decide +kernel) (by decide +kernel)⟩, by decide +kernel, by decide +kernel, by decide +kernel⟩
theorem lkv_X5_107 : LkV RX5 107 yX4_about 2 := ⟨⟨tb_of 580 (by decide +kernel) (by decide +kernel), tb_of 273 (by decide +kernel) (by decide +kernel), tb_of 274 (by decide +kernel) (by decide +kernel), tb_of 9 (by decide +kernel) (by decide +kernel)⟩, by decide +kernel, by decide +kernel, by decide +kernel⟩
theorem lkv_X5_110 : LkV RX5 110 yX4_told 2 := ⟨⟨tb_of 581 (by decide +kernel) (by decide +kernel), tb_of 185 (by decide +kernel) (by decide +kernel), tb_of 186 (by decide +kernel) (by decide +kernel), tb_of 9 (by decide +kernel) (by decide +kernel)⟩, by decide +kernel, by decide +kernel, by decide +kernel⟩
theorem lkv_X5_113 : LkV RX5 113 yX4_moon 1 := ⟨⟨tb_of 582 (by decide +kernel) (by decide +kernel), tb_of 583 (by decide +kernel) (by decide +kernel), tb_of 584 (by decide +kernel) (by decide +kernel), tb_of 9 (by decide +kernel) (by decide +kernel)⟩, by decide +kernel, by decide +kernel, by decide +kernel⟩
theorem lks_X4_170 : LkS RX4 170 yX4_moonOf 1 := ⟨⟨tb_of 587 (by decide +kernel) (by decide +kernel), tb_of 282 (by decide +kernel) (by decide +kernel), tb_of 9 (by decide +kernel) (by decide +kernel)⟩, by decide +kernel, by decide +kernel, by decide +kernel⟩
theorem lkv_X5_115 : LkV RX5 115 yX4_mean 0 := ⟨⟨tb_of 588 (by decide +kernel) (by decide +kernel), tb_of 480 (by decide +kernel) (by decide +kernel), tb_of 481 (by decide +kernel) (by decide +kernel), tb_of 9 (by decide +kernel) (by decide +kernel)⟩, by decide +kernel, by decide +kernel, by decide +kernel⟩
theorem lks_L_9 : LkS RL 9 yL_below 2 := ⟨⟨tb_of 589 (by decide +kernel) (by decide +kernel), tb_of 590 (by decide +kernel) (by decide +kernel), tb_of 8 (by decide +kernel) (by decide +kernel)⟩, by decide +kernel, by decide +kernel, by decide +kernel⟩
theorem lks_L_91 : LkS RL 91 yL_cell 2 := ⟨⟨tb_of 593 (by decide +kernel) (by decide +kernel), tb_of 594 (by decide +kernel) (by decide +kernel), tb_of 8 (by decide +kernel) (by decide +kernel)⟩, by decide +kernel, by decide +kernel, by decide +kernel⟩
theorem lks_L_96 : LkS RL 96 yL_act 3 := ⟨⟨tb_of 597 (by decide +kernel) (by decide +kernel), tb_of 598 (by decide +kernel) (by decide +kernel), tb_of 8 (by decide +kernel) (by decide +kernel)⟩, by decide +kernel, by decide +kernel, by decide +kernel⟩
theorem lkv_L_31 : LkV RL 31 yX4_setRoom 2 := ⟨⟨tb_of 601 (by decide +kernel) (by decide +kernel), tb_of 602 (by decide +kernel) (by decide +kernel), tb_of 603 (by decide +kernel) (by decide +kernel), tb_of 9 (by decide +kernel) (by decide +kernel)⟩, by decide +kernel, by decide +kernel, by decide +kernel⟩
theorem lkv_L_42 : LkV RL 42 yX4_setCode 2 := ⟨⟨tb_of 622 (by decide +kernel) (by decide +kernel), tb_of 623 (by decide +kernel) (by decide +kernel), tb_of 624 (by decide +kernel) (by decide +kernel), tb_of 9 (by decide +kernel) (by decide +kernel)⟩, by decide +kernel, by decide +kernel, by decide +kernel⟩
theorem lks_X4_45 : LkS RX4 45 yX4_requirePlaceOrNone 1 := ⟨⟨tb_of 626 (by decide +kernel) (by decide +kernel), tb_of 627 (by decide +kernel) (by decide +kernel), tb_of 9 (by decide +kernel) (by decide +kernel)⟩, by decide +kernel, by decide +kernel, by decide +kernel⟩
theorem lks_L_45 : LkS RL 45 yX5_with 2 := ⟨⟨tb_of 630 (by decide +kernel) (by decide +kernel), tb_of 631 (by decide +kernel) (by decide +kernel), tb_of 14 (by decide +kernel) (by decide +kernel)⟩, by decide +kernel, by decide +kernel, by decide +kernel⟩
theorem lkv_L_49 : LkV RL 49 yX4_lantern 1 := ⟨⟨tb_of 635 (by decide +kernel) (by decide +kernel), tb_of 636 (by decide +kernel) (by decide +kernel), tb_of 637 (by decide +kernel) (by decide +kernel), tb_of 9 (by decide +kernel) (by decide +kernel)⟩, by decide +kernel, by decide +kernel, by decide +kernel⟩
theorem lkv_X4_60 : LkV RX4 60 yX1_hasLanternAt 1 := ⟨⟨tb_of 640 (by decide +kernel) (by decide +kernel), tb_of 641 (by decide +kernel) (by decide +kernel), tb_of 642 (by decide +kernel) (by decide +kernel), tb_of 10 (by decide +kernel) (by decide +kernel)⟩, by decide +kernel, by decide +kernel, by decide +kernel⟩
theorem lkv_L_55 : LkV RL 55 yX4_setShow 3 := ⟨⟨tb_of 645 (by decide +kernel) (by decide +kernel), tb_of 646 (by decide +kernel) (by decide +kernel), tb_of 647 (by decide +kernel) (by decide +kernel), tb_of 9 (by decide +kernel) (by decide +kernel)⟩, by decide +kernel, by decide +kernel, by decide +kernel⟩
theorem lks_L_59 : LkS RL 59 yJ9_min_7cf53 2 := ⟨⟨tb_of 651 (by decide +kernel) (by decide +kernel), tb_of 652 (by decide +kernel) (by decide +kernel), tb_of 21 (by decide +kernel) (by decide +kernel)⟩, by decide +kernel, by decide +kernel, by decide +kernel⟩
theorem lkv_L_67 : LkV RL 67 yX4_watchman 3 := ⟨⟨tb_of 654 (by decide +kernel) (by decide +kernel), tb_of 655 (by decide +kernel) (by decide +kernel), tb_of 656 (by decide +kernel) (by decide +kernel), tb_of 9 (by decide +kernel) (by decide +kernel)⟩, by decide +kernel, by decide +kernel, by decide +kernel⟩
theorem lkv_X4_101 : LkV RX4 101 yX3_begin 3 := ⟨⟨tb_of 661 (by decide +kernel) (by decide +kernel), tb_of 662 (by decide +kernel) (by decide +kernel), tb_of 663 (by decide +kernel) (by decide +kernel), tb_of 12 (by decide +kernel) (by decide +kernel)⟩, by decide +kernel, by decide +kernel, by decide +kernel⟩
theorem lkv_L_70 : LkV RL 70 yX4_boat 2 := ⟨⟨tb_of 665 (by decide +kernel) (by decide +kernel), tb_of 666 (by decide +kernel) (by decide +kernel), tb_of 667 (by decide +kernel) (by decide +kernel), tb_of 9 (by decide +kernel) (by decide +kernel)⟩, by decide +kernel, by decide +kernel, by decide +kernel⟩
theorem lkv_X4_118 : LkV RX4 118 yX0_begin 2 := ⟨⟨tb_of 671 (by decide +kernel) (by decide +kernel), tb_of 672 (by decide +kernel) (by decide +kernel), tb_of 673 (by decide +kernel) (by decide +kernel), tb_of 13 (by decide +kernel) (by decide +kernel)⟩, by decide +kernel, by decide +kernel, by decide +kernel⟩
theorem lkv_L_73 : LkV RL 73 yX4_send 2 := ⟨⟨tb_of 675 (by decide +kernel) (by decide +kernel), tb_of 676 (by decide +kernel) (by decide +kernel), tb_of 677 (by decide +kernel) (by decide +kernel), tb_of 9 (by decide +kernel) (by decide +kernel)⟩, by decide +kernel, by decide +kernel, by decide +kernel⟩
theorem lkv_X4_126 : LkV RX4 126 yX4_requireAtSea 1 := ⟨⟨tb_of 679 (by decide +kernel) (by decide +kernel), tb_of 681 (by decide +kernel) (by decide +kernel), tb_of 7 (by decide +kernel) (by decide +kernel), tb_of 9 (by decide +kernel) (by decide +kernel)⟩, by decide +kernel, by decide +kernel, by decide +kernel⟩
theorem lkv_X4_132 : LkV RX4 132 yX0_sendTo 1 := ⟨⟨tb_of 684 (by decide +kernel) (by decide +kernel), tb_of 685 (by decide +kernel) (by decide +kernel), tb_of 686 (by decide +kernel) (by decide +kernel), tb_of 13 (by decide +kernel) (by decide +kernel)⟩, by decide +kernel, by decide +kernel, by decide +kernel⟩
theorem lkv_L_80 : LkV RL 80 yX4_carry 2 := ⟨⟨tb_of 688 (by decide +kernel) (by decide +kernel), tb_of 689 (by decide +kernel) (by decide +kernel), tb_of 690 (by decide +kernel) (by decide +kernel), tb_of 9 (by decide +kernel) (by decide +kernel)⟩, by decide +kernel, by decide +kernel, by decide +kernel⟩
theorem lks_L_101 : LkS RL 101 yL_build 2 := ⟨⟨tb_of 694 (by decide +kernel) (by decide +kernel), tb_of 695 (by decide +kernel) (by decide +kernel), tb_of 8 (by decide +kernel) (by decide +kernel)⟩, by decide +kernel, by decide +kernel, by decide +kernel⟩
theorem lks_L_131 : LkS RL 131 yJ9_abs_0f7a4 1 := ⟨⟨tb_of 742 (by decide +kernel) (by decide +kernel), tb_of 743 (by decide +kernel) (by decide +kernel), tb_of 21 (by decide +kernel) (by decide +kernel)⟩, by decide +kernel, by decide +kernel, by decide +kernel⟩
end
section
/-! Rows a field, an array: printed by program out of the tables. -/
theorem oth {M0 : Mem} {cc1 : Nat} {S : St} {kd t c2 : Nat} {i i2 v : Int} (ho : owner cc1 kd i = (t, c2, i2)) : ∀ (c1 k1 : Nat) (i1 : Int), owner c1 k1 i1 ≠ (t, c2, i2) → setc M0 cc1 (u2 S kd i v) c1 k1 i1 = setc M0 cc1 S c1 k1 i1 := by
  intro c1 k1 i1 h
  unfold setc
  by_cases h1 : c1 = cc1
  · rw [if_pos h1, if_pos h1]
    unfold u2
    rw [if_neg]
    rintro ⟨rfl, rfl⟩
    exact h (by rw [h1, ho])
  · rw [if_neg h1, if_neg h1]
theorem oth0 {M0 : Mem} {cc1 : Nat} {kd t c2 : Nat} {i i2 v : Int} (ho : owner cc1 kd i = (t, c2, i2)) : ∀ (c1 k1 : Nat) (i1 : Int), owner c1 k1 i1 ≠ (t, c2, i2) → setc M0 cc1 (u2 (M0 cc1) kd i v) c1 k1 i1 = M0 c1 k1 i1 := by
  intro c1 k1 i1 h
  rw [oth ho c1 k1 i1 h, setc_self]
theorem dm1 {ad : Nat → Nat → Int → Nat} {t c : Nat} (ht : 1 ≤ t ∧ t ≤ 8) (hc : c < 2) : dmb ad t c 0 = true := by
  have : t = 1 ∨ t = 2 ∨ t = 3 ∨ t = 4 ∨ t = 5 ∨ t = 6 ∨ t = 7 ∨ t = 8 := by omega
  rcases this with rfl | rfl | rfl | rfl | rfl | rfl | rfl | rfl <;> simp [dmb, hc]
theorem dm9 {ad : Nat → Nat → Int → Nat} {c : Nat} {i : Int} (hc : c < 2) (h1 : 0 ≤ i) (h2 : i < 5) : dmb ad 9 c i = true := by simp [dmb, hc, h1, h2]
theorem dm10 {ad : Nat → Nat → Int → Nat} {c : Nat} {i : Int} (hc : c < 2) (h1 : 0 ≤ i) (h2 : i < 5) : dmb ad 10 c i = true := by simp [dmb, hc, h1, h2]
theorem dm11 {ad : Nat → Nat → Int → Nat} {c : Nat} {i : Int} (hc : c < 2) (h1 : 0 ≤ i) (h2 : i < 4) : dmb ad 11 c i = true := by simp [dmb, hc, h1, h2]
theorem dm12 {ad : Nat → Nat → Int → Nat} {c : Nat} {i : Int} (hc : c < 2) (h1 : 0 ≤ i) (h2 : i < 6) : dmb ad 12 c i = true := by simp [dmb, hc, h1, h2]

theorem dm13 {ad : Nat → Nat → Int → Nat} (hs : ad 40 13 0 = 1) : dmb ad 13 2 0 = true := by simp [dmb, hs]
theorem dm14 {ad : Nat → Nat → Int → Nat} (hs : ad 40 13 0 = 1) : dmb ad 14 2 0 = true := by simp [dmb, hs]
theorem dm15 {ad : Nat → Nat → Int → Nat} (hs : ad 40 13 0 = 1) : dmb ad 15 2 0 = true := by simp [dmb, hs]
theorem dm16 {ad : Nat → Nat → Int → Nat} (hs : ad 40 13 0 = 1) : dmb ad 16 2 0 = true := by simp [dmb, hs]
theorem dm17 {ad : Nat → Nat → Int → Nat} (hs : ad 40 13 0 = 1) : dmb ad 17 2 0 = true := by simp [dmb, hs]
theorem dm18 {ad : Nat → Nat → Int → Nat} (hs : ad 40 13 0 = 1) : dmb ad 18 2 0 = true := by simp [dmb, hs]
theorem dm19 {ad : Nat → Nat → Int → Nat} (hs : ad 40 13 0 = 1) : dmb ad 19 2 0 = true := by simp [dmb, hs]
theorem dm20 {ad : Nat → Nat → Int → Nat} (hs : ad 40 13 0 = 1) : dmb ad 20 2 0 = true := by simp [dmb, hs]
theorem dm21 {ad : Nat → Nat → Int → Nat} {i : Int} (hs : ad 40 13 0 = 1) (h1 : 0 ≤ i) (h2 : i < 5) (h3 : i < (ad 41 18 0 : Int)) : dmb ad 21 2 i = true := by simp [dmb, hs, h1, h2, h3]
theorem dm22 {ad : Nat → Nat → Int → Nat} {i : Int} (hs : ad 40 13 0 = 1) (h1 : 0 ≤ i) (h2 : i < 4) (h3 : i < (ad 41 19 0 : Int)) : dmb ad 22 2 i = true := by simp [dmb, hs, h1, h2, h3]
theorem dm23 {ad : Nat → Nat → Int → Nat} {i : Int} (hs : ad 40 13 0 = 1) (h1 : 0 ≤ i) (h2 : i < 6) (h3 : i < (ad 41 20 0 : Int)) : dmb ad 23 2 i = true := by simp [dmb, hs, h1, h2, h3]
theorem dm24 {ad : Nat → Nat → Int → Nat} (hs : ad 40 24 0 = 1) : dmb ad 24 2 0 = true := by simp [dmb, hs]
theorem dm25 {ad : Nat → Nat → Int → Nat} (hs : ad 40 25 0 = 1) : dmb ad 25 2 0 = true := by simp [dmb, hs]
theorem dm26 {ad : Nat → Nat → Int → Nat} (hs : ad 40 26 0 = 1) : dmb ad 26 2 0 = true := by simp [dmb, hs]
theorem dm27 {ad : Nat → Nat → Int → Nat} (hs : ad 40 27 0 = 1) : dmb ad 27 2 0 = true := by simp [dmb, hs]
theorem dm28 {ad : Nat → Nat → Int → Nat} (hs : ad 40 28 0 = 1) : dmb ad 28 2 0 = true := by simp [dmb, hs]
theorem dm29 {ad : Nat → Nat → Int → Nat} (hs : ad 40 29 0 = 1) : dmb ad 29 2 0 = true := by simp [dmb, hs]
theorem dm30 {ad : Nat → Nat → Int → Nat} (hs : ad 40 30 0 = 1) : dmb ad 30 2 0 = true := by simp [dmb, hs]
theorem dm31 {ad : Nat → Nat → Int → Nat} (hs : ad 40 31 0 = 1) : dmb ad 31 2 0 = true := by simp [dmb, hs]
theorem dm32 {ad : Nat → Nat → Int → Nat} (hs : ad 40 32 0 = 1) : dmb ad 32 2 0 = true := by simp [dmb, hs]
theorem kill_le (lv : List (Option Value)) (i : Nat) : ∀ (j : Nat) (v : Value), (lv.set i none)[j]? = some (some v) → lv[j]? = some (some v) := by
  intro j v h
  by_cases e : j = i
  · subst e
    rw [List.getElem?_set] at h
    simp only [if_true] at h
    split at h <;> cases h
  · rwa [List.getElem?_set_ne (Ne.symm e)] at h
section FROWS
variable {p : Program} {l : Launch} {e : Env} {R : Room} {s : State} {m : MethodId} {args : Array Value} {below : List Frame} {meth : Method} {c : Code} {nL : Nat} {cy : Nat → ClassId} {D : va_G} {ad : Nat → Nat → Int → Nat} {A : Nat → Prop} {kc ks : Nat} {Q : State → Prop} {pc : Nat} {lv : List (Option Value)} {st : List Value} {M : Mem} {cc : ByteArray} {ret : Option FieldType} {k : Nat} {S : St} {i : Int}
theorem gf_X2_9 (F : Fx p s m args meth c RX2 cc nL ret cy D ad A) (d : decode cc pc = .ok (.getfield 9, 3)) (hc : k < 2) (h1 : 0 ≤ i) (h2 : i < 5) (kk : V p l e R s m args below meth c nL cy D ad A kc ks Q (pc + 3) lv (.ref (ad 10 k i) :: st) (M)) : V p l e R s m args below meth c nL cy D ad A kc ks Q pc lv (.ref (ad 9 k i) :: st) (M) := r_getF F d (dm9 hc h1 h2) (fs := [.ref (ad 10 k i), .int (i32 (M k 4 i)), .int (i32 (M k 6 i))]) rfl (ci := 2) (C := RX2) (T := TX2) (N := 3) rfl (k := 0) (by decide) inT_X2 lf_X2_9 rfl kk
theorem gf_X4_85 (F : Fx p s m args meth c RX4 cc nL ret cy D ad A) (d : decode cc pc = .ok (.getfield 85, 3)) (hc : k < 2) (h1 : 0 ≤ i) (h2 : i < 5) (kk : V p l e R s m args below meth c nL cy D ad A kc ks Q (pc + 3) lv (.ref (ad 10 k i) :: st) (M)) : V p l e R s m args below meth c nL cy D ad A kc ks Q pc lv (.ref (ad 9 k i) :: st) (M) := r_getF F d (dm9 hc h1 h2) (fs := [.ref (ad 10 k i), .int (i32 (M k 4 i)), .int (i32 (M k 6 i))]) rfl (ci := 2) (C := RX2) (T := TX2) (N := 3) rfl (k := 0) (by decide) inT_X2 lf_X4_85 rfl kk
theorem gf_X1_114 (F : Fx p s m args meth c RX1 cc nL ret cy D ad A) (d : decode cc pc = .ok (.getfield 114, 3)) (hc : k < 2) (h1 : 0 ≤ i) (h2 : i < 5) (kk : V p l e R s m args below meth c nL cy D ad A kc ks Q (pc + 3) lv (.ref (ad 10 k i) :: st) (M)) : V p l e R s m args below meth c nL cy D ad A kc ks Q pc lv (.ref (ad 9 k i) :: st) (M) := r_getF F d (dm9 hc h1 h2) (fs := [.ref (ad 10 k i), .int (i32 (M k 4 i)), .int (i32 (M k 6 i))]) rfl (ci := 2) (C := RX2) (T := TX2) (N := 3) rfl (k := 0) (by decide) inT_X2 lf_X1_114 rfl kk
theorem gg_X2_21 (F : Fx p s m args meth c RX2 cc nL ret cy D ad A) (d : decode cc pc = .ok (.getfield 21, 3)) (hc : k < 2) (h1 : 0 ≤ i) (h2 : i < 5) (kk : V p l e R s m args below meth c nL cy D ad A kc ks Q (pc + 3) lv (.int (i32 (M k 4 i)) :: st) (M)) : V p l e R s m args below meth c nL cy D ad A kc ks Q pc lv (.ref (ad 9 k i) :: st) (M) := r_getF F d (dm9 hc h1 h2) (fs := [.ref (ad 10 k i), .int (i32 (M k 4 i)), .int (i32 (M k 6 i))]) rfl (ci := 2) (C := RX2) (T := TX2) (N := 3) rfl (k := 1) (by decide) inT_X2 lf_X2_21 rfl kk
theorem gf_X2_21 (F : Fx p s m args meth c RX2 cc nL ret cy D ad A) (d : decode cc pc = .ok (.getfield 21, 3)) (hc : k < 2) (h1 : 0 ≤ i) (h2 : i < 5) (kk : V p l e R s m args below meth c nL cy D ad A kc ks Q (pc + 3) lv (.int (i32 (S 4 i)) :: st) (setc M k S)) : V p l e R s m args below meth c nL cy D ad A kc ks Q pc lv (.ref (ad 9 k i) :: st) (setc M k S) := gg_X2_21 F d hc h1 h2 (by rw [setc_at]; exact kk)
theorem pf_X2_21 (F : Fx p s m args meth c RX2 cc nL ret cy D ad A) {v : Int} (d : decode cc pc = .ok (.putfield 21, 3)) (hc : k < 2) (h1 : 0 ≤ i) (h2 : i < 5) (kk : V p l e R s m args below meth c nL cy D ad A kc ks Q (pc + 3) lv st (setc M k (u2 S 4 i v))) : V p l e R s m args below meth c nL cy D ad A kc ks Q pc lv (.int (i32 v) :: .ref (ad 9 k i) :: st) (setc M k S) := by
  refine r_putF F d (dm9 hc h1 h2) (fs := [.ref (ad 10 k i), .int (i32 (S 4 i)), .int (i32 (S 6 i))]) (by simp only [cel, setc_at]) (ci := 2) (C := RX2) (T := TX2) (N := 3) rfl rfl (k := 1) (by decide) inT_X2 tyX2 tyX2_ok nmX2 lf_X2_21 rfl (ty := .int) (by decide +kernel) rfl rfl ?_ (oth (by simp [owner, hc])) kk
  simp [cel, setc_at, u2]
theorem gg_X4_70 (F : Fx p s m args meth c RX4 cc nL ret cy D ad A) (d : decode cc pc = .ok (.getfield 70, 3)) (hc : k < 2) (h1 : 0 ≤ i) (h2 : i < 5) (kk : V p l e R s m args below meth c nL cy D ad A kc ks Q (pc + 3) lv (.int (i32 (M k 4 i)) :: st) (M)) : V p l e R s m args below meth c nL cy D ad A kc ks Q pc lv (.ref (ad 9 k i) :: st) (M) := r_getF F d (dm9 hc h1 h2) (fs := [.ref (ad 10 k i), .int (i32 (M k 4 i)), .int (i32 (M k 6 i))]) rfl (ci := 2) (C := RX2) (T := TX2) (N := 3) rfl (k := 1) (by decide) inT_X2 lf_X4_70 rfl kk
theorem gf_X4_70 (F : Fx p s m args meth c RX4 cc nL ret cy D ad A) (d : decode cc pc = .ok (.getfield 70, 3)) (hc : k < 2) (h1 : 0 ≤ i) (h2 : i < 5) (kk : V p l e R s m args below meth c nL cy D ad A kc ks Q (pc + 3) lv (.int (i32 (S 4 i)) :: st) (setc M k S)) : V p l e R s m args below meth c nL cy D ad A kc ks Q pc lv (.ref (ad 9 k i) :: st) (setc M k S) := gg_X4_70 F d hc h1 h2 (by rw [setc_at]; exact kk)
theorem pf_X4_70 (F : Fx p s m args meth c RX4 cc nL ret cy D ad A) {v : Int} (d : decode cc pc = .ok (.putfield 70, 3)) (hc : k < 2) (h1 : 0 ≤ i) (h2 : i < 5) (kk : V p l e R s m args below meth c nL cy D ad A kc ks Q (pc + 3) lv st (setc M k (u2 S 4 i v))) : V p l e R s m args below meth c nL cy D ad A kc ks Q pc lv (.int (i32 v) :: .ref (ad 9 k i) :: st) (setc M k S) := by
  refine r_putF F d (dm9 hc h1 h2) (fs := [.ref (ad 10 k i), .int (i32 (S 4 i)), .int (i32 (S 6 i))]) (by simp only [cel, setc_at]) (ci := 2) (C := RX2) (T := TX2) (N := 3) rfl rfl (k := 1) (by decide) inT_X2 tyX2 tyX2_ok nmX2 lf_X4_70 rfl (ty := .int) (by decide +kernel) rfl rfl ?_ (oth (by simp [owner, hc])) kk
  simp [cel, setc_at, u2]
theorem gg_X1_90 (F : Fx p s m args meth c RX1 cc nL ret cy D ad A) (d : decode cc pc = .ok (.getfield 90, 3)) (hc : k < 2) (h1 : 0 ≤ i) (h2 : i < 5) (kk : V p l e R s m args below meth c nL cy D ad A kc ks Q (pc + 3) lv (.int (i32 (M k 4 i)) :: st) (M)) : V p l e R s m args below meth c nL cy D ad A kc ks Q pc lv (.ref (ad 9 k i) :: st) (M) := r_getF F d (dm9 hc h1 h2) (fs := [.ref (ad 10 k i), .int (i32 (M k 4 i)), .int (i32 (M k 6 i))]) rfl (ci := 2) (C := RX2) (T := TX2) (N := 3) rfl (k := 1) (by decide) inT_X2 lf_X1_90 rfl kk
theorem gf_X1_90 (F : Fx p s m args meth c RX1 cc nL ret cy D ad A) (d : decode cc pc = .ok (.getfield 90, 3)) (hc : k < 2) (h1 : 0 ≤ i) (h2 : i < 5) (kk : V p l e R s m args below meth c nL cy D ad A kc ks Q (pc + 3) lv (.int (i32 (S 4 i)) :: st) (setc M k S)) : V p l e R s m args below meth c nL cy D ad A kc ks Q pc lv (.ref (ad 9 k i) :: st) (setc M k S) := gg_X1_90 F d hc h1 h2 (by rw [setc_at]; exact kk)
theorem pf_X1_90 (F : Fx p s m args meth c RX1 cc nL ret cy D ad A) {v : Int} (d : decode cc pc = .ok (.putfield 90, 3)) (hc : k < 2) (h1 : 0 ≤ i) (h2 : i < 5) (kk : V p l e R s m args below meth c nL cy D ad A kc ks Q (pc + 3) lv st (setc M k (u2 S 4 i v))) : V p l e R s m args below meth c nL cy D ad A kc ks Q pc lv (.int (i32 v) :: .ref (ad 9 k i) :: st) (setc M k S) := by
  refine r_putF F d (dm9 hc h1 h2) (fs := [.ref (ad 10 k i), .int (i32 (S 4 i)), .int (i32 (S 6 i))]) (by simp only [cel, setc_at]) (ci := 2) (C := RX2) (T := TX2) (N := 3) rfl rfl (k := 1) (by decide) inT_X2 tyX2 tyX2_ok nmX2 lf_X1_90 rfl (ty := .int) (by decide +kernel) rfl rfl ?_ (oth (by simp [owner, hc])) kk
  simp [cel, setc_at, u2]
theorem gg_X2_25 (F : Fx p s m args meth c RX2 cc nL ret cy D ad A) (d : decode cc pc = .ok (.getfield 25, 3)) (hc : k < 2) (h1 : 0 ≤ i) (h2 : i < 5) (kk : V p l e R s m args below meth c nL cy D ad A kc ks Q (pc + 3) lv (.int (i32 (M k 6 i)) :: st) (M)) : V p l e R s m args below meth c nL cy D ad A kc ks Q pc lv (.ref (ad 9 k i) :: st) (M) := r_getF F d (dm9 hc h1 h2) (fs := [.ref (ad 10 k i), .int (i32 (M k 4 i)), .int (i32 (M k 6 i))]) rfl (ci := 2) (C := RX2) (T := TX2) (N := 3) rfl (k := 2) (by decide) inT_X2 lf_X2_25 rfl kk
theorem gf_X2_25 (F : Fx p s m args meth c RX2 cc nL ret cy D ad A) (d : decode cc pc = .ok (.getfield 25, 3)) (hc : k < 2) (h1 : 0 ≤ i) (h2 : i < 5) (kk : V p l e R s m args below meth c nL cy D ad A kc ks Q (pc + 3) lv (.int (i32 (S 6 i)) :: st) (setc M k S)) : V p l e R s m args below meth c nL cy D ad A kc ks Q pc lv (.ref (ad 9 k i) :: st) (setc M k S) := gg_X2_25 F d hc h1 h2 (by rw [setc_at]; exact kk)
theorem pf_X2_25 (F : Fx p s m args meth c RX2 cc nL ret cy D ad A) {v : Int} (d : decode cc pc = .ok (.putfield 25, 3)) (hc : k < 2) (h1 : 0 ≤ i) (h2 : i < 5) (kk : V p l e R s m args below meth c nL cy D ad A kc ks Q (pc + 3) lv st (setc M k (u2 S 6 i v))) : V p l e R s m args below meth c nL cy D ad A kc ks Q pc lv (.int (i32 v) :: .ref (ad 9 k i) :: st) (setc M k S) := by
  refine r_putF F d (dm9 hc h1 h2) (fs := [.ref (ad 10 k i), .int (i32 (S 4 i)), .int (i32 (S 6 i))]) (by simp only [cel, setc_at]) (ci := 2) (C := RX2) (T := TX2) (N := 3) rfl rfl (k := 2) (by decide) inT_X2 tyX2 tyX2_ok nmX2 lf_X2_25 rfl (ty := .int) (by decide +kernel) rfl rfl ?_ (oth (by simp [owner, hc])) kk
  simp [cel, setc_at, u2]
theorem gg_X1_120 (F : Fx p s m args meth c RX1 cc nL ret cy D ad A) (d : decode cc pc = .ok (.getfield 120, 3)) (hc : k < 2) (h1 : 0 ≤ i) (h2 : i < 5) (kk : V p l e R s m args below meth c nL cy D ad A kc ks Q (pc + 3) lv (.int (i32 (M k 6 i)) :: st) (M)) : V p l e R s m args below meth c nL cy D ad A kc ks Q pc lv (.ref (ad 9 k i) :: st) (M) := r_getF F d (dm9 hc h1 h2) (fs := [.ref (ad 10 k i), .int (i32 (M k 4 i)), .int (i32 (M k 6 i))]) rfl (ci := 2) (C := RX2) (T := TX2) (N := 3) rfl (k := 2) (by decide) inT_X2 lf_X1_120 rfl kk
theorem gf_X1_120 (F : Fx p s m args meth c RX1 cc nL ret cy D ad A) (d : decode cc pc = .ok (.getfield 120, 3)) (hc : k < 2) (h1 : 0 ≤ i) (h2 : i < 5) (kk : V p l e R s m args below meth c nL cy D ad A kc ks Q (pc + 3) lv (.int (i32 (S 6 i)) :: st) (setc M k S)) : V p l e R s m args below meth c nL cy D ad A kc ks Q pc lv (.ref (ad 9 k i) :: st) (setc M k S) := gg_X1_120 F d hc h1 h2 (by rw [setc_at]; exact kk)
theorem pf_X1_120 (F : Fx p s m args meth c RX1 cc nL ret cy D ad A) {v : Int} (d : decode cc pc = .ok (.putfield 120, 3)) (hc : k < 2) (h1 : 0 ≤ i) (h2 : i < 5) (kk : V p l e R s m args below meth c nL cy D ad A kc ks Q (pc + 3) lv st (setc M k (u2 S 6 i v))) : V p l e R s m args below meth c nL cy D ad A kc ks Q pc lv (.int (i32 v) :: .ref (ad 9 k i) :: st) (setc M k S) := by
  refine r_putF F d (dm9 hc h1 h2) (fs := [.ref (ad 10 k i), .int (i32 (S 4 i)), .int (i32 (S 6 i))]) (by simp only [cel, setc_at]) (ci := 2) (C := RX2) (T := TX2) (N := 3) rfl rfl (k := 2) (by decide) inT_X2 tyX2 tyX2_ok nmX2 lf_X1_120 rfl (ty := .int) (by decide +kernel) rfl rfl ?_ (oth (by simp [owner, hc])) kk
  simp [cel, setc_at, u2]
theorem gg_X3_7 (F : Fx p s m args meth c RX3 cc nL ret cy D ad A) (d : decode cc pc = .ok (.getfield 7, 3)) (hc : k < 2) (h1 : 0 ≤ i) (h2 : i < 4) (kk : V p l e R s m args below meth c nL cy D ad A kc ks Q (pc + 3) lv (.int (i32 (M k 7 i)) :: st) (M)) : V p l e R s m args below meth c nL cy D ad A kc ks Q pc lv (.ref (ad 11 k i) :: st) (M) := r_getF F d (dm11 hc h1 h2) (fs := [.int (i32 (M k 7 i)), .int (i32 (M k 8 i)), .int (i32 (M k 9 i)), .int (i32 (M k 10 i)), .int (i32 (M k 11 i)), .int (i32 (M k 12 i))]) rfl (ci := 3) (C := RX3) (T := TX3) (N := 6) rfl (k := 0) (by decide) inT_X3 lf_X3_7 rfl kk
theorem gf_X3_7 (F : Fx p s m args meth c RX3 cc nL ret cy D ad A) (d : decode cc pc = .ok (.getfield 7, 3)) (hc : k < 2) (h1 : 0 ≤ i) (h2 : i < 4) (kk : V p l e R s m args below meth c nL cy D ad A kc ks Q (pc + 3) lv (.int (i32 (S 7 i)) :: st) (setc M k S)) : V p l e R s m args below meth c nL cy D ad A kc ks Q pc lv (.ref (ad 11 k i) :: st) (setc M k S) := gg_X3_7 F d hc h1 h2 (by rw [setc_at]; exact kk)
theorem pf_X3_7 (F : Fx p s m args meth c RX3 cc nL ret cy D ad A) {v : Int} (d : decode cc pc = .ok (.putfield 7, 3)) (hc : k < 2) (h1 : 0 ≤ i) (h2 : i < 4) (kk : V p l e R s m args below meth c nL cy D ad A kc ks Q (pc + 3) lv st (setc M k (u2 S 7 i v))) : V p l e R s m args below meth c nL cy D ad A kc ks Q pc lv (.int (i32 v) :: .ref (ad 11 k i) :: st) (setc M k S) := by
  refine r_putF F d (dm11 hc h1 h2) (fs := [.int (i32 (S 7 i)), .int (i32 (S 8 i)), .int (i32 (S 9 i)), .int (i32 (S 10 i)), .int (i32 (S 11 i)), .int (i32 (S 12 i))]) (by simp only [cel, setc_at]) (ci := 3) (C := RX3) (T := TX3) (N := 6) rfl rfl (k := 0) (by decide) inT_X3 tyX3 tyX3_ok nmX3 lf_X3_7 rfl (ty := .int) (by decide +kernel) rfl rfl ?_ (oth (by simp [owner, hc])) kk
  simp [cel, setc_at, u2]
theorem gg_X3_13 (F : Fx p s m args meth c RX3 cc nL ret cy D ad A) (d : decode cc pc = .ok (.getfield 13, 3)) (hc : k < 2) (h1 : 0 ≤ i) (h2 : i < 4) (kk : V p l e R s m args below meth c nL cy D ad A kc ks Q (pc + 3) lv (.int (i32 (M k 8 i)) :: st) (M)) : V p l e R s m args below meth c nL cy D ad A kc ks Q pc lv (.ref (ad 11 k i) :: st) (M) := r_getF F d (dm11 hc h1 h2) (fs := [.int (i32 (M k 7 i)), .int (i32 (M k 8 i)), .int (i32 (M k 9 i)), .int (i32 (M k 10 i)), .int (i32 (M k 11 i)), .int (i32 (M k 12 i))]) rfl (ci := 3) (C := RX3) (T := TX3) (N := 6) rfl (k := 1) (by decide) inT_X3 lf_X3_13 rfl kk
theorem gf_X3_13 (F : Fx p s m args meth c RX3 cc nL ret cy D ad A) (d : decode cc pc = .ok (.getfield 13, 3)) (hc : k < 2) (h1 : 0 ≤ i) (h2 : i < 4) (kk : V p l e R s m args below meth c nL cy D ad A kc ks Q (pc + 3) lv (.int (i32 (S 8 i)) :: st) (setc M k S)) : V p l e R s m args below meth c nL cy D ad A kc ks Q pc lv (.ref (ad 11 k i) :: st) (setc M k S) := gg_X3_13 F d hc h1 h2 (by rw [setc_at]; exact kk)
theorem pf_X3_13 (F : Fx p s m args meth c RX3 cc nL ret cy D ad A) {v : Int} (d : decode cc pc = .ok (.putfield 13, 3)) (hc : k < 2) (h1 : 0 ≤ i) (h2 : i < 4) (kk : V p l e R s m args below meth c nL cy D ad A kc ks Q (pc + 3) lv st (setc M k (u2 S 8 i v))) : V p l e R s m args below meth c nL cy D ad A kc ks Q pc lv (.int (i32 v) :: .ref (ad 11 k i) :: st) (setc M k S) := by
  refine r_putF F d (dm11 hc h1 h2) (fs := [.int (i32 (S 7 i)), .int (i32 (S 8 i)), .int (i32 (S 9 i)), .int (i32 (S 10 i)), .int (i32 (S 11 i)), .int (i32 (S 12 i))]) (by simp only [cel, setc_at]) (ci := 3) (C := RX3) (T := TX3) (N := 6) rfl rfl (k := 1) (by decide) inT_X3 tyX3 tyX3_ok nmX3 lf_X3_13 rfl (ty := .int) (by decide +kernel) rfl rfl ?_ (oth (by simp [owner, hc])) kk
  simp [cel, setc_at, u2]
theorem gg_X3_16 (F : Fx p s m args meth c RX3 cc nL ret cy D ad A) (d : decode cc pc = .ok (.getfield 16, 3)) (hc : k < 2) (h1 : 0 ≤ i) (h2 : i < 4) (kk : V p l e R s m args below meth c nL cy D ad A kc ks Q (pc + 3) lv (.int (i32 (M k 9 i)) :: st) (M)) : V p l e R s m args below meth c nL cy D ad A kc ks Q pc lv (.ref (ad 11 k i) :: st) (M) := r_getF F d (dm11 hc h1 h2) (fs := [.int (i32 (M k 7 i)), .int (i32 (M k 8 i)), .int (i32 (M k 9 i)), .int (i32 (M k 10 i)), .int (i32 (M k 11 i)), .int (i32 (M k 12 i))]) rfl (ci := 3) (C := RX3) (T := TX3) (N := 6) rfl (k := 2) (by decide) inT_X3 lf_X3_16 rfl kk
theorem gf_X3_16 (F : Fx p s m args meth c RX3 cc nL ret cy D ad A) (d : decode cc pc = .ok (.getfield 16, 3)) (hc : k < 2) (h1 : 0 ≤ i) (h2 : i < 4) (kk : V p l e R s m args below meth c nL cy D ad A kc ks Q (pc + 3) lv (.int (i32 (S 9 i)) :: st) (setc M k S)) : V p l e R s m args below meth c nL cy D ad A kc ks Q pc lv (.ref (ad 11 k i) :: st) (setc M k S) := gg_X3_16 F d hc h1 h2 (by rw [setc_at]; exact kk)
theorem pf_X3_16 (F : Fx p s m args meth c RX3 cc nL ret cy D ad A) {v : Int} (d : decode cc pc = .ok (.putfield 16, 3)) (hc : k < 2) (h1 : 0 ≤ i) (h2 : i < 4) (kk : V p l e R s m args below meth c nL cy D ad A kc ks Q (pc + 3) lv st (setc M k (u2 S 9 i v))) : V p l e R s m args below meth c nL cy D ad A kc ks Q pc lv (.int (i32 v) :: .ref (ad 11 k i) :: st) (setc M k S) := by
  refine r_putF F d (dm11 hc h1 h2) (fs := [.int (i32 (S 7 i)), .int (i32 (S 8 i)), .int (i32 (S 9 i)), .int (i32 (S 10 i)), .int (i32 (S 11 i)), .int (i32 (S 12 i))]) (by simp only [cel, setc_at]) (ci := 3) (C := RX3) (T := TX3) (N := 6) rfl rfl (k := 2) (by decide) inT_X3 tyX3 tyX3_ok nmX3 lf_X3_16 rfl (ty := .int) (by decide +kernel) rfl rfl ?_ (oth (by simp [owner, hc])) kk
  simp [cel, setc_at, u2]
theorem gg_X3_19 (F : Fx p s m args meth c RX3 cc nL ret cy D ad A) (d : decode cc pc = .ok (.getfield 19, 3)) (hc : k < 2) (h1 : 0 ≤ i) (h2 : i < 4) (kk : V p l e R s m args below meth c nL cy D ad A kc ks Q (pc + 3) lv (.int (i32 (M k 10 i)) :: st) (M)) : V p l e R s m args below meth c nL cy D ad A kc ks Q pc lv (.ref (ad 11 k i) :: st) (M) := r_getF F d (dm11 hc h1 h2) (fs := [.int (i32 (M k 7 i)), .int (i32 (M k 8 i)), .int (i32 (M k 9 i)), .int (i32 (M k 10 i)), .int (i32 (M k 11 i)), .int (i32 (M k 12 i))]) rfl (ci := 3) (C := RX3) (T := TX3) (N := 6) rfl (k := 3) (by decide) inT_X3 lf_X3_19 rfl kk
theorem gf_X3_19 (F : Fx p s m args meth c RX3 cc nL ret cy D ad A) (d : decode cc pc = .ok (.getfield 19, 3)) (hc : k < 2) (h1 : 0 ≤ i) (h2 : i < 4) (kk : V p l e R s m args below meth c nL cy D ad A kc ks Q (pc + 3) lv (.int (i32 (S 10 i)) :: st) (setc M k S)) : V p l e R s m args below meth c nL cy D ad A kc ks Q pc lv (.ref (ad 11 k i) :: st) (setc M k S) := gg_X3_19 F d hc h1 h2 (by rw [setc_at]; exact kk)
theorem pf_X3_19 (F : Fx p s m args meth c RX3 cc nL ret cy D ad A) {v : Int} (d : decode cc pc = .ok (.putfield 19, 3)) (hc : k < 2) (h1 : 0 ≤ i) (h2 : i < 4) (kk : V p l e R s m args below meth c nL cy D ad A kc ks Q (pc + 3) lv st (setc M k (u2 S 10 i v))) : V p l e R s m args below meth c nL cy D ad A kc ks Q pc lv (.int (i32 v) :: .ref (ad 11 k i) :: st) (setc M k S) := by
  refine r_putF F d (dm11 hc h1 h2) (fs := [.int (i32 (S 7 i)), .int (i32 (S 8 i)), .int (i32 (S 9 i)), .int (i32 (S 10 i)), .int (i32 (S 11 i)), .int (i32 (S 12 i))]) (by simp only [cel, setc_at]) (ci := 3) (C := RX3) (T := TX3) (N := 6) rfl rfl (k := 3) (by decide) inT_X3 tyX3 tyX3_ok nmX3 lf_X3_19 rfl (ty := .int) (by decide +kernel) rfl rfl ?_ (oth (by simp [owner, hc])) kk
  simp [cel, setc_at, u2]
theorem gg_X1_174 (F : Fx p s m args meth c RX1 cc nL ret cy D ad A) (d : decode cc pc = .ok (.getfield 174, 3)) (hc : k < 2) (h1 : 0 ≤ i) (h2 : i < 4) (kk : V p l e R s m args below meth c nL cy D ad A kc ks Q (pc + 3) lv (.int (i32 (M k 10 i)) :: st) (M)) : V p l e R s m args below meth c nL cy D ad A kc ks Q pc lv (.ref (ad 11 k i) :: st) (M) := r_getF F d (dm11 hc h1 h2) (fs := [.int (i32 (M k 7 i)), .int (i32 (M k 8 i)), .int (i32 (M k 9 i)), .int (i32 (M k 10 i)), .int (i32 (M k 11 i)), .int (i32 (M k 12 i))]) rfl (ci := 3) (C := RX3) (T := TX3) (N := 6) rfl (k := 3) (by decide) inT_X3 lf_X1_174 rfl kk
theorem gf_X1_174 (F : Fx p s m args meth c RX1 cc nL ret cy D ad A) (d : decode cc pc = .ok (.getfield 174, 3)) (hc : k < 2) (h1 : 0 ≤ i) (h2 : i < 4) (kk : V p l e R s m args below meth c nL cy D ad A kc ks Q (pc + 3) lv (.int (i32 (S 10 i)) :: st) (setc M k S)) : V p l e R s m args below meth c nL cy D ad A kc ks Q pc lv (.ref (ad 11 k i) :: st) (setc M k S) := gg_X1_174 F d hc h1 h2 (by rw [setc_at]; exact kk)
theorem pf_X1_174 (F : Fx p s m args meth c RX1 cc nL ret cy D ad A) {v : Int} (d : decode cc pc = .ok (.putfield 174, 3)) (hc : k < 2) (h1 : 0 ≤ i) (h2 : i < 4) (kk : V p l e R s m args below meth c nL cy D ad A kc ks Q (pc + 3) lv st (setc M k (u2 S 10 i v))) : V p l e R s m args below meth c nL cy D ad A kc ks Q pc lv (.int (i32 v) :: .ref (ad 11 k i) :: st) (setc M k S) := by
  refine r_putF F d (dm11 hc h1 h2) (fs := [.int (i32 (S 7 i)), .int (i32 (S 8 i)), .int (i32 (S 9 i)), .int (i32 (S 10 i)), .int (i32 (S 11 i)), .int (i32 (S 12 i))]) (by simp only [cel, setc_at]) (ci := 3) (C := RX3) (T := TX3) (N := 6) rfl rfl (k := 3) (by decide) inT_X3 tyX3 tyX3_ok nmX3 lf_X1_174 rfl (ty := .int) (by decide +kernel) rfl rfl ?_ (oth (by simp [owner, hc])) kk
  simp [cel, setc_at, u2]
theorem gg_X3_22 (F : Fx p s m args meth c RX3 cc nL ret cy D ad A) (d : decode cc pc = .ok (.getfield 22, 3)) (hc : k < 2) (h1 : 0 ≤ i) (h2 : i < 4) (kk : V p l e R s m args below meth c nL cy D ad A kc ks Q (pc + 3) lv (.int (i32 (M k 11 i)) :: st) (M)) : V p l e R s m args below meth c nL cy D ad A kc ks Q pc lv (.ref (ad 11 k i) :: st) (M) := r_getF F d (dm11 hc h1 h2) (fs := [.int (i32 (M k 7 i)), .int (i32 (M k 8 i)), .int (i32 (M k 9 i)), .int (i32 (M k 10 i)), .int (i32 (M k 11 i)), .int (i32 (M k 12 i))]) rfl (ci := 3) (C := RX3) (T := TX3) (N := 6) rfl (k := 4) (by decide) inT_X3 lf_X3_22 rfl kk
theorem gf_X3_22 (F : Fx p s m args meth c RX3 cc nL ret cy D ad A) (d : decode cc pc = .ok (.getfield 22, 3)) (hc : k < 2) (h1 : 0 ≤ i) (h2 : i < 4) (kk : V p l e R s m args below meth c nL cy D ad A kc ks Q (pc + 3) lv (.int (i32 (S 11 i)) :: st) (setc M k S)) : V p l e R s m args below meth c nL cy D ad A kc ks Q pc lv (.ref (ad 11 k i) :: st) (setc M k S) := gg_X3_22 F d hc h1 h2 (by rw [setc_at]; exact kk)
theorem pf_X3_22 (F : Fx p s m args meth c RX3 cc nL ret cy D ad A) {v : Int} (d : decode cc pc = .ok (.putfield 22, 3)) (hc : k < 2) (h1 : 0 ≤ i) (h2 : i < 4) (kk : V p l e R s m args below meth c nL cy D ad A kc ks Q (pc + 3) lv st (setc M k (u2 S 11 i v))) : V p l e R s m args below meth c nL cy D ad A kc ks Q pc lv (.int (i32 v) :: .ref (ad 11 k i) :: st) (setc M k S) := by
  refine r_putF F d (dm11 hc h1 h2) (fs := [.int (i32 (S 7 i)), .int (i32 (S 8 i)), .int (i32 (S 9 i)), .int (i32 (S 10 i)), .int (i32 (S 11 i)), .int (i32 (S 12 i))]) (by simp only [cel, setc_at]) (ci := 3) (C := RX3) (T := TX3) (N := 6) rfl rfl (k := 4) (by decide) inT_X3 tyX3 tyX3_ok nmX3 lf_X3_22 rfl (ty := .int) (by decide +kernel) rfl rfl ?_ (oth (by simp [owner, hc])) kk
  simp [cel, setc_at, u2]
theorem gg_X3_25 (F : Fx p s m args meth c RX3 cc nL ret cy D ad A) (d : decode cc pc = .ok (.getfield 25, 3)) (hc : k < 2) (h1 : 0 ≤ i) (h2 : i < 4) (kk : V p l e R s m args below meth c nL cy D ad A kc ks Q (pc + 3) lv (.int (i32 (M k 12 i)) :: st) (M)) : V p l e R s m args below meth c nL cy D ad A kc ks Q pc lv (.ref (ad 11 k i) :: st) (M) := r_getF F d (dm11 hc h1 h2) (fs := [.int (i32 (M k 7 i)), .int (i32 (M k 8 i)), .int (i32 (M k 9 i)), .int (i32 (M k 10 i)), .int (i32 (M k 11 i)), .int (i32 (M k 12 i))]) rfl (ci := 3) (C := RX3) (T := TX3) (N := 6) rfl (k := 5) (by decide) inT_X3 lf_X3_25 rfl kk
theorem gf_X3_25 (F : Fx p s m args meth c RX3 cc nL ret cy D ad A) (d : decode cc pc = .ok (.getfield 25, 3)) (hc : k < 2) (h1 : 0 ≤ i) (h2 : i < 4) (kk : V p l e R s m args below meth c nL cy D ad A kc ks Q (pc + 3) lv (.int (i32 (S 12 i)) :: st) (setc M k S)) : V p l e R s m args below meth c nL cy D ad A kc ks Q pc lv (.ref (ad 11 k i) :: st) (setc M k S) := gg_X3_25 F d hc h1 h2 (by rw [setc_at]; exact kk)
theorem pf_X3_25 (F : Fx p s m args meth c RX3 cc nL ret cy D ad A) {v : Int} (d : decode cc pc = .ok (.putfield 25, 3)) (hc : k < 2) (h1 : 0 ≤ i) (h2 : i < 4) (kk : V p l e R s m args below meth c nL cy D ad A kc ks Q (pc + 3) lv st (setc M k (u2 S 12 i v))) : V p l e R s m args below meth c nL cy D ad A kc ks Q pc lv (.int (i32 v) :: .ref (ad 11 k i) :: st) (setc M k S) := by
  refine r_putF F d (dm11 hc h1 h2) (fs := [.int (i32 (S 7 i)), .int (i32 (S 8 i)), .int (i32 (S 9 i)), .int (i32 (S 10 i)), .int (i32 (S 11 i)), .int (i32 (S 12 i))]) (by simp only [cel, setc_at]) (ci := 3) (C := RX3) (T := TX3) (N := 6) rfl rfl (k := 5) (by decide) inT_X3 tyX3 tyX3_ok nmX3 lf_X3_25 rfl (ty := .int) (by decide +kernel) rfl rfl ?_ (oth (by simp [owner, hc])) kk
  simp [cel, setc_at, u2]
theorem gg_X1_175 (F : Fx p s m args meth c RX1 cc nL ret cy D ad A) (d : decode cc pc = .ok (.getfield 175, 3)) (hc : k < 2) (h1 : 0 ≤ i) (h2 : i < 4) (kk : V p l e R s m args below meth c nL cy D ad A kc ks Q (pc + 3) lv (.int (i32 (M k 12 i)) :: st) (M)) : V p l e R s m args below meth c nL cy D ad A kc ks Q pc lv (.ref (ad 11 k i) :: st) (M) := r_getF F d (dm11 hc h1 h2) (fs := [.int (i32 (M k 7 i)), .int (i32 (M k 8 i)), .int (i32 (M k 9 i)), .int (i32 (M k 10 i)), .int (i32 (M k 11 i)), .int (i32 (M k 12 i))]) rfl (ci := 3) (C := RX3) (T := TX3) (N := 6) rfl (k := 5) (by decide) inT_X3 lf_X1_175 rfl kk
theorem gf_X1_175 (F : Fx p s m args meth c RX1 cc nL ret cy D ad A) (d : decode cc pc = .ok (.getfield 175, 3)) (hc : k < 2) (h1 : 0 ≤ i) (h2 : i < 4) (kk : V p l e R s m args below meth c nL cy D ad A kc ks Q (pc + 3) lv (.int (i32 (S 12 i)) :: st) (setc M k S)) : V p l e R s m args below meth c nL cy D ad A kc ks Q pc lv (.ref (ad 11 k i) :: st) (setc M k S) := gg_X1_175 F d hc h1 h2 (by rw [setc_at]; exact kk)
theorem pf_X1_175 (F : Fx p s m args meth c RX1 cc nL ret cy D ad A) {v : Int} (d : decode cc pc = .ok (.putfield 175, 3)) (hc : k < 2) (h1 : 0 ≤ i) (h2 : i < 4) (kk : V p l e R s m args below meth c nL cy D ad A kc ks Q (pc + 3) lv st (setc M k (u2 S 12 i v))) : V p l e R s m args below meth c nL cy D ad A kc ks Q pc lv (.int (i32 v) :: .ref (ad 11 k i) :: st) (setc M k S) := by
  refine r_putF F d (dm11 hc h1 h2) (fs := [.int (i32 (S 7 i)), .int (i32 (S 8 i)), .int (i32 (S 9 i)), .int (i32 (S 10 i)), .int (i32 (S 11 i)), .int (i32 (S 12 i))]) (by simp only [cel, setc_at]) (ci := 3) (C := RX3) (T := TX3) (N := 6) rfl rfl (k := 5) (by decide) inT_X3 tyX3 tyX3_ok nmX3 lf_X1_175 rfl (ty := .int) (by decide +kernel) rfl rfl ?_ (oth (by simp [owner, hc])) kk
  simp [cel, setc_at, u2]
theorem gg_X0_9 (F : Fx p s m args meth c RX0 cc nL ret cy D ad A) (d : decode cc pc = .ok (.getfield 9, 3)) (hc : k < 2) (h1 : 0 ≤ i) (h2 : i < 6) (kk : V p l e R s m args below meth c nL cy D ad A kc ks Q (pc + 3) lv (.int (i32 (M k 13 i)) :: st) (M)) : V p l e R s m args below meth c nL cy D ad A kc ks Q pc lv (.ref (ad 12 k i) :: st) (M) := r_getF F d (dm12 hc h1 h2) (fs := [.int (i32 (M k 13 i)), .int (i32 (M k 14 i)), .int (i32 (M k 15 i)), .int (i32 (M k 16 i)), .int (i32 (M k 17 i)), .int (i32 (M k 18 i)), .int (i32 (M k 19 i))]) rfl (ci := 0) (C := RX0) (T := TX0) (N := 7) rfl (k := 0) (by decide) inT_X0 lf_X0_9 rfl kk
theorem gf_X0_9 (F : Fx p s m args meth c RX0 cc nL ret cy D ad A) (d : decode cc pc = .ok (.getfield 9, 3)) (hc : k < 2) (h1 : 0 ≤ i) (h2 : i < 6) (kk : V p l e R s m args below meth c nL cy D ad A kc ks Q (pc + 3) lv (.int (i32 (S 13 i)) :: st) (setc M k S)) : V p l e R s m args below meth c nL cy D ad A kc ks Q pc lv (.ref (ad 12 k i) :: st) (setc M k S) := gg_X0_9 F d hc h1 h2 (by rw [setc_at]; exact kk)
theorem pf_X0_9 (F : Fx p s m args meth c RX0 cc nL ret cy D ad A) {v : Int} (d : decode cc pc = .ok (.putfield 9, 3)) (hc : k < 2) (h1 : 0 ≤ i) (h2 : i < 6) (kk : V p l e R s m args below meth c nL cy D ad A kc ks Q (pc + 3) lv st (setc M k (u2 S 13 i v))) : V p l e R s m args below meth c nL cy D ad A kc ks Q pc lv (.int (i32 v) :: .ref (ad 12 k i) :: st) (setc M k S) := by
  refine r_putF F d (dm12 hc h1 h2) (fs := [.int (i32 (S 13 i)), .int (i32 (S 14 i)), .int (i32 (S 15 i)), .int (i32 (S 16 i)), .int (i32 (S 17 i)), .int (i32 (S 18 i)), .int (i32 (S 19 i))]) (by simp only [cel, setc_at]) (ci := 0) (C := RX0) (T := TX0) (N := 7) rfl rfl (k := 0) (by decide) inT_X0 tyX0 tyX0_ok nmX0 lf_X0_9 rfl (ty := .int) (by decide +kernel) rfl rfl ?_ (oth (by simp [owner, hc])) kk
  simp [cel, setc_at, u2]
theorem gg_X1_144 (F : Fx p s m args meth c RX1 cc nL ret cy D ad A) (d : decode cc pc = .ok (.getfield 144, 3)) (hc : k < 2) (h1 : 0 ≤ i) (h2 : i < 6) (kk : V p l e R s m args below meth c nL cy D ad A kc ks Q (pc + 3) lv (.int (i32 (M k 13 i)) :: st) (M)) : V p l e R s m args below meth c nL cy D ad A kc ks Q pc lv (.ref (ad 12 k i) :: st) (M) := r_getF F d (dm12 hc h1 h2) (fs := [.int (i32 (M k 13 i)), .int (i32 (M k 14 i)), .int (i32 (M k 15 i)), .int (i32 (M k 16 i)), .int (i32 (M k 17 i)), .int (i32 (M k 18 i)), .int (i32 (M k 19 i))]) rfl (ci := 0) (C := RX0) (T := TX0) (N := 7) rfl (k := 0) (by decide) inT_X0 lf_X1_144 rfl kk
theorem gf_X1_144 (F : Fx p s m args meth c RX1 cc nL ret cy D ad A) (d : decode cc pc = .ok (.getfield 144, 3)) (hc : k < 2) (h1 : 0 ≤ i) (h2 : i < 6) (kk : V p l e R s m args below meth c nL cy D ad A kc ks Q (pc + 3) lv (.int (i32 (S 13 i)) :: st) (setc M k S)) : V p l e R s m args below meth c nL cy D ad A kc ks Q pc lv (.ref (ad 12 k i) :: st) (setc M k S) := gg_X1_144 F d hc h1 h2 (by rw [setc_at]; exact kk)
theorem pf_X1_144 (F : Fx p s m args meth c RX1 cc nL ret cy D ad A) {v : Int} (d : decode cc pc = .ok (.putfield 144, 3)) (hc : k < 2) (h1 : 0 ≤ i) (h2 : i < 6) (kk : V p l e R s m args below meth c nL cy D ad A kc ks Q (pc + 3) lv st (setc M k (u2 S 13 i v))) : V p l e R s m args below meth c nL cy D ad A kc ks Q pc lv (.int (i32 v) :: .ref (ad 12 k i) :: st) (setc M k S) := by
  refine r_putF F d (dm12 hc h1 h2) (fs := [.int (i32 (S 13 i)), .int (i32 (S 14 i)), .int (i32 (S 15 i)), .int (i32 (S 16 i)), .int (i32 (S 17 i)), .int (i32 (S 18 i)), .int (i32 (S 19 i))]) (by simp only [cel, setc_at]) (ci := 0) (C := RX0) (T := TX0) (N := 7) rfl rfl (k := 0) (by decide) inT_X0 tyX0 tyX0_ok nmX0 lf_X1_144 rfl (ty := .int) (by decide +kernel) rfl rfl ?_ (oth (by simp [owner, hc])) kk
  simp [cel, setc_at, u2]
theorem gg_X0_15 (F : Fx p s m args meth c RX0 cc nL ret cy D ad A) (d : decode cc pc = .ok (.getfield 15, 3)) (hc : k < 2) (h1 : 0 ≤ i) (h2 : i < 6) (kk : V p l e R s m args below meth c nL cy D ad A kc ks Q (pc + 3) lv (.int (i32 (M k 14 i)) :: st) (M)) : V p l e R s m args below meth c nL cy D ad A kc ks Q pc lv (.ref (ad 12 k i) :: st) (M) := r_getF F d (dm12 hc h1 h2) (fs := [.int (i32 (M k 13 i)), .int (i32 (M k 14 i)), .int (i32 (M k 15 i)), .int (i32 (M k 16 i)), .int (i32 (M k 17 i)), .int (i32 (M k 18 i)), .int (i32 (M k 19 i))]) rfl (ci := 0) (C := RX0) (T := TX0) (N := 7) rfl (k := 1) (by decide) inT_X0 lf_X0_15 rfl kk
theorem gf_X0_15 (F : Fx p s m args meth c RX0 cc nL ret cy D ad A) (d : decode cc pc = .ok (.getfield 15, 3)) (hc : k < 2) (h1 : 0 ≤ i) (h2 : i < 6) (kk : V p l e R s m args below meth c nL cy D ad A kc ks Q (pc + 3) lv (.int (i32 (S 14 i)) :: st) (setc M k S)) : V p l e R s m args below meth c nL cy D ad A kc ks Q pc lv (.ref (ad 12 k i) :: st) (setc M k S) := gg_X0_15 F d hc h1 h2 (by rw [setc_at]; exact kk)
theorem pf_X0_15 (F : Fx p s m args meth c RX0 cc nL ret cy D ad A) {v : Int} (d : decode cc pc = .ok (.putfield 15, 3)) (hc : k < 2) (h1 : 0 ≤ i) (h2 : i < 6) (kk : V p l e R s m args below meth c nL cy D ad A kc ks Q (pc + 3) lv st (setc M k (u2 S 14 i v))) : V p l e R s m args below meth c nL cy D ad A kc ks Q pc lv (.int (i32 v) :: .ref (ad 12 k i) :: st) (setc M k S) := by
  refine r_putF F d (dm12 hc h1 h2) (fs := [.int (i32 (S 13 i)), .int (i32 (S 14 i)), .int (i32 (S 15 i)), .int (i32 (S 16 i)), .int (i32 (S 17 i)), .int (i32 (S 18 i)), .int (i32 (S 19 i))]) (by simp only [cel, setc_at]) (ci := 0) (C := RX0) (T := TX0) (N := 7) rfl rfl (k := 1) (by decide) inT_X0 tyX0 tyX0_ok nmX0 lf_X0_15 rfl (ty := .int) (by decide +kernel) rfl rfl ?_ (oth (by simp [owner, hc])) kk
  simp [cel, setc_at, u2]
theorem gg_X1_145 (F : Fx p s m args meth c RX1 cc nL ret cy D ad A) (d : decode cc pc = .ok (.getfield 145, 3)) (hc : k < 2) (h1 : 0 ≤ i) (h2 : i < 6) (kk : V p l e R s m args below meth c nL cy D ad A kc ks Q (pc + 3) lv (.int (i32 (M k 14 i)) :: st) (M)) : V p l e R s m args below meth c nL cy D ad A kc ks Q pc lv (.ref (ad 12 k i) :: st) (M) := r_getF F d (dm12 hc h1 h2) (fs := [.int (i32 (M k 13 i)), .int (i32 (M k 14 i)), .int (i32 (M k 15 i)), .int (i32 (M k 16 i)), .int (i32 (M k 17 i)), .int (i32 (M k 18 i)), .int (i32 (M k 19 i))]) rfl (ci := 0) (C := RX0) (T := TX0) (N := 7) rfl (k := 1) (by decide) inT_X0 lf_X1_145 rfl kk
theorem gf_X1_145 (F : Fx p s m args meth c RX1 cc nL ret cy D ad A) (d : decode cc pc = .ok (.getfield 145, 3)) (hc : k < 2) (h1 : 0 ≤ i) (h2 : i < 6) (kk : V p l e R s m args below meth c nL cy D ad A kc ks Q (pc + 3) lv (.int (i32 (S 14 i)) :: st) (setc M k S)) : V p l e R s m args below meth c nL cy D ad A kc ks Q pc lv (.ref (ad 12 k i) :: st) (setc M k S) := gg_X1_145 F d hc h1 h2 (by rw [setc_at]; exact kk)
theorem pf_X1_145 (F : Fx p s m args meth c RX1 cc nL ret cy D ad A) {v : Int} (d : decode cc pc = .ok (.putfield 145, 3)) (hc : k < 2) (h1 : 0 ≤ i) (h2 : i < 6) (kk : V p l e R s m args below meth c nL cy D ad A kc ks Q (pc + 3) lv st (setc M k (u2 S 14 i v))) : V p l e R s m args below meth c nL cy D ad A kc ks Q pc lv (.int (i32 v) :: .ref (ad 12 k i) :: st) (setc M k S) := by
  refine r_putF F d (dm12 hc h1 h2) (fs := [.int (i32 (S 13 i)), .int (i32 (S 14 i)), .int (i32 (S 15 i)), .int (i32 (S 16 i)), .int (i32 (S 17 i)), .int (i32 (S 18 i)), .int (i32 (S 19 i))]) (by simp only [cel, setc_at]) (ci := 0) (C := RX0) (T := TX0) (N := 7) rfl rfl (k := 1) (by decide) inT_X0 tyX0 tyX0_ok nmX0 lf_X1_145 rfl (ty := .int) (by decide +kernel) rfl rfl ?_ (oth (by simp [owner, hc])) kk
  simp [cel, setc_at, u2]
theorem gg_X0_18 (F : Fx p s m args meth c RX0 cc nL ret cy D ad A) (d : decode cc pc = .ok (.getfield 18, 3)) (hc : k < 2) (h1 : 0 ≤ i) (h2 : i < 6) (kk : V p l e R s m args below meth c nL cy D ad A kc ks Q (pc + 3) lv (.int (i32 (M k 15 i)) :: st) (M)) : V p l e R s m args below meth c nL cy D ad A kc ks Q pc lv (.ref (ad 12 k i) :: st) (M) := r_getF F d (dm12 hc h1 h2) (fs := [.int (i32 (M k 13 i)), .int (i32 (M k 14 i)), .int (i32 (M k 15 i)), .int (i32 (M k 16 i)), .int (i32 (M k 17 i)), .int (i32 (M k 18 i)), .int (i32 (M k 19 i))]) rfl (ci := 0) (C := RX0) (T := TX0) (N := 7) rfl (k := 2) (by decide) inT_X0 lf_X0_18 rfl kk
theorem gf_X0_18 (F : Fx p s m args meth c RX0 cc nL ret cy D ad A) (d : decode cc pc = .ok (.getfield 18, 3)) (hc : k < 2) (h1 : 0 ≤ i) (h2 : i < 6) (kk : V p l e R s m args below meth c nL cy D ad A kc ks Q (pc + 3) lv (.int (i32 (S 15 i)) :: st) (setc M k S)) : V p l e R s m args below meth c nL cy D ad A kc ks Q pc lv (.ref (ad 12 k i) :: st) (setc M k S) := gg_X0_18 F d hc h1 h2 (by rw [setc_at]; exact kk)
theorem pf_X0_18 (F : Fx p s m args meth c RX0 cc nL ret cy D ad A) {v : Int} (d : decode cc pc = .ok (.putfield 18, 3)) (hc : k < 2) (h1 : 0 ≤ i) (h2 : i < 6) (kk : V p l e R s m args below meth c nL cy D ad A kc ks Q (pc + 3) lv st (setc M k (u2 S 15 i v))) : V p l e R s m args below meth c nL cy D ad A kc ks Q pc lv (.int (i32 v) :: .ref (ad 12 k i) :: st) (setc M k S) := by
  refine r_putF F d (dm12 hc h1 h2) (fs := [.int (i32 (S 13 i)), .int (i32 (S 14 i)), .int (i32 (S 15 i)), .int (i32 (S 16 i)), .int (i32 (S 17 i)), .int (i32 (S 18 i)), .int (i32 (S 19 i))]) (by simp only [cel, setc_at]) (ci := 0) (C := RX0) (T := TX0) (N := 7) rfl rfl (k := 2) (by decide) inT_X0 tyX0 tyX0_ok nmX0 lf_X0_18 rfl (ty := .int) (by decide +kernel) rfl rfl ?_ (oth (by simp [owner, hc])) kk
  simp [cel, setc_at, u2]
theorem gg_X4_129 (F : Fx p s m args meth c RX4 cc nL ret cy D ad A) (d : decode cc pc = .ok (.getfield 129, 3)) (hc : k < 2) (h1 : 0 ≤ i) (h2 : i < 6) (kk : V p l e R s m args below meth c nL cy D ad A kc ks Q (pc + 3) lv (.int (i32 (M k 15 i)) :: st) (M)) : V p l e R s m args below meth c nL cy D ad A kc ks Q pc lv (.ref (ad 12 k i) :: st) (M) := r_getF F d (dm12 hc h1 h2) (fs := [.int (i32 (M k 13 i)), .int (i32 (M k 14 i)), .int (i32 (M k 15 i)), .int (i32 (M k 16 i)), .int (i32 (M k 17 i)), .int (i32 (M k 18 i)), .int (i32 (M k 19 i))]) rfl (ci := 0) (C := RX0) (T := TX0) (N := 7) rfl (k := 2) (by decide) inT_X0 lf_X4_129 rfl kk
theorem gf_X4_129 (F : Fx p s m args meth c RX4 cc nL ret cy D ad A) (d : decode cc pc = .ok (.getfield 129, 3)) (hc : k < 2) (h1 : 0 ≤ i) (h2 : i < 6) (kk : V p l e R s m args below meth c nL cy D ad A kc ks Q (pc + 3) lv (.int (i32 (S 15 i)) :: st) (setc M k S)) : V p l e R s m args below meth c nL cy D ad A kc ks Q pc lv (.ref (ad 12 k i) :: st) (setc M k S) := gg_X4_129 F d hc h1 h2 (by rw [setc_at]; exact kk)
theorem pf_X4_129 (F : Fx p s m args meth c RX4 cc nL ret cy D ad A) {v : Int} (d : decode cc pc = .ok (.putfield 129, 3)) (hc : k < 2) (h1 : 0 ≤ i) (h2 : i < 6) (kk : V p l e R s m args below meth c nL cy D ad A kc ks Q (pc + 3) lv st (setc M k (u2 S 15 i v))) : V p l e R s m args below meth c nL cy D ad A kc ks Q pc lv (.int (i32 v) :: .ref (ad 12 k i) :: st) (setc M k S) := by
  refine r_putF F d (dm12 hc h1 h2) (fs := [.int (i32 (S 13 i)), .int (i32 (S 14 i)), .int (i32 (S 15 i)), .int (i32 (S 16 i)), .int (i32 (S 17 i)), .int (i32 (S 18 i)), .int (i32 (S 19 i))]) (by simp only [cel, setc_at]) (ci := 0) (C := RX0) (T := TX0) (N := 7) rfl rfl (k := 2) (by decide) inT_X0 tyX0 tyX0_ok nmX0 lf_X4_129 rfl (ty := .int) (by decide +kernel) rfl rfl ?_ (oth (by simp [owner, hc])) kk
  simp [cel, setc_at, u2]
theorem gg_X1_154 (F : Fx p s m args meth c RX1 cc nL ret cy D ad A) (d : decode cc pc = .ok (.getfield 154, 3)) (hc : k < 2) (h1 : 0 ≤ i) (h2 : i < 6) (kk : V p l e R s m args below meth c nL cy D ad A kc ks Q (pc + 3) lv (.int (i32 (M k 15 i)) :: st) (M)) : V p l e R s m args below meth c nL cy D ad A kc ks Q pc lv (.ref (ad 12 k i) :: st) (M) := r_getF F d (dm12 hc h1 h2) (fs := [.int (i32 (M k 13 i)), .int (i32 (M k 14 i)), .int (i32 (M k 15 i)), .int (i32 (M k 16 i)), .int (i32 (M k 17 i)), .int (i32 (M k 18 i)), .int (i32 (M k 19 i))]) rfl (ci := 0) (C := RX0) (T := TX0) (N := 7) rfl (k := 2) (by decide) inT_X0 lf_X1_154 rfl kk
theorem gf_X1_154 (F : Fx p s m args meth c RX1 cc nL ret cy D ad A) (d : decode cc pc = .ok (.getfield 154, 3)) (hc : k < 2) (h1 : 0 ≤ i) (h2 : i < 6) (kk : V p l e R s m args below meth c nL cy D ad A kc ks Q (pc + 3) lv (.int (i32 (S 15 i)) :: st) (setc M k S)) : V p l e R s m args below meth c nL cy D ad A kc ks Q pc lv (.ref (ad 12 k i) :: st) (setc M k S) := gg_X1_154 F d hc h1 h2 (by rw [setc_at]; exact kk)
theorem pf_X1_154 (F : Fx p s m args meth c RX1 cc nL ret cy D ad A) {v : Int} (d : decode cc pc = .ok (.putfield 154, 3)) (hc : k < 2) (h1 : 0 ≤ i) (h2 : i < 6) (kk : V p l e R s m args below meth c nL cy D ad A kc ks Q (pc + 3) lv st (setc M k (u2 S 15 i v))) : V p l e R s m args below meth c nL cy D ad A kc ks Q pc lv (.int (i32 v) :: .ref (ad 12 k i) :: st) (setc M k S) := by
  refine r_putF F d (dm12 hc h1 h2) (fs := [.int (i32 (S 13 i)), .int (i32 (S 14 i)), .int (i32 (S 15 i)), .int (i32 (S 16 i)), .int (i32 (S 17 i)), .int (i32 (S 18 i)), .int (i32 (S 19 i))]) (by simp only [cel, setc_at]) (ci := 0) (C := RX0) (T := TX0) (N := 7) rfl rfl (k := 2) (by decide) inT_X0 tyX0 tyX0_ok nmX0 lf_X1_154 rfl (ty := .int) (by decide +kernel) rfl rfl ?_ (oth (by simp [owner, hc])) kk
  simp [cel, setc_at, u2]
theorem gg_X0_21 (F : Fx p s m args meth c RX0 cc nL ret cy D ad A) (d : decode cc pc = .ok (.getfield 21, 3)) (hc : k < 2) (h1 : 0 ≤ i) (h2 : i < 6) (kk : V p l e R s m args below meth c nL cy D ad A kc ks Q (pc + 3) lv (.int (i32 (M k 16 i)) :: st) (M)) : V p l e R s m args below meth c nL cy D ad A kc ks Q pc lv (.ref (ad 12 k i) :: st) (M) := r_getF F d (dm12 hc h1 h2) (fs := [.int (i32 (M k 13 i)), .int (i32 (M k 14 i)), .int (i32 (M k 15 i)), .int (i32 (M k 16 i)), .int (i32 (M k 17 i)), .int (i32 (M k 18 i)), .int (i32 (M k 19 i))]) rfl (ci := 0) (C := RX0) (T := TX0) (N := 7) rfl (k := 3) (by decide) inT_X0 lf_X0_21 rfl kk
theorem gf_X0_21 (F : Fx p s m args meth c RX0 cc nL ret cy D ad A) (d : decode cc pc = .ok (.getfield 21, 3)) (hc : k < 2) (h1 : 0 ≤ i) (h2 : i < 6) (kk : V p l e R s m args below meth c nL cy D ad A kc ks Q (pc + 3) lv (.int (i32 (S 16 i)) :: st) (setc M k S)) : V p l e R s m args below meth c nL cy D ad A kc ks Q pc lv (.ref (ad 12 k i) :: st) (setc M k S) := gg_X0_21 F d hc h1 h2 (by rw [setc_at]; exact kk)
theorem pf_X0_21 (F : Fx p s m args meth c RX0 cc nL ret cy D ad A) {v : Int} (d : decode cc pc = .ok (.putfield 21, 3)) (hc : k < 2) (h1 : 0 ≤ i) (h2 : i < 6) (kk : V p l e R s m args below meth c nL cy D ad A kc ks Q (pc + 3) lv st (setc M k (u2 S 16 i v))) : V p l e R s m args below meth c nL cy D ad A kc ks Q pc lv (.int (i32 v) :: .ref (ad 12 k i) :: st) (setc M k S) := by
  refine r_putF F d (dm12 hc h1 h2) (fs := [.int (i32 (S 13 i)), .int (i32 (S 14 i)), .int (i32 (S 15 i)), .int (i32 (S 16 i)), .int (i32 (S 17 i)), .int (i32 (S 18 i)), .int (i32 (S 19 i))]) (by simp only [cel, setc_at]) (ci := 0) (C := RX0) (T := TX0) (N := 7) rfl rfl (k := 3) (by decide) inT_X0 tyX0 tyX0_ok nmX0 lf_X0_21 rfl (ty := .int) (by decide +kernel) rfl rfl ?_ (oth (by simp [owner, hc])) kk
  simp [cel, setc_at, u2]
theorem gg_X1_157 (F : Fx p s m args meth c RX1 cc nL ret cy D ad A) (d : decode cc pc = .ok (.getfield 157, 3)) (hc : k < 2) (h1 : 0 ≤ i) (h2 : i < 6) (kk : V p l e R s m args below meth c nL cy D ad A kc ks Q (pc + 3) lv (.int (i32 (M k 16 i)) :: st) (M)) : V p l e R s m args below meth c nL cy D ad A kc ks Q pc lv (.ref (ad 12 k i) :: st) (M) := r_getF F d (dm12 hc h1 h2) (fs := [.int (i32 (M k 13 i)), .int (i32 (M k 14 i)), .int (i32 (M k 15 i)), .int (i32 (M k 16 i)), .int (i32 (M k 17 i)), .int (i32 (M k 18 i)), .int (i32 (M k 19 i))]) rfl (ci := 0) (C := RX0) (T := TX0) (N := 7) rfl (k := 3) (by decide) inT_X0 lf_X1_157 rfl kk
theorem gf_X1_157 (F : Fx p s m args meth c RX1 cc nL ret cy D ad A) (d : decode cc pc = .ok (.getfield 157, 3)) (hc : k < 2) (h1 : 0 ≤ i) (h2 : i < 6) (kk : V p l e R s m args below meth c nL cy D ad A kc ks Q (pc + 3) lv (.int (i32 (S 16 i)) :: st) (setc M k S)) : V p l e R s m args below meth c nL cy D ad A kc ks Q pc lv (.ref (ad 12 k i) :: st) (setc M k S) := gg_X1_157 F d hc h1 h2 (by rw [setc_at]; exact kk)
theorem pf_X1_157 (F : Fx p s m args meth c RX1 cc nL ret cy D ad A) {v : Int} (d : decode cc pc = .ok (.putfield 157, 3)) (hc : k < 2) (h1 : 0 ≤ i) (h2 : i < 6) (kk : V p l e R s m args below meth c nL cy D ad A kc ks Q (pc + 3) lv st (setc M k (u2 S 16 i v))) : V p l e R s m args below meth c nL cy D ad A kc ks Q pc lv (.int (i32 v) :: .ref (ad 12 k i) :: st) (setc M k S) := by
  refine r_putF F d (dm12 hc h1 h2) (fs := [.int (i32 (S 13 i)), .int (i32 (S 14 i)), .int (i32 (S 15 i)), .int (i32 (S 16 i)), .int (i32 (S 17 i)), .int (i32 (S 18 i)), .int (i32 (S 19 i))]) (by simp only [cel, setc_at]) (ci := 0) (C := RX0) (T := TX0) (N := 7) rfl rfl (k := 3) (by decide) inT_X0 tyX0 tyX0_ok nmX0 lf_X1_157 rfl (ty := .int) (by decide +kernel) rfl rfl ?_ (oth (by simp [owner, hc])) kk
  simp [cel, setc_at, u2]
theorem gg_X0_24 (F : Fx p s m args meth c RX0 cc nL ret cy D ad A) (d : decode cc pc = .ok (.getfield 24, 3)) (hc : k < 2) (h1 : 0 ≤ i) (h2 : i < 6) (kk : V p l e R s m args below meth c nL cy D ad A kc ks Q (pc + 3) lv (.int (i32 (M k 17 i)) :: st) (M)) : V p l e R s m args below meth c nL cy D ad A kc ks Q pc lv (.ref (ad 12 k i) :: st) (M) := r_getF F d (dm12 hc h1 h2) (fs := [.int (i32 (M k 13 i)), .int (i32 (M k 14 i)), .int (i32 (M k 15 i)), .int (i32 (M k 16 i)), .int (i32 (M k 17 i)), .int (i32 (M k 18 i)), .int (i32 (M k 19 i))]) rfl (ci := 0) (C := RX0) (T := TX0) (N := 7) rfl (k := 4) (by decide) inT_X0 lf_X0_24 rfl kk
theorem gf_X0_24 (F : Fx p s m args meth c RX0 cc nL ret cy D ad A) (d : decode cc pc = .ok (.getfield 24, 3)) (hc : k < 2) (h1 : 0 ≤ i) (h2 : i < 6) (kk : V p l e R s m args below meth c nL cy D ad A kc ks Q (pc + 3) lv (.int (i32 (S 17 i)) :: st) (setc M k S)) : V p l e R s m args below meth c nL cy D ad A kc ks Q pc lv (.ref (ad 12 k i) :: st) (setc M k S) := gg_X0_24 F d hc h1 h2 (by rw [setc_at]; exact kk)
theorem pf_X0_24 (F : Fx p s m args meth c RX0 cc nL ret cy D ad A) {v : Int} (d : decode cc pc = .ok (.putfield 24, 3)) (hc : k < 2) (h1 : 0 ≤ i) (h2 : i < 6) (hz : v = 0 ∨ v = 1) (kk : V p l e R s m args below meth c nL cy D ad A kc ks Q (pc + 3) lv st (setc M k (u2 S 17 i v))) : V p l e R s m args below meth c nL cy D ad A kc ks Q pc lv (.int (i32 v) :: .ref (ad 12 k i) :: st) (setc M k S) := by
  refine r_putF F d (dm12 hc h1 h2) (fs := [.int (i32 (S 13 i)), .int (i32 (S 14 i)), .int (i32 (S 15 i)), .int (i32 (S 16 i)), .int (i32 (S 17 i)), .int (i32 (S 18 i)), .int (i32 (S 19 i))]) (by simp only [cel, setc_at]) (ci := 0) (C := RX0) (T := TX0) (N := 7) rfl rfl (k := 4) (by decide) inT_X0 tyX0 tyX0_ok nmX0 lf_X0_24 rfl (ty := .boolean) (by decide +kernel) (by rcases hz with rfl | rfl <;> rfl) (by rcases hz with rfl | rfl <;> rfl) ?_ (oth (by simp [owner, hc])) kk
  simp [cel, setc_at, u2]
theorem gg_X1_133 (F : Fx p s m args meth c RX1 cc nL ret cy D ad A) (d : decode cc pc = .ok (.getfield 133, 3)) (hc : k < 2) (h1 : 0 ≤ i) (h2 : i < 6) (kk : V p l e R s m args below meth c nL cy D ad A kc ks Q (pc + 3) lv (.int (i32 (M k 17 i)) :: st) (M)) : V p l e R s m args below meth c nL cy D ad A kc ks Q pc lv (.ref (ad 12 k i) :: st) (M) := r_getF F d (dm12 hc h1 h2) (fs := [.int (i32 (M k 13 i)), .int (i32 (M k 14 i)), .int (i32 (M k 15 i)), .int (i32 (M k 16 i)), .int (i32 (M k 17 i)), .int (i32 (M k 18 i)), .int (i32 (M k 19 i))]) rfl (ci := 0) (C := RX0) (T := TX0) (N := 7) rfl (k := 4) (by decide) inT_X0 lf_X1_133 rfl kk
theorem gf_X1_133 (F : Fx p s m args meth c RX1 cc nL ret cy D ad A) (d : decode cc pc = .ok (.getfield 133, 3)) (hc : k < 2) (h1 : 0 ≤ i) (h2 : i < 6) (kk : V p l e R s m args below meth c nL cy D ad A kc ks Q (pc + 3) lv (.int (i32 (S 17 i)) :: st) (setc M k S)) : V p l e R s m args below meth c nL cy D ad A kc ks Q pc lv (.ref (ad 12 k i) :: st) (setc M k S) := gg_X1_133 F d hc h1 h2 (by rw [setc_at]; exact kk)
theorem pf_X1_133 (F : Fx p s m args meth c RX1 cc nL ret cy D ad A) {v : Int} (d : decode cc pc = .ok (.putfield 133, 3)) (hc : k < 2) (h1 : 0 ≤ i) (h2 : i < 6) (hz : v = 0 ∨ v = 1) (kk : V p l e R s m args below meth c nL cy D ad A kc ks Q (pc + 3) lv st (setc M k (u2 S 17 i v))) : V p l e R s m args below meth c nL cy D ad A kc ks Q pc lv (.int (i32 v) :: .ref (ad 12 k i) :: st) (setc M k S) := by
  refine r_putF F d (dm12 hc h1 h2) (fs := [.int (i32 (S 13 i)), .int (i32 (S 14 i)), .int (i32 (S 15 i)), .int (i32 (S 16 i)), .int (i32 (S 17 i)), .int (i32 (S 18 i)), .int (i32 (S 19 i))]) (by simp only [cel, setc_at]) (ci := 0) (C := RX0) (T := TX0) (N := 7) rfl rfl (k := 4) (by decide) inT_X0 tyX0 tyX0_ok nmX0 lf_X1_133 rfl (ty := .boolean) (by decide +kernel) (by rcases hz with rfl | rfl <;> rfl) (by rcases hz with rfl | rfl <;> rfl) ?_ (oth (by simp [owner, hc])) kk
  simp [cel, setc_at, u2]
theorem gg_X0_28 (F : Fx p s m args meth c RX0 cc nL ret cy D ad A) (d : decode cc pc = .ok (.getfield 28, 3)) (hc : k < 2) (h1 : 0 ≤ i) (h2 : i < 6) (kk : V p l e R s m args below meth c nL cy D ad A kc ks Q (pc + 3) lv (.int (i32 (M k 18 i)) :: st) (M)) : V p l e R s m args below meth c nL cy D ad A kc ks Q pc lv (.ref (ad 12 k i) :: st) (M) := r_getF F d (dm12 hc h1 h2) (fs := [.int (i32 (M k 13 i)), .int (i32 (M k 14 i)), .int (i32 (M k 15 i)), .int (i32 (M k 16 i)), .int (i32 (M k 17 i)), .int (i32 (M k 18 i)), .int (i32 (M k 19 i))]) rfl (ci := 0) (C := RX0) (T := TX0) (N := 7) rfl (k := 5) (by decide) inT_X0 lf_X0_28 rfl kk
theorem gf_X0_28 (F : Fx p s m args meth c RX0 cc nL ret cy D ad A) (d : decode cc pc = .ok (.getfield 28, 3)) (hc : k < 2) (h1 : 0 ≤ i) (h2 : i < 6) (kk : V p l e R s m args below meth c nL cy D ad A kc ks Q (pc + 3) lv (.int (i32 (S 18 i)) :: st) (setc M k S)) : V p l e R s m args below meth c nL cy D ad A kc ks Q pc lv (.ref (ad 12 k i) :: st) (setc M k S) := gg_X0_28 F d hc h1 h2 (by rw [setc_at]; exact kk)
theorem pf_X0_28 (F : Fx p s m args meth c RX0 cc nL ret cy D ad A) {v : Int} (d : decode cc pc = .ok (.putfield 28, 3)) (hc : k < 2) (h1 : 0 ≤ i) (h2 : i < 6) (kk : V p l e R s m args below meth c nL cy D ad A kc ks Q (pc + 3) lv st (setc M k (u2 S 18 i v))) : V p l e R s m args below meth c nL cy D ad A kc ks Q pc lv (.int (i32 v) :: .ref (ad 12 k i) :: st) (setc M k S) := by
  refine r_putF F d (dm12 hc h1 h2) (fs := [.int (i32 (S 13 i)), .int (i32 (S 14 i)), .int (i32 (S 15 i)), .int (i32 (S 16 i)), .int (i32 (S 17 i)), .int (i32 (S 18 i)), .int (i32 (S 19 i))]) (by simp only [cel, setc_at]) (ci := 0) (C := RX0) (T := TX0) (N := 7) rfl rfl (k := 5) (by decide) inT_X0 tyX0 tyX0_ok nmX0 lf_X0_28 rfl (ty := .int) (by decide +kernel) rfl rfl ?_ (oth (by simp [owner, hc])) kk
  simp [cel, setc_at, u2]
theorem gg_X1_130 (F : Fx p s m args meth c RX1 cc nL ret cy D ad A) (d : decode cc pc = .ok (.getfield 130, 3)) (hc : k < 2) (h1 : 0 ≤ i) (h2 : i < 6) (kk : V p l e R s m args below meth c nL cy D ad A kc ks Q (pc + 3) lv (.int (i32 (M k 18 i)) :: st) (M)) : V p l e R s m args below meth c nL cy D ad A kc ks Q pc lv (.ref (ad 12 k i) :: st) (M) := r_getF F d (dm12 hc h1 h2) (fs := [.int (i32 (M k 13 i)), .int (i32 (M k 14 i)), .int (i32 (M k 15 i)), .int (i32 (M k 16 i)), .int (i32 (M k 17 i)), .int (i32 (M k 18 i)), .int (i32 (M k 19 i))]) rfl (ci := 0) (C := RX0) (T := TX0) (N := 7) rfl (k := 5) (by decide) inT_X0 lf_X1_130 rfl kk
theorem gf_X1_130 (F : Fx p s m args meth c RX1 cc nL ret cy D ad A) (d : decode cc pc = .ok (.getfield 130, 3)) (hc : k < 2) (h1 : 0 ≤ i) (h2 : i < 6) (kk : V p l e R s m args below meth c nL cy D ad A kc ks Q (pc + 3) lv (.int (i32 (S 18 i)) :: st) (setc M k S)) : V p l e R s m args below meth c nL cy D ad A kc ks Q pc lv (.ref (ad 12 k i) :: st) (setc M k S) := gg_X1_130 F d hc h1 h2 (by rw [setc_at]; exact kk)
theorem pf_X1_130 (F : Fx p s m args meth c RX1 cc nL ret cy D ad A) {v : Int} (d : decode cc pc = .ok (.putfield 130, 3)) (hc : k < 2) (h1 : 0 ≤ i) (h2 : i < 6) (kk : V p l e R s m args below meth c nL cy D ad A kc ks Q (pc + 3) lv st (setc M k (u2 S 18 i v))) : V p l e R s m args below meth c nL cy D ad A kc ks Q pc lv (.int (i32 v) :: .ref (ad 12 k i) :: st) (setc M k S) := by
  refine r_putF F d (dm12 hc h1 h2) (fs := [.int (i32 (S 13 i)), .int (i32 (S 14 i)), .int (i32 (S 15 i)), .int (i32 (S 16 i)), .int (i32 (S 17 i)), .int (i32 (S 18 i)), .int (i32 (S 19 i))]) (by simp only [cel, setc_at]) (ci := 0) (C := RX0) (T := TX0) (N := 7) rfl rfl (k := 5) (by decide) inT_X0 tyX0 tyX0_ok nmX0 lf_X1_130 rfl (ty := .int) (by decide +kernel) rfl rfl ?_ (oth (by simp [owner, hc])) kk
  simp [cel, setc_at, u2]
theorem gg_X4_189 (F : Fx p s m args meth c RX4 cc nL ret cy D ad A) (d : decode cc pc = .ok (.getfield 189, 3)) (hc : k < 2) (h1 : 0 ≤ i) (h2 : i < 6) (kk : V p l e R s m args below meth c nL cy D ad A kc ks Q (pc + 3) lv (.int (i32 (M k 18 i)) :: st) (M)) : V p l e R s m args below meth c nL cy D ad A kc ks Q pc lv (.ref (ad 12 k i) :: st) (M) := r_getF F d (dm12 hc h1 h2) (fs := [.int (i32 (M k 13 i)), .int (i32 (M k 14 i)), .int (i32 (M k 15 i)), .int (i32 (M k 16 i)), .int (i32 (M k 17 i)), .int (i32 (M k 18 i)), .int (i32 (M k 19 i))]) rfl (ci := 0) (C := RX0) (T := TX0) (N := 7) rfl (k := 5) (by decide) inT_X0 lf_X4_189 rfl kk
theorem gf_X4_189 (F : Fx p s m args meth c RX4 cc nL ret cy D ad A) (d : decode cc pc = .ok (.getfield 189, 3)) (hc : k < 2) (h1 : 0 ≤ i) (h2 : i < 6) (kk : V p l e R s m args below meth c nL cy D ad A kc ks Q (pc + 3) lv (.int (i32 (S 18 i)) :: st) (setc M k S)) : V p l e R s m args below meth c nL cy D ad A kc ks Q pc lv (.ref (ad 12 k i) :: st) (setc M k S) := gg_X4_189 F d hc h1 h2 (by rw [setc_at]; exact kk)
theorem pf_X4_189 (F : Fx p s m args meth c RX4 cc nL ret cy D ad A) {v : Int} (d : decode cc pc = .ok (.putfield 189, 3)) (hc : k < 2) (h1 : 0 ≤ i) (h2 : i < 6) (kk : V p l e R s m args below meth c nL cy D ad A kc ks Q (pc + 3) lv st (setc M k (u2 S 18 i v))) : V p l e R s m args below meth c nL cy D ad A kc ks Q pc lv (.int (i32 v) :: .ref (ad 12 k i) :: st) (setc M k S) := by
  refine r_putF F d (dm12 hc h1 h2) (fs := [.int (i32 (S 13 i)), .int (i32 (S 14 i)), .int (i32 (S 15 i)), .int (i32 (S 16 i)), .int (i32 (S 17 i)), .int (i32 (S 18 i)), .int (i32 (S 19 i))]) (by simp only [cel, setc_at]) (ci := 0) (C := RX0) (T := TX0) (N := 7) rfl rfl (k := 5) (by decide) inT_X0 tyX0 tyX0_ok nmX0 lf_X4_189 rfl (ty := .int) (by decide +kernel) rfl rfl ?_ (oth (by simp [owner, hc])) kk
  simp [cel, setc_at, u2]
theorem gg_X0_31 (F : Fx p s m args meth c RX0 cc nL ret cy D ad A) (d : decode cc pc = .ok (.getfield 31, 3)) (hc : k < 2) (h1 : 0 ≤ i) (h2 : i < 6) (kk : V p l e R s m args below meth c nL cy D ad A kc ks Q (pc + 3) lv (.int (i32 (M k 19 i)) :: st) (M)) : V p l e R s m args below meth c nL cy D ad A kc ks Q pc lv (.ref (ad 12 k i) :: st) (M) := r_getF F d (dm12 hc h1 h2) (fs := [.int (i32 (M k 13 i)), .int (i32 (M k 14 i)), .int (i32 (M k 15 i)), .int (i32 (M k 16 i)), .int (i32 (M k 17 i)), .int (i32 (M k 18 i)), .int (i32 (M k 19 i))]) rfl (ci := 0) (C := RX0) (T := TX0) (N := 7) rfl (k := 6) (by decide) inT_X0 lf_X0_31 rfl kk
theorem gf_X0_31 (F : Fx p s m args meth c RX0 cc nL ret cy D ad A) (d : decode cc pc = .ok (.getfield 31, 3)) (hc : k < 2) (h1 : 0 ≤ i) (h2 : i < 6) (kk : V p l e R s m args below meth c nL cy D ad A kc ks Q (pc + 3) lv (.int (i32 (S 19 i)) :: st) (setc M k S)) : V p l e R s m args below meth c nL cy D ad A kc ks Q pc lv (.ref (ad 12 k i) :: st) (setc M k S) := gg_X0_31 F d hc h1 h2 (by rw [setc_at]; exact kk)
theorem pf_X0_31 (F : Fx p s m args meth c RX0 cc nL ret cy D ad A) {v : Int} (d : decode cc pc = .ok (.putfield 31, 3)) (hc : k < 2) (h1 : 0 ≤ i) (h2 : i < 6) (kk : V p l e R s m args below meth c nL cy D ad A kc ks Q (pc + 3) lv st (setc M k (u2 S 19 i v))) : V p l e R s m args below meth c nL cy D ad A kc ks Q pc lv (.int (i32 v) :: .ref (ad 12 k i) :: st) (setc M k S) := by
  refine r_putF F d (dm12 hc h1 h2) (fs := [.int (i32 (S 13 i)), .int (i32 (S 14 i)), .int (i32 (S 15 i)), .int (i32 (S 16 i)), .int (i32 (S 17 i)), .int (i32 (S 18 i)), .int (i32 (S 19 i))]) (by simp only [cel, setc_at]) (ci := 0) (C := RX0) (T := TX0) (N := 7) rfl rfl (k := 6) (by decide) inT_X0 tyX0 tyX0_ok nmX0 lf_X0_31 rfl (ty := .int) (by decide +kernel) rfl rfl ?_ (oth (by simp [owner, hc])) kk
  simp [cel, setc_at, u2]
theorem gg_X1_148 (F : Fx p s m args meth c RX1 cc nL ret cy D ad A) (d : decode cc pc = .ok (.getfield 148, 3)) (hc : k < 2) (h1 : 0 ≤ i) (h2 : i < 6) (kk : V p l e R s m args below meth c nL cy D ad A kc ks Q (pc + 3) lv (.int (i32 (M k 19 i)) :: st) (M)) : V p l e R s m args below meth c nL cy D ad A kc ks Q pc lv (.ref (ad 12 k i) :: st) (M) := r_getF F d (dm12 hc h1 h2) (fs := [.int (i32 (M k 13 i)), .int (i32 (M k 14 i)), .int (i32 (M k 15 i)), .int (i32 (M k 16 i)), .int (i32 (M k 17 i)), .int (i32 (M k 18 i)), .int (i32 (M k 19 i))]) rfl (ci := 0) (C := RX0) (T := TX0) (N := 7) rfl (k := 6) (by decide) inT_X0 lf_X1_148 rfl kk
theorem gf_X1_148 (F : Fx p s m args meth c RX1 cc nL ret cy D ad A) (d : decode cc pc = .ok (.getfield 148, 3)) (hc : k < 2) (h1 : 0 ≤ i) (h2 : i < 6) (kk : V p l e R s m args below meth c nL cy D ad A kc ks Q (pc + 3) lv (.int (i32 (S 19 i)) :: st) (setc M k S)) : V p l e R s m args below meth c nL cy D ad A kc ks Q pc lv (.ref (ad 12 k i) :: st) (setc M k S) := gg_X1_148 F d hc h1 h2 (by rw [setc_at]; exact kk)
theorem pf_X1_148 (F : Fx p s m args meth c RX1 cc nL ret cy D ad A) {v : Int} (d : decode cc pc = .ok (.putfield 148, 3)) (hc : k < 2) (h1 : 0 ≤ i) (h2 : i < 6) (kk : V p l e R s m args below meth c nL cy D ad A kc ks Q (pc + 3) lv st (setc M k (u2 S 19 i v))) : V p l e R s m args below meth c nL cy D ad A kc ks Q pc lv (.int (i32 v) :: .ref (ad 12 k i) :: st) (setc M k S) := by
  refine r_putF F d (dm12 hc h1 h2) (fs := [.int (i32 (S 13 i)), .int (i32 (S 14 i)), .int (i32 (S 15 i)), .int (i32 (S 16 i)), .int (i32 (S 17 i)), .int (i32 (S 18 i)), .int (i32 (S 19 i))]) (by simp only [cel, setc_at]) (ci := 0) (C := RX0) (T := TX0) (N := 7) rfl rfl (k := 6) (by decide) inT_X0 tyX0 tyX0_ok nmX0 lf_X1_148 rfl (ty := .int) (by decide +kernel) rfl rfl ?_ (oth (by simp [owner, hc])) kk
  simp [cel, setc_at, u2]
theorem gf_X1_9 (F : Fx p s m args meth c RX1 cc nL ret cy D ad A) (d : decode cc pc = .ok (.getfield 9, 3)) (hc : k < 2) (kk : V p l e R s m args below meth c nL cy D ad A kc ks Q (pc + 3) lv (.ref (ad 2 k 0) :: st) (M)) : V p l e R s m args below meth c nL cy D ad A kc ks Q pc lv (.ref (ad 1 k 0) :: st) (M) := r_getF F d (dm1 ⟨by decide, by decide⟩ hc) (fs := [.ref (ad 2 k 0), .ref (ad 3 k 0), .ref (ad 4 k 0), .ref (ad 5 k 0), .ref (ad 6 k 0), .ref (ad 7 k 0), .ref (ad 8 k 0), .int (i32 (M k 20 1)), .int (i32 (M k 20 2)), .int (i32 (M k 20 3)), .int (i32 (M k 20 0)), .int (i32 (M k 20 4)), .int (i32 (M k 20 5))]) rfl (ci := 1) (C := RX1) (T := TX1) (N := 13) rfl (k := 0) (by decide) inT_X1 lf_X1_9 rfl kk
theorem gf_X4_39 (F : Fx p s m args meth c RX4 cc nL ret cy D ad A) (d : decode cc pc = .ok (.getfield 39, 3)) (hc : k < 2) (kk : V p l e R s m args below meth c nL cy D ad A kc ks Q (pc + 3) lv (.ref (ad 2 k 0) :: st) (M)) : V p l e R s m args below meth c nL cy D ad A kc ks Q pc lv (.ref (ad 1 k 0) :: st) (M) := r_getF F d (dm1 ⟨by decide, by decide⟩ hc) (fs := [.ref (ad 2 k 0), .ref (ad 3 k 0), .ref (ad 4 k 0), .ref (ad 5 k 0), .ref (ad 6 k 0), .ref (ad 7 k 0), .ref (ad 8 k 0), .int (i32 (M k 20 1)), .int (i32 (M k 20 2)), .int (i32 (M k 20 3)), .int (i32 (M k 20 0)), .int (i32 (M k 20 4)), .int (i32 (M k 20 5))]) rfl (ci := 1) (C := RX1) (T := TX1) (N := 13) rfl (k := 0) (by decide) inT_X1 lf_X4_39 rfl kk
theorem gf_X1_15 (F : Fx p s m args meth c RX1 cc nL ret cy D ad A) (d : decode cc pc = .ok (.getfield 15, 3)) (hc : k < 2) (kk : V p l e R s m args below meth c nL cy D ad A kc ks Q (pc + 3) lv (.ref (ad 3 k 0) :: st) (M)) : V p l e R s m args below meth c nL cy D ad A kc ks Q pc lv (.ref (ad 1 k 0) :: st) (M) := r_getF F d (dm1 ⟨by decide, by decide⟩ hc) (fs := [.ref (ad 2 k 0), .ref (ad 3 k 0), .ref (ad 4 k 0), .ref (ad 5 k 0), .ref (ad 6 k 0), .ref (ad 7 k 0), .ref (ad 8 k 0), .int (i32 (M k 20 1)), .int (i32 (M k 20 2)), .int (i32 (M k 20 3)), .int (i32 (M k 20 0)), .int (i32 (M k 20 4)), .int (i32 (M k 20 5))]) rfl (ci := 1) (C := RX1) (T := TX1) (N := 13) rfl (k := 1) (by decide) inT_X1 lf_X1_15 rfl kk
theorem gf_X4_30 (F : Fx p s m args meth c RX4 cc nL ret cy D ad A) (d : decode cc pc = .ok (.getfield 30, 3)) (hc : k < 2) (kk : V p l e R s m args below meth c nL cy D ad A kc ks Q (pc + 3) lv (.ref (ad 3 k 0) :: st) (M)) : V p l e R s m args below meth c nL cy D ad A kc ks Q pc lv (.ref (ad 1 k 0) :: st) (M) := r_getF F d (dm1 ⟨by decide, by decide⟩ hc) (fs := [.ref (ad 2 k 0), .ref (ad 3 k 0), .ref (ad 4 k 0), .ref (ad 5 k 0), .ref (ad 6 k 0), .ref (ad 7 k 0), .ref (ad 8 k 0), .int (i32 (M k 20 1)), .int (i32 (M k 20 2)), .int (i32 (M k 20 3)), .int (i32 (M k 20 0)), .int (i32 (M k 20 4)), .int (i32 (M k 20 5))]) rfl (ci := 1) (C := RX1) (T := TX1) (N := 13) rfl (k := 1) (by decide) inT_X1 lf_X4_30 rfl kk
theorem gf_X1_18 (F : Fx p s m args meth c RX1 cc nL ret cy D ad A) (d : decode cc pc = .ok (.getfield 18, 3)) (hc : k < 2) (kk : V p l e R s m args below meth c nL cy D ad A kc ks Q (pc + 3) lv (.ref (ad 4 k 0) :: st) (M)) : V p l e R s m args below meth c nL cy D ad A kc ks Q pc lv (.ref (ad 1 k 0) :: st) (M) := r_getF F d (dm1 ⟨by decide, by decide⟩ hc) (fs := [.ref (ad 2 k 0), .ref (ad 3 k 0), .ref (ad 4 k 0), .ref (ad 5 k 0), .ref (ad 6 k 0), .ref (ad 7 k 0), .ref (ad 8 k 0), .int (i32 (M k 20 1)), .int (i32 (M k 20 2)), .int (i32 (M k 20 3)), .int (i32 (M k 20 0)), .int (i32 (M k 20 4)), .int (i32 (M k 20 5))]) rfl (ci := 1) (C := RX1) (T := TX1) (N := 13) rfl (k := 2) (by decide) inT_X1 lf_X1_18 rfl kk
theorem gf_X4_48 (F : Fx p s m args meth c RX4 cc nL ret cy D ad A) (d : decode cc pc = .ok (.getfield 48, 3)) (hc : k < 2) (kk : V p l e R s m args below meth c nL cy D ad A kc ks Q (pc + 3) lv (.ref (ad 4 k 0) :: st) (M)) : V p l e R s m args below meth c nL cy D ad A kc ks Q pc lv (.ref (ad 1 k 0) :: st) (M) := r_getF F d (dm1 ⟨by decide, by decide⟩ hc) (fs := [.ref (ad 2 k 0), .ref (ad 3 k 0), .ref (ad 4 k 0), .ref (ad 5 k 0), .ref (ad 6 k 0), .ref (ad 7 k 0), .ref (ad 8 k 0), .int (i32 (M k 20 1)), .int (i32 (M k 20 2)), .int (i32 (M k 20 3)), .int (i32 (M k 20 0)), .int (i32 (M k 20 4)), .int (i32 (M k 20 5))]) rfl (ci := 1) (C := RX1) (T := TX1) (N := 13) rfl (k := 2) (by decide) inT_X1 lf_X4_48 rfl kk
theorem gf_X1_21 (F : Fx p s m args meth c RX1 cc nL ret cy D ad A) (d : decode cc pc = .ok (.getfield 21, 3)) (hc : k < 2) (kk : V p l e R s m args below meth c nL cy D ad A kc ks Q (pc + 3) lv (.ref (ad 5 k 0) :: st) (M)) : V p l e R s m args below meth c nL cy D ad A kc ks Q pc lv (.ref (ad 1 k 0) :: st) (M) := r_getF F d (dm1 ⟨by decide, by decide⟩ hc) (fs := [.ref (ad 2 k 0), .ref (ad 3 k 0), .ref (ad 4 k 0), .ref (ad 5 k 0), .ref (ad 6 k 0), .ref (ad 7 k 0), .ref (ad 8 k 0), .int (i32 (M k 20 1)), .int (i32 (M k 20 2)), .int (i32 (M k 20 3)), .int (i32 (M k 20 0)), .int (i32 (M k 20 4)), .int (i32 (M k 20 5))]) rfl (ci := 1) (C := RX1) (T := TX1) (N := 13) rfl (k := 3) (by decide) inT_X1 lf_X1_21 rfl kk
theorem gf_X4_51 (F : Fx p s m args meth c RX4 cc nL ret cy D ad A) (d : decode cc pc = .ok (.getfield 51, 3)) (hc : k < 2) (kk : V p l e R s m args below meth c nL cy D ad A kc ks Q (pc + 3) lv (.ref (ad 5 k 0) :: st) (M)) : V p l e R s m args below meth c nL cy D ad A kc ks Q pc lv (.ref (ad 1 k 0) :: st) (M) := r_getF F d (dm1 ⟨by decide, by decide⟩ hc) (fs := [.ref (ad 2 k 0), .ref (ad 3 k 0), .ref (ad 4 k 0), .ref (ad 5 k 0), .ref (ad 6 k 0), .ref (ad 7 k 0), .ref (ad 8 k 0), .int (i32 (M k 20 1)), .int (i32 (M k 20 2)), .int (i32 (M k 20 3)), .int (i32 (M k 20 0)), .int (i32 (M k 20 4)), .int (i32 (M k 20 5))]) rfl (ci := 1) (C := RX1) (T := TX1) (N := 13) rfl (k := 3) (by decide) inT_X1 lf_X4_51 rfl kk
theorem gf_X1_26 (F : Fx p s m args meth c RX1 cc nL ret cy D ad A) (d : decode cc pc = .ok (.getfield 26, 3)) (hc : k < 2) (kk : V p l e R s m args below meth c nL cy D ad A kc ks Q (pc + 3) lv (.ref (ad 6 k 0) :: st) (M)) : V p l e R s m args below meth c nL cy D ad A kc ks Q pc lv (.ref (ad 1 k 0) :: st) (M) := r_getF F d (dm1 ⟨by decide, by decide⟩ hc) (fs := [.ref (ad 2 k 0), .ref (ad 3 k 0), .ref (ad 4 k 0), .ref (ad 5 k 0), .ref (ad 6 k 0), .ref (ad 7 k 0), .ref (ad 8 k 0), .int (i32 (M k 20 1)), .int (i32 (M k 20 2)), .int (i32 (M k 20 3)), .int (i32 (M k 20 0)), .int (i32 (M k 20 4)), .int (i32 (M k 20 5))]) rfl (ci := 1) (C := RX1) (T := TX1) (N := 13) rfl (k := 4) (by decide) inT_X1 lf_X1_26 rfl kk
theorem gf_X4_66 (F : Fx p s m args meth c RX4 cc nL ret cy D ad A) (d : decode cc pc = .ok (.getfield 66, 3)) (hc : k < 2) (kk : V p l e R s m args below meth c nL cy D ad A kc ks Q (pc + 3) lv (.ref (ad 6 k 0) :: st) (M)) : V p l e R s m args below meth c nL cy D ad A kc ks Q pc lv (.ref (ad 1 k 0) :: st) (M) := r_getF F d (dm1 ⟨by decide, by decide⟩ hc) (fs := [.ref (ad 2 k 0), .ref (ad 3 k 0), .ref (ad 4 k 0), .ref (ad 5 k 0), .ref (ad 6 k 0), .ref (ad 7 k 0), .ref (ad 8 k 0), .int (i32 (M k 20 1)), .int (i32 (M k 20 2)), .int (i32 (M k 20 3)), .int (i32 (M k 20 0)), .int (i32 (M k 20 4)), .int (i32 (M k 20 5))]) rfl (ci := 1) (C := RX1) (T := TX1) (N := 13) rfl (k := 4) (by decide) inT_X1 lf_X4_66 rfl kk
theorem gf_X1_32 (F : Fx p s m args meth c RX1 cc nL ret cy D ad A) (d : decode cc pc = .ok (.getfield 32, 3)) (hc : k < 2) (kk : V p l e R s m args below meth c nL cy D ad A kc ks Q (pc + 3) lv (.ref (ad 7 k 0) :: st) (M)) : V p l e R s m args below meth c nL cy D ad A kc ks Q pc lv (.ref (ad 1 k 0) :: st) (M) := r_getF F d (dm1 ⟨by decide, by decide⟩ hc) (fs := [.ref (ad 2 k 0), .ref (ad 3 k 0), .ref (ad 4 k 0), .ref (ad 5 k 0), .ref (ad 6 k 0), .ref (ad 7 k 0), .ref (ad 8 k 0), .int (i32 (M k 20 1)), .int (i32 (M k 20 2)), .int (i32 (M k 20 3)), .int (i32 (M k 20 0)), .int (i32 (M k 20 4)), .int (i32 (M k 20 5))]) rfl (ci := 1) (C := RX1) (T := TX1) (N := 13) rfl (k := 5) (by decide) inT_X1 lf_X1_32 rfl kk
theorem gf_X4_97 (F : Fx p s m args meth c RX4 cc nL ret cy D ad A) (d : decode cc pc = .ok (.getfield 97, 3)) (hc : k < 2) (kk : V p l e R s m args below meth c nL cy D ad A kc ks Q (pc + 3) lv (.ref (ad 7 k 0) :: st) (M)) : V p l e R s m args below meth c nL cy D ad A kc ks Q pc lv (.ref (ad 1 k 0) :: st) (M) := r_getF F d (dm1 ⟨by decide, by decide⟩ hc) (fs := [.ref (ad 2 k 0), .ref (ad 3 k 0), .ref (ad 4 k 0), .ref (ad 5 k 0), .ref (ad 6 k 0), .ref (ad 7 k 0), .ref (ad 8 k 0), .int (i32 (M k 20 1)), .int (i32 (M k 20 2)), .int (i32 (M k 20 3)), .int (i32 (M k 20 0)), .int (i32 (M k 20 4)), .int (i32 (M k 20 5))]) rfl (ci := 1) (C := RX1) (T := TX1) (N := 13) rfl (k := 5) (by decide) inT_X1 lf_X4_97 rfl kk
theorem gf_X1_38 (F : Fx p s m args meth c RX1 cc nL ret cy D ad A) (d : decode cc pc = .ok (.getfield 38, 3)) (hc : k < 2) (kk : V p l e R s m args below meth c nL cy D ad A kc ks Q (pc + 3) lv (.ref (ad 8 k 0) :: st) (M)) : V p l e R s m args below meth c nL cy D ad A kc ks Q pc lv (.ref (ad 1 k 0) :: st) (M) := r_getF F d (dm1 ⟨by decide, by decide⟩ hc) (fs := [.ref (ad 2 k 0), .ref (ad 3 k 0), .ref (ad 4 k 0), .ref (ad 5 k 0), .ref (ad 6 k 0), .ref (ad 7 k 0), .ref (ad 8 k 0), .int (i32 (M k 20 1)), .int (i32 (M k 20 2)), .int (i32 (M k 20 3)), .int (i32 (M k 20 0)), .int (i32 (M k 20 4)), .int (i32 (M k 20 5))]) rfl (ci := 1) (C := RX1) (T := TX1) (N := 13) rfl (k := 6) (by decide) inT_X1 lf_X1_38 rfl kk
theorem gf_X4_114 (F : Fx p s m args meth c RX4 cc nL ret cy D ad A) (d : decode cc pc = .ok (.getfield 114, 3)) (hc : k < 2) (kk : V p l e R s m args below meth c nL cy D ad A kc ks Q (pc + 3) lv (.ref (ad 8 k 0) :: st) (M)) : V p l e R s m args below meth c nL cy D ad A kc ks Q pc lv (.ref (ad 1 k 0) :: st) (M) := r_getF F d (dm1 ⟨by decide, by decide⟩ hc) (fs := [.ref (ad 2 k 0), .ref (ad 3 k 0), .ref (ad 4 k 0), .ref (ad 5 k 0), .ref (ad 6 k 0), .ref (ad 7 k 0), .ref (ad 8 k 0), .int (i32 (M k 20 1)), .int (i32 (M k 20 2)), .int (i32 (M k 20 3)), .int (i32 (M k 20 0)), .int (i32 (M k 20 4)), .int (i32 (M k 20 5))]) rfl (ci := 1) (C := RX1) (T := TX1) (N := 13) rfl (k := 6) (by decide) inT_X1 lf_X4_114 rfl kk
theorem gg_X1_51 (F : Fx p s m args meth c RX1 cc nL ret cy D ad A) (d : decode cc pc = .ok (.getfield 51, 3)) (hc : k < 2) (kk : V p l e R s m args below meth c nL cy D ad A kc ks Q (pc + 3) lv (.int (i32 (M k 20 1)) :: st) (M)) : V p l e R s m args below meth c nL cy D ad A kc ks Q pc lv (.ref (ad 1 k 0) :: st) (M) := r_getF F d (dm1 ⟨by decide, by decide⟩ hc) (fs := [.ref (ad 2 k 0), .ref (ad 3 k 0), .ref (ad 4 k 0), .ref (ad 5 k 0), .ref (ad 6 k 0), .ref (ad 7 k 0), .ref (ad 8 k 0), .int (i32 (M k 20 1)), .int (i32 (M k 20 2)), .int (i32 (M k 20 3)), .int (i32 (M k 20 0)), .int (i32 (M k 20 4)), .int (i32 (M k 20 5))]) rfl (ci := 1) (C := RX1) (T := TX1) (N := 13) rfl (k := 7) (by decide) inT_X1 lf_X1_51 rfl kk
theorem gf_X1_51 (F : Fx p s m args meth c RX1 cc nL ret cy D ad A) (d : decode cc pc = .ok (.getfield 51, 3)) (hc : k < 2) (kk : V p l e R s m args below meth c nL cy D ad A kc ks Q (pc + 3) lv (.int (i32 (S 20 1)) :: st) (setc M k S)) : V p l e R s m args below meth c nL cy D ad A kc ks Q pc lv (.ref (ad 1 k 0) :: st) (setc M k S) := gg_X1_51 F d hc (by rw [setc_at]; exact kk)
theorem pf_X1_51 (F : Fx p s m args meth c RX1 cc nL ret cy D ad A) {v : Int} (d : decode cc pc = .ok (.putfield 51, 3)) (hc : k < 2) (kk : V p l e R s m args below meth c nL cy D ad A kc ks Q (pc + 3) lv st (setc M k (u2 S 20 1 v))) : V p l e R s m args below meth c nL cy D ad A kc ks Q pc lv (.int (i32 v) :: .ref (ad 1 k 0) :: st) (setc M k S) := by
  refine r_putF F d (dm1 ⟨by decide, by decide⟩ hc) (fs := [.ref (ad 2 k 0), .ref (ad 3 k 0), .ref (ad 4 k 0), .ref (ad 5 k 0), .ref (ad 6 k 0), .ref (ad 7 k 0), .ref (ad 8 k 0), .int (i32 (S 20 1)), .int (i32 (S 20 2)), .int (i32 (S 20 3)), .int (i32 (S 20 0)), .int (i32 (S 20 4)), .int (i32 (S 20 5))]) (by simp only [cel, setc_at]) (ci := 1) (C := RX1) (T := TX1) (N := 13) rfl rfl (k := 7) (by decide) inT_X1 tyX1 tyX1_ok nmX1 lf_X1_51 rfl (ty := .int) (by decide +kernel) rfl rfl ?_ (oth (by simp [owner, hc])) kk
  simp [cel, setc_at, u2]
theorem gg_X4_54 (F : Fx p s m args meth c RX4 cc nL ret cy D ad A) (d : decode cc pc = .ok (.getfield 54, 3)) (hc : k < 2) (kk : V p l e R s m args below meth c nL cy D ad A kc ks Q (pc + 3) lv (.int (i32 (M k 20 1)) :: st) (M)) : V p l e R s m args below meth c nL cy D ad A kc ks Q pc lv (.ref (ad 1 k 0) :: st) (M) := r_getF F d (dm1 ⟨by decide, by decide⟩ hc) (fs := [.ref (ad 2 k 0), .ref (ad 3 k 0), .ref (ad 4 k 0), .ref (ad 5 k 0), .ref (ad 6 k 0), .ref (ad 7 k 0), .ref (ad 8 k 0), .int (i32 (M k 20 1)), .int (i32 (M k 20 2)), .int (i32 (M k 20 3)), .int (i32 (M k 20 0)), .int (i32 (M k 20 4)), .int (i32 (M k 20 5))]) rfl (ci := 1) (C := RX1) (T := TX1) (N := 13) rfl (k := 7) (by decide) inT_X1 lf_X4_54 rfl kk
theorem gf_X4_54 (F : Fx p s m args meth c RX4 cc nL ret cy D ad A) (d : decode cc pc = .ok (.getfield 54, 3)) (hc : k < 2) (kk : V p l e R s m args below meth c nL cy D ad A kc ks Q (pc + 3) lv (.int (i32 (S 20 1)) :: st) (setc M k S)) : V p l e R s m args below meth c nL cy D ad A kc ks Q pc lv (.ref (ad 1 k 0) :: st) (setc M k S) := gg_X4_54 F d hc (by rw [setc_at]; exact kk)
theorem pf_X4_54 (F : Fx p s m args meth c RX4 cc nL ret cy D ad A) {v : Int} (d : decode cc pc = .ok (.putfield 54, 3)) (hc : k < 2) (kk : V p l e R s m args below meth c nL cy D ad A kc ks Q (pc + 3) lv st (setc M k (u2 S 20 1 v))) : V p l e R s m args below meth c nL cy D ad A kc ks Q pc lv (.int (i32 v) :: .ref (ad 1 k 0) :: st) (setc M k S) := by
  refine r_putF F d (dm1 ⟨by decide, by decide⟩ hc) (fs := [.ref (ad 2 k 0), .ref (ad 3 k 0), .ref (ad 4 k 0), .ref (ad 5 k 0), .ref (ad 6 k 0), .ref (ad 7 k 0), .ref (ad 8 k 0), .int (i32 (S 20 1)), .int (i32 (S 20 2)), .int (i32 (S 20 3)), .int (i32 (S 20 0)), .int (i32 (S 20 4)), .int (i32 (S 20 5))]) (by simp only [cel, setc_at]) (ci := 1) (C := RX1) (T := TX1) (N := 13) rfl rfl (k := 7) (by decide) inT_X1 tyX1 tyX1_ok nmX1 lf_X4_54 rfl (ty := .int) (by decide +kernel) rfl rfl ?_ (oth (by simp [owner, hc])) kk
  simp [cel, setc_at, u2]
theorem gg_X1_55 (F : Fx p s m args meth c RX1 cc nL ret cy D ad A) (d : decode cc pc = .ok (.getfield 55, 3)) (hc : k < 2) (kk : V p l e R s m args below meth c nL cy D ad A kc ks Q (pc + 3) lv (.int (i32 (M k 20 2)) :: st) (M)) : V p l e R s m args below meth c nL cy D ad A kc ks Q pc lv (.ref (ad 1 k 0) :: st) (M) := r_getF F d (dm1 ⟨by decide, by decide⟩ hc) (fs := [.ref (ad 2 k 0), .ref (ad 3 k 0), .ref (ad 4 k 0), .ref (ad 5 k 0), .ref (ad 6 k 0), .ref (ad 7 k 0), .ref (ad 8 k 0), .int (i32 (M k 20 1)), .int (i32 (M k 20 2)), .int (i32 (M k 20 3)), .int (i32 (M k 20 0)), .int (i32 (M k 20 4)), .int (i32 (M k 20 5))]) rfl (ci := 1) (C := RX1) (T := TX1) (N := 13) rfl (k := 8) (by decide) inT_X1 lf_X1_55 rfl kk
theorem gf_X1_55 (F : Fx p s m args meth c RX1 cc nL ret cy D ad A) (d : decode cc pc = .ok (.getfield 55, 3)) (hc : k < 2) (kk : V p l e R s m args below meth c nL cy D ad A kc ks Q (pc + 3) lv (.int (i32 (S 20 2)) :: st) (setc M k S)) : V p l e R s m args below meth c nL cy D ad A kc ks Q pc lv (.ref (ad 1 k 0) :: st) (setc M k S) := gg_X1_55 F d hc (by rw [setc_at]; exact kk)
theorem pf_X1_55 (F : Fx p s m args meth c RX1 cc nL ret cy D ad A) {v : Int} (d : decode cc pc = .ok (.putfield 55, 3)) (hc : k < 2) (kk : V p l e R s m args below meth c nL cy D ad A kc ks Q (pc + 3) lv st (setc M k (u2 S 20 2 v))) : V p l e R s m args below meth c nL cy D ad A kc ks Q pc lv (.int (i32 v) :: .ref (ad 1 k 0) :: st) (setc M k S) := by
  refine r_putF F d (dm1 ⟨by decide, by decide⟩ hc) (fs := [.ref (ad 2 k 0), .ref (ad 3 k 0), .ref (ad 4 k 0), .ref (ad 5 k 0), .ref (ad 6 k 0), .ref (ad 7 k 0), .ref (ad 8 k 0), .int (i32 (S 20 1)), .int (i32 (S 20 2)), .int (i32 (S 20 3)), .int (i32 (S 20 0)), .int (i32 (S 20 4)), .int (i32 (S 20 5))]) (by simp only [cel, setc_at]) (ci := 1) (C := RX1) (T := TX1) (N := 13) rfl rfl (k := 8) (by decide) inT_X1 tyX1 tyX1_ok nmX1 lf_X1_55 rfl (ty := .int) (by decide +kernel) rfl rfl ?_ (oth (by simp [owner, hc])) kk
  simp [cel, setc_at, u2]
theorem gg_X4_92 (F : Fx p s m args meth c RX4 cc nL ret cy D ad A) (d : decode cc pc = .ok (.getfield 92, 3)) (hc : k < 2) (kk : V p l e R s m args below meth c nL cy D ad A kc ks Q (pc + 3) lv (.int (i32 (M k 20 2)) :: st) (M)) : V p l e R s m args below meth c nL cy D ad A kc ks Q pc lv (.ref (ad 1 k 0) :: st) (M) := r_getF F d (dm1 ⟨by decide, by decide⟩ hc) (fs := [.ref (ad 2 k 0), .ref (ad 3 k 0), .ref (ad 4 k 0), .ref (ad 5 k 0), .ref (ad 6 k 0), .ref (ad 7 k 0), .ref (ad 8 k 0), .int (i32 (M k 20 1)), .int (i32 (M k 20 2)), .int (i32 (M k 20 3)), .int (i32 (M k 20 0)), .int (i32 (M k 20 4)), .int (i32 (M k 20 5))]) rfl (ci := 1) (C := RX1) (T := TX1) (N := 13) rfl (k := 8) (by decide) inT_X1 lf_X4_92 rfl kk
theorem gf_X4_92 (F : Fx p s m args meth c RX4 cc nL ret cy D ad A) (d : decode cc pc = .ok (.getfield 92, 3)) (hc : k < 2) (kk : V p l e R s m args below meth c nL cy D ad A kc ks Q (pc + 3) lv (.int (i32 (S 20 2)) :: st) (setc M k S)) : V p l e R s m args below meth c nL cy D ad A kc ks Q pc lv (.ref (ad 1 k 0) :: st) (setc M k S) := gg_X4_92 F d hc (by rw [setc_at]; exact kk)
theorem pf_X4_92 (F : Fx p s m args meth c RX4 cc nL ret cy D ad A) {v : Int} (d : decode cc pc = .ok (.putfield 92, 3)) (hc : k < 2) (kk : V p l e R s m args below meth c nL cy D ad A kc ks Q (pc + 3) lv st (setc M k (u2 S 20 2 v))) : V p l e R s m args below meth c nL cy D ad A kc ks Q pc lv (.int (i32 v) :: .ref (ad 1 k 0) :: st) (setc M k S) := by
  refine r_putF F d (dm1 ⟨by decide, by decide⟩ hc) (fs := [.ref (ad 2 k 0), .ref (ad 3 k 0), .ref (ad 4 k 0), .ref (ad 5 k 0), .ref (ad 6 k 0), .ref (ad 7 k 0), .ref (ad 8 k 0), .int (i32 (S 20 1)), .int (i32 (S 20 2)), .int (i32 (S 20 3)), .int (i32 (S 20 0)), .int (i32 (S 20 4)), .int (i32 (S 20 5))]) (by simp only [cel, setc_at]) (ci := 1) (C := RX1) (T := TX1) (N := 13) rfl rfl (k := 8) (by decide) inT_X1 tyX1 tyX1_ok nmX1 lf_X4_92 rfl (ty := .int) (by decide +kernel) rfl rfl ?_ (oth (by simp [owner, hc])) kk
  simp [cel, setc_at, u2]
theorem gg_X1_58 (F : Fx p s m args meth c RX1 cc nL ret cy D ad A) (d : decode cc pc = .ok (.getfield 58, 3)) (hc : k < 2) (kk : V p l e R s m args below meth c nL cy D ad A kc ks Q (pc + 3) lv (.int (i32 (M k 20 3)) :: st) (M)) : V p l e R s m args below meth c nL cy D ad A kc ks Q pc lv (.ref (ad 1 k 0) :: st) (M) := r_getF F d (dm1 ⟨by decide, by decide⟩ hc) (fs := [.ref (ad 2 k 0), .ref (ad 3 k 0), .ref (ad 4 k 0), .ref (ad 5 k 0), .ref (ad 6 k 0), .ref (ad 7 k 0), .ref (ad 8 k 0), .int (i32 (M k 20 1)), .int (i32 (M k 20 2)), .int (i32 (M k 20 3)), .int (i32 (M k 20 0)), .int (i32 (M k 20 4)), .int (i32 (M k 20 5))]) rfl (ci := 1) (C := RX1) (T := TX1) (N := 13) rfl (k := 9) (by decide) inT_X1 lf_X1_58 rfl kk
theorem gf_X1_58 (F : Fx p s m args meth c RX1 cc nL ret cy D ad A) (d : decode cc pc = .ok (.getfield 58, 3)) (hc : k < 2) (kk : V p l e R s m args below meth c nL cy D ad A kc ks Q (pc + 3) lv (.int (i32 (S 20 3)) :: st) (setc M k S)) : V p l e R s m args below meth c nL cy D ad A kc ks Q pc lv (.ref (ad 1 k 0) :: st) (setc M k S) := gg_X1_58 F d hc (by rw [setc_at]; exact kk)
theorem pf_X1_58 (F : Fx p s m args meth c RX1 cc nL ret cy D ad A) {v : Int} (d : decode cc pc = .ok (.putfield 58, 3)) (hc : k < 2) (kk : V p l e R s m args below meth c nL cy D ad A kc ks Q (pc + 3) lv st (setc M k (u2 S 20 3 v))) : V p l e R s m args below meth c nL cy D ad A kc ks Q pc lv (.int (i32 v) :: .ref (ad 1 k 0) :: st) (setc M k S) := by
  refine r_putF F d (dm1 ⟨by decide, by decide⟩ hc) (fs := [.ref (ad 2 k 0), .ref (ad 3 k 0), .ref (ad 4 k 0), .ref (ad 5 k 0), .ref (ad 6 k 0), .ref (ad 7 k 0), .ref (ad 8 k 0), .int (i32 (S 20 1)), .int (i32 (S 20 2)), .int (i32 (S 20 3)), .int (i32 (S 20 0)), .int (i32 (S 20 4)), .int (i32 (S 20 5))]) (by simp only [cel, setc_at]) (ci := 1) (C := RX1) (T := TX1) (N := 13) rfl rfl (k := 9) (by decide) inT_X1 tyX1 tyX1_ok nmX1 lf_X1_58 rfl (ty := .int) (by decide +kernel) rfl rfl ?_ (oth (by simp [owner, hc])) kk
  simp [cel, setc_at, u2]
theorem gg_X4_109 (F : Fx p s m args meth c RX4 cc nL ret cy D ad A) (d : decode cc pc = .ok (.getfield 109, 3)) (hc : k < 2) (kk : V p l e R s m args below meth c nL cy D ad A kc ks Q (pc + 3) lv (.int (i32 (M k 20 3)) :: st) (M)) : V p l e R s m args below meth c nL cy D ad A kc ks Q pc lv (.ref (ad 1 k 0) :: st) (M) := r_getF F d (dm1 ⟨by decide, by decide⟩ hc) (fs := [.ref (ad 2 k 0), .ref (ad 3 k 0), .ref (ad 4 k 0), .ref (ad 5 k 0), .ref (ad 6 k 0), .ref (ad 7 k 0), .ref (ad 8 k 0), .int (i32 (M k 20 1)), .int (i32 (M k 20 2)), .int (i32 (M k 20 3)), .int (i32 (M k 20 0)), .int (i32 (M k 20 4)), .int (i32 (M k 20 5))]) rfl (ci := 1) (C := RX1) (T := TX1) (N := 13) rfl (k := 9) (by decide) inT_X1 lf_X4_109 rfl kk
theorem gf_X4_109 (F : Fx p s m args meth c RX4 cc nL ret cy D ad A) (d : decode cc pc = .ok (.getfield 109, 3)) (hc : k < 2) (kk : V p l e R s m args below meth c nL cy D ad A kc ks Q (pc + 3) lv (.int (i32 (S 20 3)) :: st) (setc M k S)) : V p l e R s m args below meth c nL cy D ad A kc ks Q pc lv (.ref (ad 1 k 0) :: st) (setc M k S) := gg_X4_109 F d hc (by rw [setc_at]; exact kk)
theorem pf_X4_109 (F : Fx p s m args meth c RX4 cc nL ret cy D ad A) {v : Int} (d : decode cc pc = .ok (.putfield 109, 3)) (hc : k < 2) (kk : V p l e R s m args below meth c nL cy D ad A kc ks Q (pc + 3) lv st (setc M k (u2 S 20 3 v))) : V p l e R s m args below meth c nL cy D ad A kc ks Q pc lv (.int (i32 v) :: .ref (ad 1 k 0) :: st) (setc M k S) := by
  refine r_putF F d (dm1 ⟨by decide, by decide⟩ hc) (fs := [.ref (ad 2 k 0), .ref (ad 3 k 0), .ref (ad 4 k 0), .ref (ad 5 k 0), .ref (ad 6 k 0), .ref (ad 7 k 0), .ref (ad 8 k 0), .int (i32 (S 20 1)), .int (i32 (S 20 2)), .int (i32 (S 20 3)), .int (i32 (S 20 0)), .int (i32 (S 20 4)), .int (i32 (S 20 5))]) (by simp only [cel, setc_at]) (ci := 1) (C := RX1) (T := TX1) (N := 13) rfl rfl (k := 9) (by decide) inT_X1 tyX1 tyX1_ok nmX1 lf_X4_109 rfl (ty := .int) (by decide +kernel) rfl rfl ?_ (oth (by simp [owner, hc])) kk
  simp [cel, setc_at, u2]
theorem gg_X1_71 (F : Fx p s m args meth c RX1 cc nL ret cy D ad A) (d : decode cc pc = .ok (.getfield 71, 3)) (hc : k < 2) (kk : V p l e R s m args below meth c nL cy D ad A kc ks Q (pc + 3) lv (.int (i32 (M k 20 0)) :: st) (M)) : V p l e R s m args below meth c nL cy D ad A kc ks Q pc lv (.ref (ad 1 k 0) :: st) (M) := r_getF F d (dm1 ⟨by decide, by decide⟩ hc) (fs := [.ref (ad 2 k 0), .ref (ad 3 k 0), .ref (ad 4 k 0), .ref (ad 5 k 0), .ref (ad 6 k 0), .ref (ad 7 k 0), .ref (ad 8 k 0), .int (i32 (M k 20 1)), .int (i32 (M k 20 2)), .int (i32 (M k 20 3)), .int (i32 (M k 20 0)), .int (i32 (M k 20 4)), .int (i32 (M k 20 5))]) rfl (ci := 1) (C := RX1) (T := TX1) (N := 13) rfl (k := 10) (by decide) inT_X1 lf_X1_71 rfl kk
theorem gf_X1_71 (F : Fx p s m args meth c RX1 cc nL ret cy D ad A) (d : decode cc pc = .ok (.getfield 71, 3)) (hc : k < 2) (kk : V p l e R s m args below meth c nL cy D ad A kc ks Q (pc + 3) lv (.int (i32 (S 20 0)) :: st) (setc M k S)) : V p l e R s m args below meth c nL cy D ad A kc ks Q pc lv (.ref (ad 1 k 0) :: st) (setc M k S) := gg_X1_71 F d hc (by rw [setc_at]; exact kk)
theorem pf_X1_71 (F : Fx p s m args meth c RX1 cc nL ret cy D ad A) {v : Int} (d : decode cc pc = .ok (.putfield 71, 3)) (hc : k < 2) (kk : V p l e R s m args below meth c nL cy D ad A kc ks Q (pc + 3) lv st (setc M k (u2 S 20 0 v))) : V p l e R s m args below meth c nL cy D ad A kc ks Q pc lv (.int (i32 v) :: .ref (ad 1 k 0) :: st) (setc M k S) := by
  refine r_putF F d (dm1 ⟨by decide, by decide⟩ hc) (fs := [.ref (ad 2 k 0), .ref (ad 3 k 0), .ref (ad 4 k 0), .ref (ad 5 k 0), .ref (ad 6 k 0), .ref (ad 7 k 0), .ref (ad 8 k 0), .int (i32 (S 20 1)), .int (i32 (S 20 2)), .int (i32 (S 20 3)), .int (i32 (S 20 0)), .int (i32 (S 20 4)), .int (i32 (S 20 5))]) (by simp only [cel, setc_at]) (ci := 1) (C := RX1) (T := TX1) (N := 13) rfl rfl (k := 10) (by decide) inT_X1 tyX1 tyX1_ok nmX1 lf_X1_71 rfl (ty := .int) (by decide +kernel) rfl rfl ?_ (oth (by simp [owner, hc])) kk
  simp [cel, setc_at, u2]
theorem gg_X1_74 (F : Fx p s m args meth c RX1 cc nL ret cy D ad A) (d : decode cc pc = .ok (.getfield 74, 3)) (hc : k < 2) (kk : V p l e R s m args below meth c nL cy D ad A kc ks Q (pc + 3) lv (.int (i32 (M k 20 4)) :: st) (M)) : V p l e R s m args below meth c nL cy D ad A kc ks Q pc lv (.ref (ad 1 k 0) :: st) (M) := r_getF F d (dm1 ⟨by decide, by decide⟩ hc) (fs := [.ref (ad 2 k 0), .ref (ad 3 k 0), .ref (ad 4 k 0), .ref (ad 5 k 0), .ref (ad 6 k 0), .ref (ad 7 k 0), .ref (ad 8 k 0), .int (i32 (M k 20 1)), .int (i32 (M k 20 2)), .int (i32 (M k 20 3)), .int (i32 (M k 20 0)), .int (i32 (M k 20 4)), .int (i32 (M k 20 5))]) rfl (ci := 1) (C := RX1) (T := TX1) (N := 13) rfl (k := 11) (by decide) inT_X1 lf_X1_74 rfl kk
theorem gf_X1_74 (F : Fx p s m args meth c RX1 cc nL ret cy D ad A) (d : decode cc pc = .ok (.getfield 74, 3)) (hc : k < 2) (kk : V p l e R s m args below meth c nL cy D ad A kc ks Q (pc + 3) lv (.int (i32 (S 20 4)) :: st) (setc M k S)) : V p l e R s m args below meth c nL cy D ad A kc ks Q pc lv (.ref (ad 1 k 0) :: st) (setc M k S) := gg_X1_74 F d hc (by rw [setc_at]; exact kk)
theorem pf_X1_74 (F : Fx p s m args meth c RX1 cc nL ret cy D ad A) {v : Int} (d : decode cc pc = .ok (.putfield 74, 3)) (hc : k < 2) (kk : V p l e R s m args below meth c nL cy D ad A kc ks Q (pc + 3) lv st (setc M k (u2 S 20 4 v))) : V p l e R s m args below meth c nL cy D ad A kc ks Q pc lv (.int (i32 v) :: .ref (ad 1 k 0) :: st) (setc M k S) := by
  refine r_putF F d (dm1 ⟨by decide, by decide⟩ hc) (fs := [.ref (ad 2 k 0), .ref (ad 3 k 0), .ref (ad 4 k 0), .ref (ad 5 k 0), .ref (ad 6 k 0), .ref (ad 7 k 0), .ref (ad 8 k 0), .int (i32 (S 20 1)), .int (i32 (S 20 2)), .int (i32 (S 20 3)), .int (i32 (S 20 0)), .int (i32 (S 20 4)), .int (i32 (S 20 5))]) (by simp only [cel, setc_at]) (ci := 1) (C := RX1) (T := TX1) (N := 13) rfl rfl (k := 11) (by decide) inT_X1 tyX1 tyX1_ok nmX1 lf_X1_74 rfl (ty := .int) (by decide +kernel) rfl rfl ?_ (oth (by simp [owner, hc])) kk
  simp [cel, setc_at, u2]
theorem gg_X1_77 (F : Fx p s m args meth c RX1 cc nL ret cy D ad A) (d : decode cc pc = .ok (.getfield 77, 3)) (hc : k < 2) (kk : V p l e R s m args below meth c nL cy D ad A kc ks Q (pc + 3) lv (.int (i32 (M k 20 5)) :: st) (M)) : V p l e R s m args below meth c nL cy D ad A kc ks Q pc lv (.ref (ad 1 k 0) :: st) (M) := r_getF F d (dm1 ⟨by decide, by decide⟩ hc) (fs := [.ref (ad 2 k 0), .ref (ad 3 k 0), .ref (ad 4 k 0), .ref (ad 5 k 0), .ref (ad 6 k 0), .ref (ad 7 k 0), .ref (ad 8 k 0), .int (i32 (M k 20 1)), .int (i32 (M k 20 2)), .int (i32 (M k 20 3)), .int (i32 (M k 20 0)), .int (i32 (M k 20 4)), .int (i32 (M k 20 5))]) rfl (ci := 1) (C := RX1) (T := TX1) (N := 13) rfl (k := 12) (by decide) inT_X1 lf_X1_77 rfl kk
theorem gf_X1_77 (F : Fx p s m args meth c RX1 cc nL ret cy D ad A) (d : decode cc pc = .ok (.getfield 77, 3)) (hc : k < 2) (kk : V p l e R s m args below meth c nL cy D ad A kc ks Q (pc + 3) lv (.int (i32 (S 20 5)) :: st) (setc M k S)) : V p l e R s m args below meth c nL cy D ad A kc ks Q pc lv (.ref (ad 1 k 0) :: st) (setc M k S) := gg_X1_77 F d hc (by rw [setc_at]; exact kk)
theorem pf_X1_77 (F : Fx p s m args meth c RX1 cc nL ret cy D ad A) {v : Int} (d : decode cc pc = .ok (.putfield 77, 3)) (hc : k < 2) (kk : V p l e R s m args below meth c nL cy D ad A kc ks Q (pc + 3) lv st (setc M k (u2 S 20 5 v))) : V p l e R s m args below meth c nL cy D ad A kc ks Q pc lv (.int (i32 v) :: .ref (ad 1 k 0) :: st) (setc M k S) := by
  refine r_putF F d (dm1 ⟨by decide, by decide⟩ hc) (fs := [.ref (ad 2 k 0), .ref (ad 3 k 0), .ref (ad 4 k 0), .ref (ad 5 k 0), .ref (ad 6 k 0), .ref (ad 7 k 0), .ref (ad 8 k 0), .int (i32 (S 20 1)), .int (i32 (S 20 2)), .int (i32 (S 20 3)), .int (i32 (S 20 0)), .int (i32 (S 20 4)), .int (i32 (S 20 5))]) (by simp only [cel, setc_at]) (ci := 1) (C := RX1) (T := TX1) (N := 13) rfl rfl (k := 12) (by decide) inT_X1 tyX1 tyX1_ok nmX1 lf_X1_77 rfl (ty := .int) (by decide +kernel) rfl rfl ?_ (oth (by simp [owner, hc])) kk
  simp [cel, setc_at, u2]
theorem gg_X4_139 (F : Fx p s m args meth c RX4 cc nL ret cy D ad A) (d : decode cc pc = .ok (.getfield 139, 3)) (hc : k < 2) (kk : V p l e R s m args below meth c nL cy D ad A kc ks Q (pc + 3) lv (.int (i32 (M k 20 5)) :: st) (M)) : V p l e R s m args below meth c nL cy D ad A kc ks Q pc lv (.ref (ad 1 k 0) :: st) (M) := r_getF F d (dm1 ⟨by decide, by decide⟩ hc) (fs := [.ref (ad 2 k 0), .ref (ad 3 k 0), .ref (ad 4 k 0), .ref (ad 5 k 0), .ref (ad 6 k 0), .ref (ad 7 k 0), .ref (ad 8 k 0), .int (i32 (M k 20 1)), .int (i32 (M k 20 2)), .int (i32 (M k 20 3)), .int (i32 (M k 20 0)), .int (i32 (M k 20 4)), .int (i32 (M k 20 5))]) rfl (ci := 1) (C := RX1) (T := TX1) (N := 13) rfl (k := 12) (by decide) inT_X1 lf_X4_139 rfl kk
theorem gf_X4_139 (F : Fx p s m args meth c RX4 cc nL ret cy D ad A) (d : decode cc pc = .ok (.getfield 139, 3)) (hc : k < 2) (kk : V p l e R s m args below meth c nL cy D ad A kc ks Q (pc + 3) lv (.int (i32 (S 20 5)) :: st) (setc M k S)) : V p l e R s m args below meth c nL cy D ad A kc ks Q pc lv (.ref (ad 1 k 0) :: st) (setc M k S) := gg_X4_139 F d hc (by rw [setc_at]; exact kk)
theorem pf_X4_139 (F : Fx p s m args meth c RX4 cc nL ret cy D ad A) {v : Int} (d : decode cc pc = .ok (.putfield 139, 3)) (hc : k < 2) (kk : V p l e R s m args below meth c nL cy D ad A kc ks Q (pc + 3) lv st (setc M k (u2 S 20 5 v))) : V p l e R s m args below meth c nL cy D ad A kc ks Q pc lv (.int (i32 v) :: .ref (ad 1 k 0) :: st) (setc M k S) := by
  refine r_putF F d (dm1 ⟨by decide, by decide⟩ hc) (fs := [.ref (ad 2 k 0), .ref (ad 3 k 0), .ref (ad 4 k 0), .ref (ad 5 k 0), .ref (ad 6 k 0), .ref (ad 7 k 0), .ref (ad 8 k 0), .int (i32 (S 20 1)), .int (i32 (S 20 2)), .int (i32 (S 20 3)), .int (i32 (S 20 0)), .int (i32 (S 20 4)), .int (i32 (S 20 5))]) (by simp only [cel, setc_at]) (ci := 1) (C := RX1) (T := TX1) (N := 13) rfl rfl (k := 12) (by decide) inT_X1 tyX1 tyX1_ok nmX1 lf_X4_139 rfl (ty := .int) (by decide +kernel) rfl rfl ?_ (oth (by simp [owner, hc])) kk
  simp [cel, setc_at, u2]
theorem gf_X4_10 (F : Fx p s m args meth c RX4 cc nL ret cy D ad A) (d : decode cc pc = .ok (.getfield 10, 3)) (kk : V p l e R s m args below meth c nL cy D ad A kc ks Q (pc + 3) lv (.ref (ad 1 0 0) :: st) (M)) : V p l e R s m args below meth c nL cy D ad A kc ks Q pc lv (.ref (ad 0 0 0) :: st) (M) := r_getF F d (t := 0) (cc1 := 0) (i := 0) rfl (fs := [.ref (ad 1 0 0), .ref (ad 1 1 0)]) rfl (ci := 4) (C := RX4) (T := TX4) (N := 2) rfl (k := 0) (by decide) inT_X4 lf_X4_10 rfl kk
theorem gf_X4_16 (F : Fx p s m args meth c RX4 cc nL ret cy D ad A) (d : decode cc pc = .ok (.getfield 16, 3)) (kk : V p l e R s m args below meth c nL cy D ad A kc ks Q (pc + 3) lv (.ref (ad 1 1 0) :: st) (M)) : V p l e R s m args below meth c nL cy D ad A kc ks Q pc lv (.ref (ad 0 0 0) :: st) (M) := r_getF F d (t := 0) (cc1 := 0) (i := 0) rfl (fs := [.ref (ad 1 0 0), .ref (ad 1 1 0)]) rfl (ci := 4) (C := RX4) (T := TX4) (N := 2) rfl (k := 1) (by decide) inT_X4 lf_X4_16 rfl kk
theorem gg_X5_40 (F : Fx p s m args meth c RX5 cc nL ret cy D ad A) (d : decode cc pc = .ok (.getfield 40, 3)) (hs : ad 40 13 0 = 1) (kk : V p l e R s m args below meth c nL cy D ad A kc ks Q (pc + 3) lv (.int (i32 (M 2 20 0)) :: st) (M)) : V p l e R s m args below meth c nL cy D ad A kc ks Q pc lv (.ref (ad 13 2 0) :: st) (M) := r_getF F d (dm13 hs) (fs := [.int (i32 (M 2 20 0)), .int (i32 (M 2 20 4)), .int (i32 (M 2 20 5)), .ref (ad 14 2 0), .ref (ad 15 2 0), .ref (ad 16 2 0), .ref (ad 17 2 0), .ref (ad 18 2 0), .ref (ad 19 2 0), .ref (ad 20 2 0)]) rfl (ci := 5) (C := RX5) (T := TX5) (N := 10) rfl (k := 0) (by decide) inT_X5 lf_X5_40 rfl kk
theorem gf_X5_40 (F : Fx p s m args meth c RX5 cc nL ret cy D ad A) (d : decode cc pc = .ok (.getfield 40, 3)) (hs : ad 40 13 0 = 1) (kk : V p l e R s m args below meth c nL cy D ad A kc ks Q (pc + 3) lv (.int (i32 (S 20 0)) :: st) (setc M 2 S)) : V p l e R s m args below meth c nL cy D ad A kc ks Q pc lv (.ref (ad 13 2 0) :: st) (setc M 2 S) := gg_X5_40 F d hs (by rw [setc_at]; exact kk)
theorem pf_X5_40 (F : Fx p s m args meth c RX5 cc nL ret cy D ad A) {v : Int} (d : decode cc pc = .ok (.putfield 40, 3)) (hs : ad 40 13 0 = 1) (kk : V p l e R s m args below meth c nL cy D ad A kc ks Q (pc + 3) lv st (setc M 2 (u2 S 20 0 v))) : V p l e R s m args below meth c nL cy D ad A kc ks Q pc lv (.int (i32 v) :: .ref (ad 13 2 0) :: st) (setc M 2 S) := by
  refine r_putF F d (dm13 hs) (fs := [.int (i32 (S 20 0)), .int (i32 (S 20 4)), .int (i32 (S 20 5)), .ref (ad 14 2 0), .ref (ad 15 2 0), .ref (ad 16 2 0), .ref (ad 17 2 0), .ref (ad 18 2 0), .ref (ad 19 2 0), .ref (ad 20 2 0)]) (by simp only [cel, setc_at]) (ci := 5) (C := RX5) (T := TX5) (N := 10) rfl rfl (k := 0) (by decide) inT_X5 tyX5 tyX5_ok nmX5 lf_X5_40 rfl (ty := .int) (by decide +kernel) rfl rfl ?_ (oth (by simp [owner])) kk
  simp [cel, setc_at, u2]
theorem gg_X5_44 (F : Fx p s m args meth c RX5 cc nL ret cy D ad A) (d : decode cc pc = .ok (.getfield 44, 3)) (hs : ad 40 13 0 = 1) (kk : V p l e R s m args below meth c nL cy D ad A kc ks Q (pc + 3) lv (.int (i32 (M 2 20 4)) :: st) (M)) : V p l e R s m args below meth c nL cy D ad A kc ks Q pc lv (.ref (ad 13 2 0) :: st) (M) := r_getF F d (dm13 hs) (fs := [.int (i32 (M 2 20 0)), .int (i32 (M 2 20 4)), .int (i32 (M 2 20 5)), .ref (ad 14 2 0), .ref (ad 15 2 0), .ref (ad 16 2 0), .ref (ad 17 2 0), .ref (ad 18 2 0), .ref (ad 19 2 0), .ref (ad 20 2 0)]) rfl (ci := 5) (C := RX5) (T := TX5) (N := 10) rfl (k := 1) (by decide) inT_X5 lf_X5_44 rfl kk
theorem gf_X5_44 (F : Fx p s m args meth c RX5 cc nL ret cy D ad A) (d : decode cc pc = .ok (.getfield 44, 3)) (hs : ad 40 13 0 = 1) (kk : V p l e R s m args below meth c nL cy D ad A kc ks Q (pc + 3) lv (.int (i32 (S 20 4)) :: st) (setc M 2 S)) : V p l e R s m args below meth c nL cy D ad A kc ks Q pc lv (.ref (ad 13 2 0) :: st) (setc M 2 S) := gg_X5_44 F d hs (by rw [setc_at]; exact kk)
theorem pf_X5_44 (F : Fx p s m args meth c RX5 cc nL ret cy D ad A) {v : Int} (d : decode cc pc = .ok (.putfield 44, 3)) (hs : ad 40 13 0 = 1) (kk : V p l e R s m args below meth c nL cy D ad A kc ks Q (pc + 3) lv st (setc M 2 (u2 S 20 4 v))) : V p l e R s m args below meth c nL cy D ad A kc ks Q pc lv (.int (i32 v) :: .ref (ad 13 2 0) :: st) (setc M 2 S) := by
  refine r_putF F d (dm13 hs) (fs := [.int (i32 (S 20 0)), .int (i32 (S 20 4)), .int (i32 (S 20 5)), .ref (ad 14 2 0), .ref (ad 15 2 0), .ref (ad 16 2 0), .ref (ad 17 2 0), .ref (ad 18 2 0), .ref (ad 19 2 0), .ref (ad 20 2 0)]) (by simp only [cel, setc_at]) (ci := 5) (C := RX5) (T := TX5) (N := 10) rfl rfl (k := 1) (by decide) inT_X5 tyX5 tyX5_ok nmX5 lf_X5_44 rfl (ty := .int) (by decide +kernel) rfl rfl ?_ (oth (by simp [owner])) kk
  simp [cel, setc_at, u2]
theorem gg_L_76 (F : Fx p s m args meth c RL cc nL ret cy D ad A) (d : decode cc pc = .ok (.getfield 76, 3)) (hs : ad 40 13 0 = 1) (kk : V p l e R s m args below meth c nL cy D ad A kc ks Q (pc + 3) lv (.int (i32 (M 2 20 5)) :: st) (M)) : V p l e R s m args below meth c nL cy D ad A kc ks Q pc lv (.ref (ad 13 2 0) :: st) (M) := r_getF F d (dm13 hs) (fs := [.int (i32 (M 2 20 0)), .int (i32 (M 2 20 4)), .int (i32 (M 2 20 5)), .ref (ad 14 2 0), .ref (ad 15 2 0), .ref (ad 16 2 0), .ref (ad 17 2 0), .ref (ad 18 2 0), .ref (ad 19 2 0), .ref (ad 20 2 0)]) rfl (ci := 5) (C := RX5) (T := TX5) (N := 10) rfl (k := 2) (by decide) inT_X5 lf_L_76 rfl kk
theorem gf_L_76 (F : Fx p s m args meth c RL cc nL ret cy D ad A) (d : decode cc pc = .ok (.getfield 76, 3)) (hs : ad 40 13 0 = 1) (kk : V p l e R s m args below meth c nL cy D ad A kc ks Q (pc + 3) lv (.int (i32 (S 20 5)) :: st) (setc M 2 S)) : V p l e R s m args below meth c nL cy D ad A kc ks Q pc lv (.ref (ad 13 2 0) :: st) (setc M 2 S) := gg_L_76 F d hs (by rw [setc_at]; exact kk)
theorem pf_L_76 (F : Fx p s m args meth c RL cc nL ret cy D ad A) {v : Int} (d : decode cc pc = .ok (.putfield 76, 3)) (hs : ad 40 13 0 = 1) (kk : V p l e R s m args below meth c nL cy D ad A kc ks Q (pc + 3) lv st (setc M 2 (u2 S 20 5 v))) : V p l e R s m args below meth c nL cy D ad A kc ks Q pc lv (.int (i32 v) :: .ref (ad 13 2 0) :: st) (setc M 2 S) := by
  refine r_putF F d (dm13 hs) (fs := [.int (i32 (S 20 0)), .int (i32 (S 20 4)), .int (i32 (S 20 5)), .ref (ad 14 2 0), .ref (ad 15 2 0), .ref (ad 16 2 0), .ref (ad 17 2 0), .ref (ad 18 2 0), .ref (ad 19 2 0), .ref (ad 20 2 0)]) (by simp only [cel, setc_at]) (ci := 5) (C := RX5) (T := TX5) (N := 10) rfl rfl (k := 2) (by decide) inT_X5 tyX5 tyX5_ok nmX5 lf_L_76 rfl (ty := .int) (by decide +kernel) rfl rfl ?_ (oth (by simp [owner])) kk
  simp [cel, setc_at, u2]
theorem gg_X5_47 (F : Fx p s m args meth c RX5 cc nL ret cy D ad A) (d : decode cc pc = .ok (.getfield 47, 3)) (hs : ad 40 13 0 = 1) (kk : V p l e R s m args below meth c nL cy D ad A kc ks Q (pc + 3) lv (.int (i32 (M 2 20 5)) :: st) (M)) : V p l e R s m args below meth c nL cy D ad A kc ks Q pc lv (.ref (ad 13 2 0) :: st) (M) := r_getF F d (dm13 hs) (fs := [.int (i32 (M 2 20 0)), .int (i32 (M 2 20 4)), .int (i32 (M 2 20 5)), .ref (ad 14 2 0), .ref (ad 15 2 0), .ref (ad 16 2 0), .ref (ad 17 2 0), .ref (ad 18 2 0), .ref (ad 19 2 0), .ref (ad 20 2 0)]) rfl (ci := 5) (C := RX5) (T := TX5) (N := 10) rfl (k := 2) (by decide) inT_X5 lf_X5_47 rfl kk
theorem gf_X5_47 (F : Fx p s m args meth c RX5 cc nL ret cy D ad A) (d : decode cc pc = .ok (.getfield 47, 3)) (hs : ad 40 13 0 = 1) (kk : V p l e R s m args below meth c nL cy D ad A kc ks Q (pc + 3) lv (.int (i32 (S 20 5)) :: st) (setc M 2 S)) : V p l e R s m args below meth c nL cy D ad A kc ks Q pc lv (.ref (ad 13 2 0) :: st) (setc M 2 S) := gg_X5_47 F d hs (by rw [setc_at]; exact kk)
theorem pf_X5_47 (F : Fx p s m args meth c RX5 cc nL ret cy D ad A) {v : Int} (d : decode cc pc = .ok (.putfield 47, 3)) (hs : ad 40 13 0 = 1) (kk : V p l e R s m args below meth c nL cy D ad A kc ks Q (pc + 3) lv st (setc M 2 (u2 S 20 5 v))) : V p l e R s m args below meth c nL cy D ad A kc ks Q pc lv (.int (i32 v) :: .ref (ad 13 2 0) :: st) (setc M 2 S) := by
  refine r_putF F d (dm13 hs) (fs := [.int (i32 (S 20 0)), .int (i32 (S 20 4)), .int (i32 (S 20 5)), .ref (ad 14 2 0), .ref (ad 15 2 0), .ref (ad 16 2 0), .ref (ad 17 2 0), .ref (ad 18 2 0), .ref (ad 19 2 0), .ref (ad 20 2 0)]) (by simp only [cel, setc_at]) (ci := 5) (C := RX5) (T := TX5) (N := 10) rfl rfl (k := 2) (by decide) inT_X5 tyX5 tyX5_ok nmX5 lf_X5_47 rfl (ty := .int) (by decide +kernel) rfl rfl ?_ (oth (by simp [owner])) kk
  simp [cel, setc_at, u2]
theorem gf_X5_7 (F : Fx p s m args meth c RX5 cc nL ret cy D ad A) (d : decode cc pc = .ok (.getfield 7, 3)) (hs : ad 40 13 0 = 1) (kk : V p l e R s m args below meth c nL cy D ad A kc ks Q (pc + 3) lv (.ref (ad 14 2 0) :: st) (M)) : V p l e R s m args below meth c nL cy D ad A kc ks Q pc lv (.ref (ad 13 2 0) :: st) (M) := r_getF F d (dm13 hs) (fs := [.int (i32 (M 2 20 0)), .int (i32 (M 2 20 4)), .int (i32 (M 2 20 5)), .ref (ad 14 2 0), .ref (ad 15 2 0), .ref (ad 16 2 0), .ref (ad 17 2 0), .ref (ad 18 2 0), .ref (ad 19 2 0), .ref (ad 20 2 0)]) rfl (ci := 5) (C := RX5) (T := TX5) (N := 10) rfl (k := 3) (by decide) inT_X5 lf_X5_7 rfl kk
theorem gf_L_28 (F : Fx p s m args meth c RL cc nL ret cy D ad A) (d : decode cc pc = .ok (.getfield 28, 3)) (hs : ad 40 13 0 = 1) (kk : V p l e R s m args below meth c nL cy D ad A kc ks Q (pc + 3) lv (.ref (ad 14 2 0) :: st) (M)) : V p l e R s m args below meth c nL cy D ad A kc ks Q pc lv (.ref (ad 13 2 0) :: st) (M) := r_getF F d (dm13 hs) (fs := [.int (i32 (M 2 20 0)), .int (i32 (M 2 20 4)), .int (i32 (M 2 20 5)), .ref (ad 14 2 0), .ref (ad 15 2 0), .ref (ad 16 2 0), .ref (ad 17 2 0), .ref (ad 18 2 0), .ref (ad 19 2 0), .ref (ad 20 2 0)]) rfl (ci := 5) (C := RX5) (T := TX5) (N := 10) rfl (k := 3) (by decide) inT_X5 lf_L_28 rfl kk
theorem gf_X5_13 (F : Fx p s m args meth c RX5 cc nL ret cy D ad A) (d : decode cc pc = .ok (.getfield 13, 3)) (hs : ad 40 13 0 = 1) (kk : V p l e R s m args below meth c nL cy D ad A kc ks Q (pc + 3) lv (.ref (ad 15 2 0) :: st) (M)) : V p l e R s m args below meth c nL cy D ad A kc ks Q pc lv (.ref (ad 13 2 0) :: st) (M) := r_getF F d (dm13 hs) (fs := [.int (i32 (M 2 20 0)), .int (i32 (M 2 20 4)), .int (i32 (M 2 20 5)), .ref (ad 14 2 0), .ref (ad 15 2 0), .ref (ad 16 2 0), .ref (ad 17 2 0), .ref (ad 18 2 0), .ref (ad 19 2 0), .ref (ad 20 2 0)]) rfl (ci := 5) (C := RX5) (T := TX5) (N := 10) rfl (k := 4) (by decide) inT_X5 lf_X5_13 rfl kk
theorem gf_L_24 (F : Fx p s m args meth c RL cc nL ret cy D ad A) (d : decode cc pc = .ok (.getfield 24, 3)) (hs : ad 40 13 0 = 1) (kk : V p l e R s m args below meth c nL cy D ad A kc ks Q (pc + 3) lv (.ref (ad 15 2 0) :: st) (M)) : V p l e R s m args below meth c nL cy D ad A kc ks Q pc lv (.ref (ad 13 2 0) :: st) (M) := r_getF F d (dm13 hs) (fs := [.int (i32 (M 2 20 0)), .int (i32 (M 2 20 4)), .int (i32 (M 2 20 5)), .ref (ad 14 2 0), .ref (ad 15 2 0), .ref (ad 16 2 0), .ref (ad 17 2 0), .ref (ad 18 2 0), .ref (ad 19 2 0), .ref (ad 20 2 0)]) rfl (ci := 5) (C := RX5) (T := TX5) (N := 10) rfl (k := 4) (by decide) inT_X5 lf_L_24 rfl kk
theorem gf_X5_16 (F : Fx p s m args meth c RX5 cc nL ret cy D ad A) (d : decode cc pc = .ok (.getfield 16, 3)) (hs : ad 40 13 0 = 1) (kk : V p l e R s m args below meth c nL cy D ad A kc ks Q (pc + 3) lv (.ref (ad 16 2 0) :: st) (M)) : V p l e R s m args below meth c nL cy D ad A kc ks Q pc lv (.ref (ad 13 2 0) :: st) (M) := r_getF F d (dm13 hs) (fs := [.int (i32 (M 2 20 0)), .int (i32 (M 2 20 4)), .int (i32 (M 2 20 5)), .ref (ad 14 2 0), .ref (ad 15 2 0), .ref (ad 16 2 0), .ref (ad 17 2 0), .ref (ad 18 2 0), .ref (ad 19 2 0), .ref (ad 20 2 0)]) rfl (ci := 5) (C := RX5) (T := TX5) (N := 10) rfl (k := 5) (by decide) inT_X5 lf_X5_16 rfl kk
theorem gf_L_36 (F : Fx p s m args meth c RL cc nL ret cy D ad A) (d : decode cc pc = .ok (.getfield 36, 3)) (hs : ad 40 13 0 = 1) (kk : V p l e R s m args below meth c nL cy D ad A kc ks Q (pc + 3) lv (.ref (ad 16 2 0) :: st) (M)) : V p l e R s m args below meth c nL cy D ad A kc ks Q pc lv (.ref (ad 13 2 0) :: st) (M) := r_getF F d (dm13 hs) (fs := [.int (i32 (M 2 20 0)), .int (i32 (M 2 20 4)), .int (i32 (M 2 20 5)), .ref (ad 14 2 0), .ref (ad 15 2 0), .ref (ad 16 2 0), .ref (ad 17 2 0), .ref (ad 18 2 0), .ref (ad 19 2 0), .ref (ad 20 2 0)]) rfl (ci := 5) (C := RX5) (T := TX5) (N := 10) rfl (k := 5) (by decide) inT_X5 lf_L_36 rfl kk
theorem gf_X5_19 (F : Fx p s m args meth c RX5 cc nL ret cy D ad A) (d : decode cc pc = .ok (.getfield 19, 3)) (hs : ad 40 13 0 = 1) (kk : V p l e R s m args below meth c nL cy D ad A kc ks Q (pc + 3) lv (.ref (ad 17 2 0) :: st) (M)) : V p l e R s m args below meth c nL cy D ad A kc ks Q pc lv (.ref (ad 13 2 0) :: st) (M) := r_getF F d (dm13 hs) (fs := [.int (i32 (M 2 20 0)), .int (i32 (M 2 20 4)), .int (i32 (M 2 20 5)), .ref (ad 14 2 0), .ref (ad 15 2 0), .ref (ad 16 2 0), .ref (ad 17 2 0), .ref (ad 18 2 0), .ref (ad 19 2 0), .ref (ad 20 2 0)]) rfl (ci := 5) (C := RX5) (T := TX5) (N := 10) rfl (k := 6) (by decide) inT_X5 lf_X5_19 rfl kk
theorem gf_L_39 (F : Fx p s m args meth c RL cc nL ret cy D ad A) (d : decode cc pc = .ok (.getfield 39, 3)) (hs : ad 40 13 0 = 1) (kk : V p l e R s m args below meth c nL cy D ad A kc ks Q (pc + 3) lv (.ref (ad 17 2 0) :: st) (M)) : V p l e R s m args below meth c nL cy D ad A kc ks Q pc lv (.ref (ad 13 2 0) :: st) (M) := r_getF F d (dm13 hs) (fs := [.int (i32 (M 2 20 0)), .int (i32 (M 2 20 4)), .int (i32 (M 2 20 5)), .ref (ad 14 2 0), .ref (ad 15 2 0), .ref (ad 16 2 0), .ref (ad 17 2 0), .ref (ad 18 2 0), .ref (ad 19 2 0), .ref (ad 20 2 0)]) rfl (ci := 5) (C := RX5) (T := TX5) (N := 10) rfl (k := 6) (by decide) inT_X5 lf_L_39 rfl kk
theorem gf_X5_23 (F : Fx p s m args meth c RX5 cc nL ret cy D ad A) (d : decode cc pc = .ok (.getfield 23, 3)) (hs : ad 40 13 0 = 1) (kk : V p l e R s m args below meth c nL cy D ad A kc ks Q (pc + 3) lv (.ref (ad 18 2 0) :: st) (M)) : V p l e R s m args below meth c nL cy D ad A kc ks Q pc lv (.ref (ad 13 2 0) :: st) (M) := r_getF F d (dm13 hs) (fs := [.int (i32 (M 2 20 0)), .int (i32 (M 2 20 4)), .int (i32 (M 2 20 5)), .ref (ad 14 2 0), .ref (ad 15 2 0), .ref (ad 16 2 0), .ref (ad 17 2 0), .ref (ad 18 2 0), .ref (ad 19 2 0), .ref (ad 20 2 0)]) rfl (ci := 5) (C := RX5) (T := TX5) (N := 10) rfl (k := 7) (by decide) inT_X5 lf_X5_23 rfl kk
theorem gf_L_15 (F : Fx p s m args meth c RL cc nL ret cy D ad A) (d : decode cc pc = .ok (.getfield 15, 3)) (hs : ad 40 13 0 = 1) (kk : V p l e R s m args below meth c nL cy D ad A kc ks Q (pc + 3) lv (.ref (ad 18 2 0) :: st) (M)) : V p l e R s m args below meth c nL cy D ad A kc ks Q pc lv (.ref (ad 13 2 0) :: st) (M) := r_getF F d (dm13 hs) (fs := [.int (i32 (M 2 20 0)), .int (i32 (M 2 20 4)), .int (i32 (M 2 20 5)), .ref (ad 14 2 0), .ref (ad 15 2 0), .ref (ad 16 2 0), .ref (ad 17 2 0), .ref (ad 18 2 0), .ref (ad 19 2 0), .ref (ad 20 2 0)]) rfl (ci := 5) (C := RX5) (T := TX5) (N := 10) rfl (k := 7) (by decide) inT_X5 lf_L_15 rfl kk
theorem gf_X5_27 (F : Fx p s m args meth c RX5 cc nL ret cy D ad A) (d : decode cc pc = .ok (.getfield 27, 3)) (hs : ad 40 13 0 = 1) (kk : V p l e R s m args below meth c nL cy D ad A kc ks Q (pc + 3) lv (.ref (ad 19 2 0) :: st) (M)) : V p l e R s m args below meth c nL cy D ad A kc ks Q pc lv (.ref (ad 13 2 0) :: st) (M) := r_getF F d (dm13 hs) (fs := [.int (i32 (M 2 20 0)), .int (i32 (M 2 20 4)), .int (i32 (M 2 20 5)), .ref (ad 14 2 0), .ref (ad 15 2 0), .ref (ad 16 2 0), .ref (ad 17 2 0), .ref (ad 18 2 0), .ref (ad 19 2 0), .ref (ad 20 2 0)]) rfl (ci := 5) (C := RX5) (T := TX5) (N := 10) rfl (k := 8) (by decide) inT_X5 lf_X5_27 rfl kk
theorem gf_L_64 (F : Fx p s m args meth c RL cc nL ret cy D ad A) (d : decode cc pc = .ok (.getfield 64, 3)) (hs : ad 40 13 0 = 1) (kk : V p l e R s m args below meth c nL cy D ad A kc ks Q (pc + 3) lv (.ref (ad 19 2 0) :: st) (M)) : V p l e R s m args below meth c nL cy D ad A kc ks Q pc lv (.ref (ad 13 2 0) :: st) (M) := r_getF F d (dm13 hs) (fs := [.int (i32 (M 2 20 0)), .int (i32 (M 2 20 4)), .int (i32 (M 2 20 5)), .ref (ad 14 2 0), .ref (ad 15 2 0), .ref (ad 16 2 0), .ref (ad 17 2 0), .ref (ad 18 2 0), .ref (ad 19 2 0), .ref (ad 20 2 0)]) rfl (ci := 5) (C := RX5) (T := TX5) (N := 10) rfl (k := 8) (by decide) inT_X5 lf_L_64 rfl kk
theorem gf_X5_30 (F : Fx p s m args meth c RX5 cc nL ret cy D ad A) (d : decode cc pc = .ok (.getfield 30, 3)) (hs : ad 40 13 0 = 1) (kk : V p l e R s m args below meth c nL cy D ad A kc ks Q (pc + 3) lv (.ref (ad 20 2 0) :: st) (M)) : V p l e R s m args below meth c nL cy D ad A kc ks Q pc lv (.ref (ad 13 2 0) :: st) (M) := r_getF F d (dm13 hs) (fs := [.int (i32 (M 2 20 0)), .int (i32 (M 2 20 4)), .int (i32 (M 2 20 5)), .ref (ad 14 2 0), .ref (ad 15 2 0), .ref (ad 16 2 0), .ref (ad 17 2 0), .ref (ad 18 2 0), .ref (ad 19 2 0), .ref (ad 20 2 0)]) rfl (ci := 5) (C := RX5) (T := TX5) (N := 10) rfl (k := 9) (by decide) inT_X5 lf_X5_30 rfl kk
theorem gf_L_21 (F : Fx p s m args meth c RL cc nL ret cy D ad A) (d : decode cc pc = .ok (.getfield 21, 3)) (hs : ad 40 13 0 = 1) (kk : V p l e R s m args below meth c nL cy D ad A kc ks Q (pc + 3) lv (.ref (ad 20 2 0) :: st) (M)) : V p l e R s m args below meth c nL cy D ad A kc ks Q pc lv (.ref (ad 13 2 0) :: st) (M) := r_getF F d (dm13 hs) (fs := [.int (i32 (M 2 20 0)), .int (i32 (M 2 20 4)), .int (i32 (M 2 20 5)), .ref (ad 14 2 0), .ref (ad 15 2 0), .ref (ad 16 2 0), .ref (ad 17 2 0), .ref (ad 18 2 0), .ref (ad 19 2 0), .ref (ad 20 2 0)]) rfl (ci := 5) (C := RX5) (T := TX5) (N := 10) rfl (k := 9) (by decide) inT_X5 lf_L_21 rfl kk
theorem ig_2 {own : String} (F : Fx p s m args meth c own cc nL ret cy D ad A) {a : Int} (d : decode cc pc = .ok (.iaload, 1)) (hc : k < 2) (h1 : 0 ≤ a) (h2 : a < 16) (kk : V p l e R s m args below meth c nL cy D ad A kc ks Q (pc + 1) lv (.int (i32 (M k 0 a)) :: st) (M)) : V p l e R s m args below meth c nL cy D ad A kc ks Q pc lv (.int (i32 a) :: .ref (ad 2 k 0) :: st) (M) := r_iald F d (dm1 ⟨by decide, by decide⟩ hc) (n := 16) (f := fun j => i32 (M k 0 (j : Int))) rfl h1 h2 (by decide) (by show i32 (M k 0 ((a.toNat : Nat) : Int)) = _; rw [Int.toNat_of_nonneg h1]) kk
theorem ia_2 {own : String} (F : Fx p s m args meth c own cc nL ret cy D ad A) {a : Int} (d : decode cc pc = .ok (.iaload, 1)) (hc : k < 2) (h1 : 0 ≤ a) (h2 : a < 16) (kk : V p l e R s m args below meth c nL cy D ad A kc ks Q (pc + 1) lv (.int (i32 (S 0 a)) :: st) (setc M k S)) : V p l e R s m args below meth c nL cy D ad A kc ks Q pc lv (.int (i32 a) :: .ref (ad 2 k 0) :: st) (setc M k S) := ig_2 F d hc h1 h2 (by rw [setc_at]; exact kk)
theorem is_2 {own : String} (F : Fx p s m args meth c own cc nL ret cy D ad A) {a v : Int} (d : decode cc pc = .ok (.iastore, 1)) (hc : k < 2) (h1 : 0 ≤ a) (h2 : a < 16) (kk : V p l e R s m args below meth c nL cy D ad A kc ks Q (pc + 1) lv st (setc M k (u2 S 0 a v))) : V p l e R s m args below meth c nL cy D ad A kc ks Q pc lv (.int (i32 v) :: .int (i32 a) :: .ref (ad 2 k 0) :: st) (setc M k S) := by
  refine r_iast F d (dm1 ⟨by decide, by decide⟩ hc) (n := 16) (f := fun j => i32 (S 0 (j : Int))) (by simp only [cel, setc_at]) h1 h2 (by decide) ?_ (oth (by simp [owner, hc])) kk
  simp only [cel, setc_at]
  congr 4
  funext j
  unfold u2 upd
  by_cases hj : j = a.toNat
  · rw [if_pos hj, if_pos ⟨rfl, by omega⟩]
  · rw [if_neg hj, if_neg (fun h => hj (by have := h.2; omega))]
theorem ig_3 {own : String} (F : Fx p s m args meth c own cc nL ret cy D ad A) {a : Int} (d : decode cc pc = .ok (.iaload, 1)) (hc : k < 2) (h1 : 0 ≤ a) (h2 : a < 16) (kk : V p l e R s m args below meth c nL cy D ad A kc ks Q (pc + 1) lv (.int (i32 (M k 1 a)) :: st) (M)) : V p l e R s m args below meth c nL cy D ad A kc ks Q pc lv (.int (i32 a) :: .ref (ad 3 k 0) :: st) (M) := r_iald F d (dm1 ⟨by decide, by decide⟩ hc) (n := 16) (f := fun j => i32 (M k 1 (j : Int))) rfl h1 h2 (by decide) (by show i32 (M k 1 ((a.toNat : Nat) : Int)) = _; rw [Int.toNat_of_nonneg h1]) kk
theorem ia_3 {own : String} (F : Fx p s m args meth c own cc nL ret cy D ad A) {a : Int} (d : decode cc pc = .ok (.iaload, 1)) (hc : k < 2) (h1 : 0 ≤ a) (h2 : a < 16) (kk : V p l e R s m args below meth c nL cy D ad A kc ks Q (pc + 1) lv (.int (i32 (S 1 a)) :: st) (setc M k S)) : V p l e R s m args below meth c nL cy D ad A kc ks Q pc lv (.int (i32 a) :: .ref (ad 3 k 0) :: st) (setc M k S) := ig_3 F d hc h1 h2 (by rw [setc_at]; exact kk)
theorem is_3 {own : String} (F : Fx p s m args meth c own cc nL ret cy D ad A) {a v : Int} (d : decode cc pc = .ok (.iastore, 1)) (hc : k < 2) (h1 : 0 ≤ a) (h2 : a < 16) (kk : V p l e R s m args below meth c nL cy D ad A kc ks Q (pc + 1) lv st (setc M k (u2 S 1 a v))) : V p l e R s m args below meth c nL cy D ad A kc ks Q pc lv (.int (i32 v) :: .int (i32 a) :: .ref (ad 3 k 0) :: st) (setc M k S) := by
  refine r_iast F d (dm1 ⟨by decide, by decide⟩ hc) (n := 16) (f := fun j => i32 (S 1 (j : Int))) (by simp only [cel, setc_at]) h1 h2 (by decide) ?_ (oth (by simp [owner, hc])) kk
  simp only [cel, setc_at]
  congr 4
  funext j
  unfold u2 upd
  by_cases hj : j = a.toNat
  · rw [if_pos hj, if_pos ⟨rfl, by omega⟩]
  · rw [if_neg hj, if_neg (fun h => hj (by have := h.2; omega))]
theorem ig_4 {own : String} (F : Fx p s m args meth c own cc nL ret cy D ad A) {a : Int} (d : decode cc pc = .ok (.iaload, 1)) (hc : k < 2) (h1 : 0 ≤ a) (h2 : a < 8) (kk : V p l e R s m args below meth c nL cy D ad A kc ks Q (pc + 1) lv (.int (i32 (M k 2 a)) :: st) (M)) : V p l e R s m args below meth c nL cy D ad A kc ks Q pc lv (.int (i32 a) :: .ref (ad 4 k 0) :: st) (M) := r_iald F d (dm1 ⟨by decide, by decide⟩ hc) (n := 8) (f := fun j => i32 (M k 2 (j : Int))) rfl h1 h2 (by decide) (by show i32 (M k 2 ((a.toNat : Nat) : Int)) = _; rw [Int.toNat_of_nonneg h1]) kk
theorem ia_4 {own : String} (F : Fx p s m args meth c own cc nL ret cy D ad A) {a : Int} (d : decode cc pc = .ok (.iaload, 1)) (hc : k < 2) (h1 : 0 ≤ a) (h2 : a < 8) (kk : V p l e R s m args below meth c nL cy D ad A kc ks Q (pc + 1) lv (.int (i32 (S 2 a)) :: st) (setc M k S)) : V p l e R s m args below meth c nL cy D ad A kc ks Q pc lv (.int (i32 a) :: .ref (ad 4 k 0) :: st) (setc M k S) := ig_4 F d hc h1 h2 (by rw [setc_at]; exact kk)
theorem is_4 {own : String} (F : Fx p s m args meth c own cc nL ret cy D ad A) {a v : Int} (d : decode cc pc = .ok (.iastore, 1)) (hc : k < 2) (h1 : 0 ≤ a) (h2 : a < 8) (kk : V p l e R s m args below meth c nL cy D ad A kc ks Q (pc + 1) lv st (setc M k (u2 S 2 a v))) : V p l e R s m args below meth c nL cy D ad A kc ks Q pc lv (.int (i32 v) :: .int (i32 a) :: .ref (ad 4 k 0) :: st) (setc M k S) := by
  refine r_iast F d (dm1 ⟨by decide, by decide⟩ hc) (n := 8) (f := fun j => i32 (S 2 (j : Int))) (by simp only [cel, setc_at]) h1 h2 (by decide) ?_ (oth (by simp [owner, hc])) kk
  simp only [cel, setc_at]
  congr 4
  funext j
  unfold u2 upd
  by_cases hj : j = a.toNat
  · rw [if_pos hj, if_pos ⟨rfl, by omega⟩]
  · rw [if_neg hj, if_neg (fun h => hj (by have := h.2; omega))]
theorem ig_5 {own : String} (F : Fx p s m args meth c own cc nL ret cy D ad A) {a : Int} (d : decode cc pc = .ok (.iaload, 1)) (hc : k < 2) (h1 : 0 ≤ a) (h2 : a < 8) (kk : V p l e R s m args below meth c nL cy D ad A kc ks Q (pc + 1) lv (.int (i32 (M k 3 a)) :: st) (M)) : V p l e R s m args below meth c nL cy D ad A kc ks Q pc lv (.int (i32 a) :: .ref (ad 5 k 0) :: st) (M) := r_iald F d (dm1 ⟨by decide, by decide⟩ hc) (n := 8) (f := fun j => i32 (M k 3 (j : Int))) rfl h1 h2 (by decide) (by show i32 (M k 3 ((a.toNat : Nat) : Int)) = _; rw [Int.toNat_of_nonneg h1]) kk
theorem ia_5 {own : String} (F : Fx p s m args meth c own cc nL ret cy D ad A) {a : Int} (d : decode cc pc = .ok (.iaload, 1)) (hc : k < 2) (h1 : 0 ≤ a) (h2 : a < 8) (kk : V p l e R s m args below meth c nL cy D ad A kc ks Q (pc + 1) lv (.int (i32 (S 3 a)) :: st) (setc M k S)) : V p l e R s m args below meth c nL cy D ad A kc ks Q pc lv (.int (i32 a) :: .ref (ad 5 k 0) :: st) (setc M k S) := ig_5 F d hc h1 h2 (by rw [setc_at]; exact kk)
theorem is_5 {own : String} (F : Fx p s m args meth c own cc nL ret cy D ad A) {a v : Int} (d : decode cc pc = .ok (.iastore, 1)) (hc : k < 2) (h1 : 0 ≤ a) (h2 : a < 8) (kk : V p l e R s m args below meth c nL cy D ad A kc ks Q (pc + 1) lv st (setc M k (u2 S 3 a v))) : V p l e R s m args below meth c nL cy D ad A kc ks Q pc lv (.int (i32 v) :: .int (i32 a) :: .ref (ad 5 k 0) :: st) (setc M k S) := by
  refine r_iast F d (dm1 ⟨by decide, by decide⟩ hc) (n := 8) (f := fun j => i32 (S 3 (j : Int))) (by simp only [cel, setc_at]) h1 h2 (by decide) ?_ (oth (by simp [owner, hc])) kk
  simp only [cel, setc_at]
  congr 4
  funext j
  unfold u2 upd
  by_cases hj : j = a.toNat
  · rw [if_pos hj, if_pos ⟨rfl, by omega⟩]
  · rw [if_neg hj, if_neg (fun h => hj (by have := h.2; omega))]
theorem ig_10 {own : String} (F : Fx p s m args meth c own cc nL ret cy D ad A) {a : Int} (d : decode cc pc = .ok (.iaload, 1)) (hc : k < 2) (h3 : 0 ≤ i) (h4 : i < 5) (h1 : 0 ≤ a) (h2 : a < 10) (kk : V p l e R s m args below meth c nL cy D ad A kc ks Q (pc + 1) lv (.int (i32 (M k 5 (10 * i + a))) :: st) (M)) : V p l e R s m args below meth c nL cy D ad A kc ks Q pc lv (.int (i32 a) :: .ref (ad 10 k i) :: st) (M) := r_iald F d (dm10 hc h3 h4) (n := 10) (f := fun j => if j < 10 then i32 (M k 5 (10 * i + (j : Int))) else 0) rfl h1 h2 (by decide) (by rw [if_pos (by omega), Int.toNat_of_nonneg h1]) kk
theorem ia_10 {own : String} (F : Fx p s m args meth c own cc nL ret cy D ad A) {a : Int} (d : decode cc pc = .ok (.iaload, 1)) (hc : k < 2) (h3 : 0 ≤ i) (h4 : i < 5) (h1 : 0 ≤ a) (h2 : a < 10) (kk : V p l e R s m args below meth c nL cy D ad A kc ks Q (pc + 1) lv (.int (i32 (S 5 (10 * i + a))) :: st) (setc M k S)) : V p l e R s m args below meth c nL cy D ad A kc ks Q pc lv (.int (i32 a) :: .ref (ad 10 k i) :: st) (setc M k S) := ig_10 F d hc h3 h4 h1 h2 (by rw [setc_at]; exact kk)
theorem is_10 {own : String} (F : Fx p s m args meth c own cc nL ret cy D ad A) {a v : Int} (d : decode cc pc = .ok (.iastore, 1)) (hc : k < 2) (h3 : 0 ≤ i) (h4 : i < 5) (h1 : 0 ≤ a) (h2 : a < 10) (kk : V p l e R s m args below meth c nL cy D ad A kc ks Q (pc + 1) lv st (setc M k (u2 S 5 (10 * i + a) v))) : V p l e R s m args below meth c nL cy D ad A kc ks Q pc lv (.int (i32 v) :: .int (i32 a) :: .ref (ad 10 k i) :: st) (setc M k S) := by
  refine r_iast F d (dm10 hc h3 h4) (n := 10) (f := fun j => if j < 10 then i32 (S 5 (10 * i + (j : Int))) else 0) (by simp only [cel, setc_at]) h1 h2 (by decide) ?_ (oth (by simp [owner, hc]; omega)) kk
  simp only [cel, setc_at]
  congr 4
  funext j
  unfold u2 upd
  by_cases hj : j = a.toNat
  · rw [if_pos hj, if_pos (by omega), if_pos ⟨rfl, by omega⟩]
  · rw [if_neg hj]
    dsimp only
    by_cases h9 : j < 10
    · rw [if_pos h9, if_pos h9, if_neg (fun h => hj (by have := h.2; omega))]
    · rw [if_neg h9, if_neg h9]
theorem aa_6 {own : String} (F : Fx p s m args meth c own cc nL ret cy D ad A) {a : Int} (d : decode cc pc = .ok (.aaload, 1)) (hc : k < 2) (h1 : 0 ≤ a) (h2 : a < 5) (kk : V p l e R s m args below meth c nL cy D ad A kc ks Q (pc + 1) lv (.ref (ad 9 k a) :: st) (M)) : V p l e R s m args below meth c nL cy D ad A kc ks Q pc lv (.int (i32 a) :: .ref (ad 6 k 0) :: st) (M) := r_aald F d (dm1 ⟨by decide, by decide⟩ hc) (n := 5) (tq := 2) (f := fun j => some (ad 9 k (j : Int))) rfl rfl h1 h2 (by decide) (by show some (ad 9 k ((a.toNat : Nat) : Int)) = _; rw [Int.toNat_of_nonneg h1]) kk
theorem aa_7 {own : String} (F : Fx p s m args meth c own cc nL ret cy D ad A) {a : Int} (d : decode cc pc = .ok (.aaload, 1)) (hc : k < 2) (h1 : 0 ≤ a) (h2 : a < 4) (kk : V p l e R s m args below meth c nL cy D ad A kc ks Q (pc + 1) lv (.ref (ad 11 k a) :: st) (M)) : V p l e R s m args below meth c nL cy D ad A kc ks Q pc lv (.int (i32 a) :: .ref (ad 7 k 0) :: st) (M) := r_aald F d (dm1 ⟨by decide, by decide⟩ hc) (n := 4) (tq := 3) (f := fun j => some (ad 11 k (j : Int))) rfl rfl h1 h2 (by decide) (by show some (ad 11 k ((a.toNat : Nat) : Int)) = _; rw [Int.toNat_of_nonneg h1]) kk
theorem aa_8 {own : String} (F : Fx p s m args meth c own cc nL ret cy D ad A) {a : Int} (d : decode cc pc = .ok (.aaload, 1)) (hc : k < 2) (h1 : 0 ≤ a) (h2 : a < 6) (kk : V p l e R s m args below meth c nL cy D ad A kc ks Q (pc + 1) lv (.ref (ad 12 k a) :: st) (M)) : V p l e R s m args below meth c nL cy D ad A kc ks Q pc lv (.int (i32 a) :: .ref (ad 8 k 0) :: st) (M) := r_aald F d (dm1 ⟨by decide, by decide⟩ hc) (n := 6) (tq := 4) (f := fun j => some (ad 12 k (j : Int))) rfl rfl h1 h2 (by decide) (by show some (ad 12 k ((a.toNat : Nat) : Int)) = _; rw [Int.toNat_of_nonneg h1]) kk
theorem V.kill (i : Nat) {lv1 : List (Option Value)} (hs : lv.set i none = lv1) (k9 : V p l e R s m args below meth c nL cy D ad A kc ks Q pc lv1 st M) : V p l e R s m args below meth c nL cy D ad A kc ks Q pc lv st M := V.loc (fun j v h => kill_le lv i j v (by rw [hs]; exact h)) k9
end FROWS
end
section
/-! Memories that agree where the heap has a place; whole arrays copied. -/
def lenK (k : Nat) : Int := if k < 2 then 16 else if k < 4 then 8 else if k = 4 then 5 else if k = 5 then 50 else if k = 6 then 5 else if k < 13 then 4 else 6
def rep (k : Nat) (i : Int) : Prop := k ≤ 20 ∧ 0 ≤ i ∧ i < lenK k
def agree (M M1 : Mem) : Prop := (∀ (c k : Nat) (i : Int), c < 2 → rep k i → M1 c k i = M c k i) ∧ M1 2 = M 2 ∧ M1 4 = M 4
theorem arrV_congr {cI : ClassId} {N : Nat} {f g : Nat → Value} (h : ∀ j, j < N → f j = g j) : arrV cI N f = arrV cI N g := by
  unfold arrV
  congr 1
  apply Array.ext
  · simp
  · intro j h1 h2
    simp
    exact h j (by simpa using h1)
theorem cell_congr {cA : ClassId} {N : Nat} {f g : Nat → Int32} (h : ∀ j, j < N → f j = g j) : vp_cell cA (N, .inl f) = vp_cell cA (N, .inl g) := by
  show arrV cA N (fun j => .int (f j)) = arrV cA N (fun j => .int (g j))
  exact arrV_congr (fun j hj => by rw [h j hj])

theorem at_congr_0 {cy : Nat → ClassId} {D : va_G} {ad : Nat → Nat → Int → Nat} {M M1 : Mem} {c : Nat} {i : Int} {H : Heap} (hd : dmb ad 0 c i = true) (ha : agree M M1) (h : va_at D vwCl (ad 0 c i, cel cy ad M 0 c i) H) : va_at D vwCl (ad 0 c i, cel cy ad M1 0 c i) H := by
  have e : cel cy ad M1 0 c i = cel cy ad M 0 c i := by simp only [cel]
  rw [e]; exact h
theorem at_congr_1 {cy : Nat → ClassId} {D : va_G} {ad : Nat → Nat → Int → Nat} {M M1 : Mem} {c : Nat} {i : Int} {H : Heap} (hd : dmb ad 1 c i = true) (ha : agree M M1) (h : va_at D vwCl (ad 1 c i, cel cy ad M 1 c i) H) : va_at D vwCl (ad 1 c i, cel cy ad M1 1 c i) H := by
  have hc : c < 2 := by simp [dmb] at hd; omega
  have e : cel cy ad M1 1 c i = cel cy ad M 1 c i := by
    simp only [cel]
    rw [ha.1 c 20 1 hc ⟨by decide, by decide, by simp [lenK]⟩, ha.1 c 20 2 hc ⟨by decide, by decide, by simp [lenK]⟩, ha.1 c 20 3 hc ⟨by decide, by decide, by simp [lenK]⟩, ha.1 c 20 0 hc ⟨by decide, by decide, by simp [lenK]⟩, ha.1 c 20 4 hc ⟨by decide, by decide, by simp [lenK]⟩, ha.1 c 20 5 hc ⟨by decide, by decide, by simp [lenK]⟩]
  rw [e]; exact h
theorem at_congr_2 {cy : Nat → ClassId} {D : va_G} {ad : Nat → Nat → Int → Nat} {M M1 : Mem} {c : Nat} {i : Int} {H : Heap} (hd : dmb ad 2 c i = true) (ha : agree M M1) (h : va_at D vwCl (ad 2 c i, cel cy ad M 2 c i) H) : va_at D vwCl (ad 2 c i, cel cy ad M1 2 c i) H := by
  have hc : c < 2 := by simp [dmb] at hd; omega
  show H[ad 2 c i]? = some (vp_cell (cy 0) (16, .inl (fun j => i32 (M1 c 0 (j : Int)))))
  have h1 : H[ad 2 c i]? = some (vp_cell (cy 0) (16, .inl (fun j => i32 (M c 0 (j : Int))))) := h
  rw [h1, cell_congr]
  intro j hj
  rw [ha.1 c 0 j hc ⟨by decide, by omega, by simp [lenK]; omega⟩]
theorem at_congr_3 {cy : Nat → ClassId} {D : va_G} {ad : Nat → Nat → Int → Nat} {M M1 : Mem} {c : Nat} {i : Int} {H : Heap} (hd : dmb ad 3 c i = true) (ha : agree M M1) (h : va_at D vwCl (ad 3 c i, cel cy ad M 3 c i) H) : va_at D vwCl (ad 3 c i, cel cy ad M1 3 c i) H := by
  have hc : c < 2 := by simp [dmb] at hd; omega
  show H[ad 3 c i]? = some (vp_cell (cy 0) (16, .inl (fun j => i32 (M1 c 1 (j : Int)))))
  have h1 : H[ad 3 c i]? = some (vp_cell (cy 0) (16, .inl (fun j => i32 (M c 1 (j : Int))))) := h
  rw [h1, cell_congr]
  intro j hj
  rw [ha.1 c 1 j hc ⟨by decide, by omega, by simp [lenK]; omega⟩]
theorem at_congr_4 {cy : Nat → ClassId} {D : va_G} {ad : Nat → Nat → Int → Nat} {M M1 : Mem} {c : Nat} {i : Int} {H : Heap} (hd : dmb ad 4 c i = true) (ha : agree M M1) (h : va_at D vwCl (ad 4 c i, cel cy ad M 4 c i) H) : va_at D vwCl (ad 4 c i, cel cy ad M1 4 c i) H := by
  have hc : c < 2 := by simp [dmb] at hd; omega
  show H[ad 4 c i]? = some (vp_cell (cy 0) (8, .inl (fun j => i32 (M1 c 2 (j : Int)))))
  have h1 : H[ad 4 c i]? = some (vp_cell (cy 0) (8, .inl (fun j => i32 (M c 2 (j : Int))))) := h
  rw [h1, cell_congr]
  intro j hj
  rw [ha.1 c 2 j hc ⟨by decide, by omega, by simp [lenK]; omega⟩]
theorem at_congr_5 {cy : Nat → ClassId} {D : va_G} {ad : Nat → Nat → Int → Nat} {M M1 : Mem} {c : Nat} {i : Int} {H : Heap} (hd : dmb ad 5 c i = true) (ha : agree M M1) (h : va_at D vwCl (ad 5 c i, cel cy ad M 5 c i) H) : va_at D vwCl (ad 5 c i, cel cy ad M1 5 c i) H := by
  have hc : c < 2 := by simp [dmb] at hd; omega
  show H[ad 5 c i]? = some (vp_cell (cy 0) (8, .inl (fun j => i32 (M1 c 3 (j : Int)))))
  have h1 : H[ad 5 c i]? = some (vp_cell (cy 0) (8, .inl (fun j => i32 (M c 3 (j : Int))))) := h
  rw [h1, cell_congr]
  intro j hj
  rw [ha.1 c 3 j hc ⟨by decide, by omega, by simp [lenK]; omega⟩]
theorem at_congr_6 {cy : Nat → ClassId} {D : va_G} {ad : Nat → Nat → Int → Nat} {M M1 : Mem} {c : Nat} {i : Int} {H : Heap} (hd : dmb ad 6 c i = true) (ha : agree M M1) (h : va_at D vwCl (ad 6 c i, cel cy ad M 6 c i) H) : va_at D vwCl (ad 6 c i, cel cy ad M1 6 c i) H := by
  have e : cel cy ad M1 6 c i = cel cy ad M 6 c i := by simp only [cel]
  rw [e]; exact h
theorem at_congr_7 {cy : Nat → ClassId} {D : va_G} {ad : Nat → Nat → Int → Nat} {M M1 : Mem} {c : Nat} {i : Int} {H : Heap} (hd : dmb ad 7 c i = true) (ha : agree M M1) (h : va_at D vwCl (ad 7 c i, cel cy ad M 7 c i) H) : va_at D vwCl (ad 7 c i, cel cy ad M1 7 c i) H := by
  have e : cel cy ad M1 7 c i = cel cy ad M 7 c i := by simp only [cel]
  rw [e]; exact h
theorem at_congr_8 {cy : Nat → ClassId} {D : va_G} {ad : Nat → Nat → Int → Nat} {M M1 : Mem} {c : Nat} {i : Int} {H : Heap} (hd : dmb ad 8 c i = true) (ha : agree M M1) (h : va_at D vwCl (ad 8 c i, cel cy ad M 8 c i) H) : va_at D vwCl (ad 8 c i, cel cy ad M1 8 c i) H := by
  have e : cel cy ad M1 8 c i = cel cy ad M 8 c i := by simp only [cel]
  rw [e]; exact h
theorem at_congr_9 {cy : Nat → ClassId} {D : va_G} {ad : Nat → Nat → Int → Nat} {M M1 : Mem} {c : Nat} {i : Int} {H : Heap} (hd : dmb ad 9 c i = true) (ha : agree M M1) (h : va_at D vwCl (ad 9 c i, cel cy ad M 9 c i) H) : va_at D vwCl (ad 9 c i, cel cy ad M1 9 c i) H := by
  have hc : c < 2 := by simp [dmb] at hd; omega
  have hi : 0 ≤ i ∧ i < 5 := by simp [dmb] at hd; omega
  have e : cel cy ad M1 9 c i = cel cy ad M 9 c i := by
    simp only [cel]
    rw [ha.1 c 4 i hc ⟨by decide, by omega, by simp [lenK]; omega⟩, ha.1 c 6 i hc ⟨by decide, by omega, by simp [lenK]; omega⟩]
  rw [e]; exact h
theorem at_congr_10 {cy : Nat → ClassId} {D : va_G} {ad : Nat → Nat → Int → Nat} {M M1 : Mem} {c : Nat} {i : Int} {H : Heap} (hd : dmb ad 10 c i = true) (ha : agree M M1) (h : va_at D vwCl (ad 10 c i, cel cy ad M 10 c i) H) : va_at D vwCl (ad 10 c i, cel cy ad M1 10 c i) H := by
  have hc : c < 2 := by simp [dmb] at hd; omega
  have hi : 0 ≤ i ∧ i < 5 := by simp [dmb] at hd; omega
  show H[ad 10 c i]? = some (vp_cell (cy 0) (10, .inl (fun j => if j < 10 then i32 (M1 c 5 (10 * i + (j : Int))) else 0)))
  have h1 : H[ad 10 c i]? = some (vp_cell (cy 0) (10, .inl (fun j => if j < 10 then i32 (M c 5 (10 * i + (j : Int))) else 0))) := h
  rw [h1, cell_congr]
  intro j hj
  rw [if_pos hj, if_pos hj, ha.1 c 5 (10 * i + (j : Int)) hc ⟨by decide, by omega, by simp [lenK]; omega⟩]
theorem at_congr_11 {cy : Nat → ClassId} {D : va_G} {ad : Nat → Nat → Int → Nat} {M M1 : Mem} {c : Nat} {i : Int} {H : Heap} (hd : dmb ad 11 c i = true) (ha : agree M M1) (h : va_at D vwCl (ad 11 c i, cel cy ad M 11 c i) H) : va_at D vwCl (ad 11 c i, cel cy ad M1 11 c i) H := by
  have hc : c < 2 := by simp [dmb] at hd; omega
  have hi : 0 ≤ i ∧ i < 4 := by simp [dmb] at hd; omega
  have e : cel cy ad M1 11 c i = cel cy ad M 11 c i := by
    simp only [cel]
    rw [ha.1 c 7 i hc ⟨by decide, by omega, by simp [lenK]; omega⟩, ha.1 c 8 i hc ⟨by decide, by omega, by simp [lenK]; omega⟩, ha.1 c 9 i hc ⟨by decide, by omega, by simp [lenK]; omega⟩, ha.1 c 10 i hc ⟨by decide, by omega, by simp [lenK]; omega⟩, ha.1 c 11 i hc ⟨by decide, by omega, by simp [lenK]; omega⟩, ha.1 c 12 i hc ⟨by decide, by omega, by simp [lenK]; omega⟩]
  rw [e]; exact h
theorem at_congr_12 {cy : Nat → ClassId} {D : va_G} {ad : Nat → Nat → Int → Nat} {M M1 : Mem} {c : Nat} {i : Int} {H : Heap} (hd : dmb ad 12 c i = true) (ha : agree M M1) (h : va_at D vwCl (ad 12 c i, cel cy ad M 12 c i) H) : va_at D vwCl (ad 12 c i, cel cy ad M1 12 c i) H := by
  have hc : c < 2 := by simp [dmb] at hd; omega
  have hi : 0 ≤ i ∧ i < 6 := by simp [dmb] at hd; omega
  have e : cel cy ad M1 12 c i = cel cy ad M 12 c i := by
    simp only [cel]
    rw [ha.1 c 13 i hc ⟨by decide, by omega, by simp [lenK]; omega⟩, ha.1 c 14 i hc ⟨by decide, by omega, by simp [lenK]; omega⟩, ha.1 c 15 i hc ⟨by decide, by omega, by simp [lenK]; omega⟩, ha.1 c 16 i hc ⟨by decide, by omega, by simp [lenK]; omega⟩, ha.1 c 17 i hc ⟨by decide, by omega, by simp [lenK]; omega⟩, ha.1 c 18 i hc ⟨by decide, by omega, by simp [lenK]; omega⟩, ha.1 c 19 i hc ⟨by decide, by omega, by simp [lenK]; omega⟩]
  rw [e]; exact h
theorem at_congr_13 {cy : Nat → ClassId} {D : va_G} {ad : Nat → Nat → Int → Nat} {M M1 : Mem} {c : Nat} {i : Int} {H : Heap} (hd : dmb ad 13 c i = true) (ha : agree M M1) (h : va_at D vwCl (ad 13 c i, cel cy ad M 13 c i) H) : va_at D vwCl (ad 13 c i, cel cy ad M1 13 c i) H := by
  have hc : c = 2 := by simp [dmb] at hd; omega
  subst hc
  have e0 : outF ad M1 = outF ad M := by funext j; simp only [outF, ha.2.2]
  have e : cel cy ad M1 13 2 i = cel cy ad M 13 2 i := by simp only [cel, lanV, watV, boaV, e0, ha.2.1, ha.2.2]
  rw [e]; exact h
theorem at_congr_14 {cy : Nat → ClassId} {D : va_G} {ad : Nat → Nat → Int → Nat} {M M1 : Mem} {c : Nat} {i : Int} {H : Heap} (hd : dmb ad 14 c i = true) (ha : agree M M1) (h : va_at D vwCl (ad 14 c i, cel cy ad M 14 c i) H) : va_at D vwCl (ad 14 c i, cel cy ad M1 14 c i) H := by
  have hc : c = 2 := by simp [dmb] at hd; omega
  subst hc
  have e0 : outF ad M1 = outF ad M := by funext j; simp only [outF, ha.2.2]
  have e : cel cy ad M1 14 2 i = cel cy ad M 14 2 i := by simp only [cel, lanV, watV, boaV, e0, ha.2.1, ha.2.2]
  rw [e]; exact h
theorem at_congr_15 {cy : Nat → ClassId} {D : va_G} {ad : Nat → Nat → Int → Nat} {M M1 : Mem} {c : Nat} {i : Int} {H : Heap} (hd : dmb ad 15 c i = true) (ha : agree M M1) (h : va_at D vwCl (ad 15 c i, cel cy ad M 15 c i) H) : va_at D vwCl (ad 15 c i, cel cy ad M1 15 c i) H := by
  have hc : c = 2 := by simp [dmb] at hd; omega
  subst hc
  have e0 : outF ad M1 = outF ad M := by funext j; simp only [outF, ha.2.2]
  have e : cel cy ad M1 15 2 i = cel cy ad M 15 2 i := by simp only [cel, lanV, watV, boaV, e0, ha.2.1, ha.2.2]
  rw [e]; exact h
theorem at_congr_16 {cy : Nat → ClassId} {D : va_G} {ad : Nat → Nat → Int → Nat} {M M1 : Mem} {c : Nat} {i : Int} {H : Heap} (hd : dmb ad 16 c i = true) (ha : agree M M1) (h : va_at D vwCl (ad 16 c i, cel cy ad M 16 c i) H) : va_at D vwCl (ad 16 c i, cel cy ad M1 16 c i) H := by
  have hc : c = 2 := by simp [dmb] at hd; omega
  subst hc
  have e0 : outF ad M1 = outF ad M := by funext j; simp only [outF, ha.2.2]
  have e : cel cy ad M1 16 2 i = cel cy ad M 16 2 i := by simp only [cel, lanV, watV, boaV, e0, ha.2.1, ha.2.2]
  rw [e]; exact h
theorem at_congr_17 {cy : Nat → ClassId} {D : va_G} {ad : Nat → Nat → Int → Nat} {M M1 : Mem} {c : Nat} {i : Int} {H : Heap} (hd : dmb ad 17 c i = true) (ha : agree M M1) (h : va_at D vwCl (ad 17 c i, cel cy ad M 17 c i) H) : va_at D vwCl (ad 17 c i, cel cy ad M1 17 c i) H := by
  have hc : c = 2 := by simp [dmb] at hd; omega
  subst hc
  have e0 : outF ad M1 = outF ad M := by funext j; simp only [outF, ha.2.2]
  have e : cel cy ad M1 17 2 i = cel cy ad M 17 2 i := by simp only [cel, lanV, watV, boaV, e0, ha.2.1, ha.2.2]
  rw [e]; exact h
theorem at_congr_18 {cy : Nat → ClassId} {D : va_G} {ad : Nat → Nat → Int → Nat} {M M1 : Mem} {c : Nat} {i : Int} {H : Heap} (hd : dmb ad 18 c i = true) (ha : agree M M1) (h : va_at D vwCl (ad 18 c i, cel cy ad M 18 c i) H) : va_at D vwCl (ad 18 c i, cel cy ad M1 18 c i) H := by
  have hc : c = 2 := by simp [dmb] at hd; omega
  subst hc
  have e0 : outF ad M1 = outF ad M := by funext j; simp only [outF, ha.2.2]
  have e : cel cy ad M1 18 2 i = cel cy ad M 18 2 i := by simp only [cel, lanV, watV, boaV, e0, ha.2.1, ha.2.2]
  rw [e]; exact h
theorem at_congr_19 {cy : Nat → ClassId} {D : va_G} {ad : Nat → Nat → Int → Nat} {M M1 : Mem} {c : Nat} {i : Int} {H : Heap} (hd : dmb ad 19 c i = true) (ha : agree M M1) (h : va_at D vwCl (ad 19 c i, cel cy ad M 19 c i) H) : va_at D vwCl (ad 19 c i, cel cy ad M1 19 c i) H := by
  have hc : c = 2 := by simp [dmb] at hd; omega
  subst hc
  have e0 : outF ad M1 = outF ad M := by funext j; simp only [outF, ha.2.2]
  have e : cel cy ad M1 19 2 i = cel cy ad M 19 2 i := by simp only [cel, lanV, watV, boaV, e0, ha.2.1, ha.2.2]
  rw [e]; exact h
theorem at_congr_20 {cy : Nat → ClassId} {D : va_G} {ad : Nat → Nat → Int → Nat} {M M1 : Mem} {c : Nat} {i : Int} {H : Heap} (hd : dmb ad 20 c i = true) (ha : agree M M1) (h : va_at D vwCl (ad 20 c i, cel cy ad M 20 c i) H) : va_at D vwCl (ad 20 c i, cel cy ad M1 20 c i) H := by
  have hc : c = 2 := by simp [dmb] at hd; omega
  subst hc
  have e0 : outF ad M1 = outF ad M := by funext j; simp only [outF, ha.2.2]
  have e : cel cy ad M1 20 2 i = cel cy ad M 20 2 i := by simp only [cel, lanV, watV, boaV, e0, ha.2.1, ha.2.2]
  rw [e]; exact h
theorem at_congr_21 {cy : Nat → ClassId} {D : va_G} {ad : Nat → Nat → Int → Nat} {M M1 : Mem} {c : Nat} {i : Int} {H : Heap} (hd : dmb ad 21 c i = true) (ha : agree M M1) (h : va_at D vwCl (ad 21 c i, cel cy ad M 21 c i) H) : va_at D vwCl (ad 21 c i, cel cy ad M1 21 c i) H := by
  have hc : c = 2 := by simp [dmb] at hd; omega
  subst hc
  have e0 : outF ad M1 = outF ad M := by funext j; simp only [outF, ha.2.2]
  have e : cel cy ad M1 21 2 i = cel cy ad M 21 2 i := by simp only [cel, lanV, watV, boaV, e0, ha.2.1, ha.2.2]
  rw [e]; exact h
theorem at_congr_22 {cy : Nat → ClassId} {D : va_G} {ad : Nat → Nat → Int → Nat} {M M1 : Mem} {c : Nat} {i : Int} {H : Heap} (hd : dmb ad 22 c i = true) (ha : agree M M1) (h : va_at D vwCl (ad 22 c i, cel cy ad M 22 c i) H) : va_at D vwCl (ad 22 c i, cel cy ad M1 22 c i) H := by
  have hc : c = 2 := by simp [dmb] at hd; omega
  subst hc
  have e0 : outF ad M1 = outF ad M := by funext j; simp only [outF, ha.2.2]
  have e : cel cy ad M1 22 2 i = cel cy ad M 22 2 i := by simp only [cel, lanV, watV, boaV, e0, ha.2.1, ha.2.2]
  rw [e]; exact h
theorem at_congr_23 {cy : Nat → ClassId} {D : va_G} {ad : Nat → Nat → Int → Nat} {M M1 : Mem} {c : Nat} {i : Int} {H : Heap} (hd : dmb ad 23 c i = true) (ha : agree M M1) (h : va_at D vwCl (ad 23 c i, cel cy ad M 23 c i) H) : va_at D vwCl (ad 23 c i, cel cy ad M1 23 c i) H := by
  have hc : c = 2 := by simp [dmb] at hd; omega
  subst hc
  have e0 : outF ad M1 = outF ad M := by funext j; simp only [outF, ha.2.2]
  have e : cel cy ad M1 23 2 i = cel cy ad M 23 2 i := by simp only [cel, lanV, watV, boaV, e0, ha.2.1, ha.2.2]
  rw [e]; exact h
theorem at_congr_24 {cy : Nat → ClassId} {D : va_G} {ad : Nat → Nat → Int → Nat} {M M1 : Mem} {c : Nat} {i : Int} {H : Heap} (hd : dmb ad 24 c i = true) (ha : agree M M1) (h : va_at D vwCl (ad 24 c i, cel cy ad M 24 c i) H) : va_at D vwCl (ad 24 c i, cel cy ad M1 24 c i) H := by
  have hc : c = 2 := by simp [dmb] at hd; omega
  subst hc
  have e0 : outF ad M1 = outF ad M := by funext j; simp only [outF, ha.2.2]
  have e : cel cy ad M1 24 2 i = cel cy ad M 24 2 i := by simp only [cel, lanV, watV, boaV, e0, ha.2.1, ha.2.2]
  rw [e]; exact h
theorem at_congr_25 {cy : Nat → ClassId} {D : va_G} {ad : Nat → Nat → Int → Nat} {M M1 : Mem} {c : Nat} {i : Int} {H : Heap} (hd : dmb ad 25 c i = true) (ha : agree M M1) (h : va_at D vwCl (ad 25 c i, cel cy ad M 25 c i) H) : va_at D vwCl (ad 25 c i, cel cy ad M1 25 c i) H := by
  have hc : c = 2 := by simp [dmb] at hd; omega
  subst hc
  have e0 : outF ad M1 = outF ad M := by funext j; simp only [outF, ha.2.2]
  have e : cel cy ad M1 25 2 i = cel cy ad M 25 2 i := by simp only [cel, lanV, watV, boaV, e0, ha.2.1, ha.2.2]
  rw [e]; exact h
theorem at_congr_26 {cy : Nat → ClassId} {D : va_G} {ad : Nat → Nat → Int → Nat} {M M1 : Mem} {c : Nat} {i : Int} {H : Heap} (hd : dmb ad 26 c i = true) (ha : agree M M1) (h : va_at D vwCl (ad 26 c i, cel cy ad M 26 c i) H) : va_at D vwCl (ad 26 c i, cel cy ad M1 26 c i) H := by
  have hc : c = 2 := by simp [dmb] at hd; omega
  subst hc
  have e0 : outF ad M1 = outF ad M := by funext j; simp only [outF, ha.2.2]
  have e : cel cy ad M1 26 2 i = cel cy ad M 26 2 i := by simp only [cel, lanV, watV, boaV, e0, ha.2.1, ha.2.2]
  rw [e]; exact h
theorem at_congr_27 {cy : Nat → ClassId} {D : va_G} {ad : Nat → Nat → Int → Nat} {M M1 : Mem} {c : Nat} {i : Int} {H : Heap} (hd : dmb ad 27 c i = true) (ha : agree M M1) (h : va_at D vwCl (ad 27 c i, cel cy ad M 27 c i) H) : va_at D vwCl (ad 27 c i, cel cy ad M1 27 c i) H := by
  have hc : c = 2 := by simp [dmb] at hd; omega
  subst hc
  have e0 : outF ad M1 = outF ad M := by funext j; simp only [outF, ha.2.2]
  have e : cel cy ad M1 27 2 i = cel cy ad M 27 2 i := by simp only [cel, lanV, watV, boaV, e0, ha.2.1, ha.2.2]
  rw [e]; exact h
theorem at_congr_28 {cy : Nat → ClassId} {D : va_G} {ad : Nat → Nat → Int → Nat} {M M1 : Mem} {c : Nat} {i : Int} {H : Heap} (hd : dmb ad 28 c i = true) (ha : agree M M1) (h : va_at D vwCl (ad 28 c i, cel cy ad M 28 c i) H) : va_at D vwCl (ad 28 c i, cel cy ad M1 28 c i) H := by
  have hc : c = 2 := by simp [dmb] at hd; omega
  subst hc
  have e0 : outF ad M1 = outF ad M := by funext j; simp only [outF, ha.2.2]
  have e : cel cy ad M1 28 2 i = cel cy ad M 28 2 i := by simp only [cel, lanV, watV, boaV, e0, ha.2.1, ha.2.2]
  rw [e]; exact h
theorem at_congr_29 {cy : Nat → ClassId} {D : va_G} {ad : Nat → Nat → Int → Nat} {M M1 : Mem} {c : Nat} {i : Int} {H : Heap} (hd : dmb ad 29 c i = true) (ha : agree M M1) (h : va_at D vwCl (ad 29 c i, cel cy ad M 29 c i) H) : va_at D vwCl (ad 29 c i, cel cy ad M1 29 c i) H := by
  have hc : c = 2 := by simp [dmb] at hd; omega
  subst hc
  have e0 : outF ad M1 = outF ad M := by funext j; simp only [outF, ha.2.2]
  have e : cel cy ad M1 29 2 i = cel cy ad M 29 2 i := by simp only [cel, lanV, watV, boaV, e0, ha.2.1, ha.2.2]
  rw [e]; exact h
theorem at_congr_30 {cy : Nat → ClassId} {D : va_G} {ad : Nat → Nat → Int → Nat} {M M1 : Mem} {c : Nat} {i : Int} {H : Heap} (hd : dmb ad 30 c i = true) (ha : agree M M1) (h : va_at D vwCl (ad 30 c i, cel cy ad M 30 c i) H) : va_at D vwCl (ad 30 c i, cel cy ad M1 30 c i) H := by
  have hc : c = 2 := by simp [dmb] at hd; omega
  subst hc
  have e0 : outF ad M1 = outF ad M := by funext j; simp only [outF, ha.2.2]
  have e : cel cy ad M1 30 2 i = cel cy ad M 30 2 i := by simp only [cel, lanV, watV, boaV, e0, ha.2.1, ha.2.2]
  rw [e]; exact h
theorem at_congr_31 {cy : Nat → ClassId} {D : va_G} {ad : Nat → Nat → Int → Nat} {M M1 : Mem} {c : Nat} {i : Int} {H : Heap} (hd : dmb ad 31 c i = true) (ha : agree M M1) (h : va_at D vwCl (ad 31 c i, cel cy ad M 31 c i) H) : va_at D vwCl (ad 31 c i, cel cy ad M1 31 c i) H := by
  have hc : c = 2 := by simp [dmb] at hd; omega
  subst hc
  have e0 : outF ad M1 = outF ad M := by funext j; simp only [outF, ha.2.2]
  have e : cel cy ad M1 31 2 i = cel cy ad M 31 2 i := by simp only [cel, lanV, watV, boaV, e0, ha.2.1, ha.2.2]
  rw [e]; exact h
theorem at_congr_32 {cy : Nat → ClassId} {D : va_G} {ad : Nat → Nat → Int → Nat} {M M1 : Mem} {c : Nat} {i : Int} {H : Heap} (hd : dmb ad 32 c i = true) (ha : agree M M1) (h : va_at D vwCl (ad 32 c i, cel cy ad M 32 c i) H) : va_at D vwCl (ad 32 c i, cel cy ad M1 32 c i) H := by
  have hc : c = 2 := by simp [dmb] at hd; omega
  subst hc
  have e0 : outF ad M1 = outF ad M := by funext j; simp only [outF, ha.2.2]
  have e : cel cy ad M1 32 2 i = cel cy ad M 32 2 i := by simp only [cel, lanV, watV, boaV, e0, ha.2.1, ha.2.2]
  rw [e]; exact h
theorem at_congr {cy : Nat → ClassId} {D : va_G} {ad : Nat → Nat → Int → Nat} {M M1 : Mem} {t c : Nat} {i : Int} {H : Heap} (hd : dmb ad t c i = true) (ha : agree M M1) (h : va_at D vwCl (ad t c i, cel cy ad M t c i) H) : va_at D vwCl (ad t c i, cel cy ad M1 t c i) H := by
  have ht := (dm_bd hd).1
  have : t = 0 ∨ t = 1 ∨ t = 2 ∨ t = 3 ∨ t = 4 ∨ t = 5 ∨ t = 6 ∨ t = 7 ∨ t = 8 ∨ t = 9 ∨ t = 10 ∨ t = 11 ∨ t = 12 ∨ t = 13 ∨ t = 14 ∨ t = 15 ∨ t = 16 ∨ t = 17 ∨ t = 18 ∨ t = 19 ∨ t = 20 ∨ t = 21 ∨ t = 22 ∨ t = 23 ∨ t = 24 ∨ t = 25 ∨ t = 26 ∨ t = 27 ∨ t = 28 ∨ t = 29 ∨ t = 30 ∨ t = 31 ∨ t = 32 := by omega
  rcases this with rfl | rfl | rfl | rfl | rfl | rfl | rfl | rfl | rfl | rfl | rfl | rfl | rfl | rfl | rfl | rfl | rfl | rfl | rfl | rfl | rfl | rfl | rfl | rfl | rfl | rfl | rfl | rfl | rfl | rfl | rfl | rfl | rfl
  · exact at_congr_0 hd ha h
  · exact at_congr_1 hd ha h
  · exact at_congr_2 hd ha h
  · exact at_congr_3 hd ha h
  · exact at_congr_4 hd ha h
  · exact at_congr_5 hd ha h
  · exact at_congr_6 hd ha h
  · exact at_congr_7 hd ha h
  · exact at_congr_8 hd ha h
  · exact at_congr_9 hd ha h
  · exact at_congr_10 hd ha h
  · exact at_congr_11 hd ha h
  · exact at_congr_12 hd ha h
  · exact at_congr_13 hd ha h
  · exact at_congr_14 hd ha h
  · exact at_congr_15 hd ha h
  · exact at_congr_16 hd ha h
  · exact at_congr_17 hd ha h
  · exact at_congr_18 hd ha h
  · exact at_congr_19 hd ha h
  · exact at_congr_20 hd ha h
  · exact at_congr_21 hd ha h
  · exact at_congr_22 hd ha h
  · exact at_congr_23 hd ha h
  · exact at_congr_24 hd ha h
  · exact at_congr_25 hd ha h
  · exact at_congr_26 hd ha h
  · exact at_congr_27 hd ha h
  · exact at_congr_28 hd ha h
  · exact at_congr_29 hd ha h
  · exact at_congr_30 hd ha h
  · exact at_congr_31 hd ha h
  · exact at_congr_32 hd ha h
theorem world_congr {cy : Nat → ClassId} {D : va_G} {ad : Nat → Nat → Int → Nat} {M M1 : Mem} {H : Heap} (ha : agree M M1) (h : va_P D vwCl (wsOf cy ad M) H) : va_P D vwCl (wsOf cy ad M1) H := by
  intro k q hk
  unfold wsOf at hk
  rw [List.getElem?_map] at hk
  cases hb : (keys ad)[k]? with
  | none => rw [hb] at hk; cases hk
  | some b =>
    rw [hb] at hk
    obtain ⟨t, c, i⟩ := b
    cases hk
    have h2 := h k (ad t c i, cel cy ad M t c i) (by unfold wsOf; rw [List.getElem?_map, hb]; rfl)
    exact at_congr (of_keys (List.mem_of_getElem? hb)) ha h2
section COPY
variable {p : Program} {l : Launch} {e : Env} {R : Room} {s : State} {m : MethodId} {args : Array Value} {below : List Frame} {meth : Method} {c : Code} {nL : Nat} {cy : Nat → ClassId} {D : va_G} {ad : Nat → Nat → Int → Nat} {A : Nat → Prop} {kc ks : Nat} {Q : State → Prop} {pc : Nat} {lv : List (Option Value)} {st : List Value} {M : Mem} {cc : ByteArray} {ret : Option FieldType} {own : String}
theorem V.agree {M1 : Mem} (h : agree M M1) (k : V p l e R s m args below meth c nL cy D ad A kc ks Q pc lv st M1) : V p l e R s m args below meth c nL cy D ad A kc ks Q pc lv st M := fun H locs ls hP hS hl => k H locs ls (world_congr h hP) hS hl
theorem r_copy (F : Fx p s m args meth c own cc nL ret cy D ad A) {t c1 t2 c2 n index : Nat} {i i2 z : Int} {f g : Nat → Int32} {M1 : Mem} (d : decode cc pc = .ok (.invokestatic index, 3)) (l1 : Cond.methodLink own index arraycopyName ∈ TB) (l2 : Cond.native arraycopyName ∈ TB) (l3 : Cond.static arraycopyName ∈ TB) (l4 : Cond.initialized "java/lang/System" ∈ TB)
    (hk : dmb ad t c1 i = true) (hk2 : dmb ad t2 c2 i2 = true) (hcel : cel cy ad M t c1 i = .inl (cy 0, n, .inl f)) (hcel2 : cel cy ad M t2 c2 i2 = .inl (cy 0, n, .inl g)) (hn : n < 2147483648) (hz : z = (n : Int))
    (hcel1 : cel cy ad M1 t2 c2 i2 = .inl (cy 0, n, .inl (va_cpy f g 0 0 n))) (hoth : ∀ (c1 k1 : Nat) (i1 : Int), owner c1 k1 i1 ≠ (t2, c2, i2) → M1 c1 k1 i1 = M c1 k1 i1) (hfr : 1 ≤ R.frames) (hlo : (st.map fun v => v.category).sum + (nativeFrameWords "java/lang/System" "arraycopy" 5 + 11) ≤ R.locals)
    (kk : V p l e R s m args below meth c nL cy D ad A kc ks Q (pc + 3) lv st M1) : V p l e R s m args below meth c nL cy D ad A kc ks Q pc lv (.int (i32 z) :: .int (i32 0) :: .ref (ad t2 c2 i2) :: .int (i32 0) :: .ref (ad t c1 i) :: st) M := by
  obtain ⟨hx, hb, hml, hown, hr, hlk, hts, hK, hI, hA1, hA2⟩ := F
  subst hz
  intro H locs ls hP hS hl
  obtain ⟨q0, hq, hw⟩ := ws_at (cy := cy) (ad := ad) M hk
  obtain ⟨q1, hq1, hw1⟩ := ws_at (cy := cy) (ad := ad) M hk2
  have e0 : (i32 0).toNatClampNeg = 0 := by decide
  have en : (i32 (n : Int)).toNatClampNeg = n := by rw [i32_cl (by omega) (by omega)]; omega
  have h0 : ¬ (i32 0 < 0) := by decide
  have hn0 : ¬ (i32 (n : Int) < 0) := fun h => by have := (i32_lt0 ⟨by omega, by omega⟩).mp h; omega
  refine va_copyi hx hb (hml.trans hl.1.symm) hown (hts _ l1) (hts _ l2) (hts _ l3) (hts _ l4) hK.1 hP (wsD hI hA1 M) hS q0 q1 0 0 (by rw [hw, hcel]) (by rw [hw1, hcel2]) rfl rfl rfl h0 h0 hn0 (by rw [e0, en]; omega) (by rw [e0, en]; omega) (fun _ _ => rfl) hfr hlo d (fun H1 locs1 hP1 hD1 hS1 => ?_)
  rw [e0, en, ws_set hq1 hcel1 hoth] at hP1
  exact kk H1 locs1 ls hP1 hS1 hl
end COPY
/-- a stretch of a kind, copied -/
def cpK (S : St) (kd : Nat) (lo n : Int) (src : Int → Int) : St := fun k i => if k = kd ∧ lo ≤ i ∧ i < lo + n then src i else S k i
theorem cpK_oth {M0 : Mem} {cc1 : Nat} {S : St} {kd t c2 : Nat} {i2 lo n : Int} {src : Int → Int} (ho : ∀ i, lo ≤ i → i < lo + n → owner cc1 kd i = (t, c2, i2)) : ∀ (c1 k1 : Nat) (i1 : Int), owner c1 k1 i1 ≠ (t, c2, i2) → setc M0 cc1 (cpK S kd lo n src) c1 k1 i1 = setc M0 cc1 S c1 k1 i1 := by
  intro c1 k1 i1 h
  unfold setc
  by_cases h1 : c1 = cc1
  · rw [if_pos h1, if_pos h1]
    unfold cpK
    rw [if_neg]
    rintro ⟨rfl, h2, h3⟩
    exact h (by rw [h1, ho i1 h2 h3])
  · rw [if_neg h1, if_neg h1]
theorem cpK_fun {S : St} {kd n : Nat} {src : Int → Int} : (fun j : Nat => i32 (cpK S kd 0 n src kd (j : Int))) = va_cpy (fun j : Nat => i32 (src (j : Int))) (fun j : Nat => i32 (S kd (j : Int))) 0 0 n := by
  funext j
  unfold cpK va_cpy
  by_cases h : j < n
  · rw [if_pos ⟨rfl, by omega, by omega⟩, if_pos ⟨by omega, by omega⟩]
    simp
  · rw [if_neg (fun h2 => h (by omega)), if_neg (fun h2 => h (by omega))]
theorem ac_n : Cond.native arraycopyName ∈ TB := tb_of 460 (by decide +kernel) (by decide +kernel)
theorem ac_s : Cond.static arraycopyName ∈ TB := tb_of 459 (by decide +kernel) (by decide +kernel)
theorem ac_i : Cond.initialized "java/lang/System" ∈ TB := tb_of 22 (by decide +kernel) (by decide +kernel)
theorem ac_X1_45 : Cond.methodLink RX1 45 arraycopyName ∈ TB := tb_of 458 (by decide +kernel) (by decide +kernel)
theorem ac_X2_15 : Cond.methodLink RX2 15 arraycopyName ∈ TB := tb_of 465 (by decide +kernel) (by decide +kernel)
end
section
/-! Cells that come and go: new arrays under the walk, and contracts of methods that make cells. -/
theorem ws_to {cy : Nat → ClassId} {D : va_G} {ad : Nat → Nat → Int → Nat} {M : Mem} {H : Heap} (hP : va_P D vwCl (wsOf cy ad M) H) {t c : Nat} {i : Int} (h : dmb ad t c i = true) : va_at D vwCl (ad t c i, cel cy ad M t c i) H := by
  obtain ⟨q0, -, hq⟩ := ws_at (cy := cy) (ad := ad) M h
  exact hP q0 _ hq
theorem ws_key {cy : Nat → ClassId} {ad : Nat → Nat → Int → Nat} {M : Mem} {k : Nat} {q : Nat × va_E} (h : (wsOf cy ad M)[k]? = some q) : ∃ t c i, dmb ad t c i = true ∧ q = (ad t c i, cel cy ad M t c i) := by
  unfold wsOf at h
  rw [List.getElem?_map] at h
  cases hk : (keys ad)[k]? with
  | none => rw [hk] at h; cases h
  | some b =>
    rw [hk] at h
    obtain ⟨t, c, i⟩ := b
    cases h
    exact ⟨t, c, i, of_keys (List.mem_of_getElem? hk), rfl⟩
theorem ws_of {cy : Nat → ClassId} {D : va_G} {ad : Nat → Nat → Int → Nat} {M : Mem} {H : Heap} (h : ∀ (t c : Nat) (i : Int), dmb ad t c i = true → va_at D vwCl (ad t c i, cel cy ad M t c i) H) : va_P D vwCl (wsOf cy ad M) H := by
  intro k q hk
  obtain ⟨t, c, i, h1, rfl⟩ := ws_key hk
  exact h t c i h1
/-- a world within another -/
def Less (cy : Nat → ClassId) (ad : Nat → Nat → Int → Nat) (M : Mem) (ad' : Nat → Nat → Int → Nat) (M' : Mem) : Prop := ∀ (t c : Nat) (i : Int), dmb ad t c i = true → dmb ad' t c i = true ∧ ad' t c i = ad t c i ∧ cel cy ad' M' t c i = cel cy ad M t c i
theorem ws_less {cy : Nat → ClassId} {D : va_G} {ad ad' : Nat → Nat → Int → Nat} {M M' : Mem} {H : Heap} (h : Less cy ad M ad' M') (hP : va_P D vwCl (wsOf cy ad' M') H) : va_P D vwCl (wsOf cy ad M) H := ws_of fun t c i hd => by
  obtain ⟨h1, h2, h3⟩ := h t c i hd
  rw [← h2, ← h3]
  exact ws_to hP h1
/-- one cell of kind t more (24 to 31: an array of n whole numbers) -/
def Ext (ad ad' : Nat → Nat → Int → Nat) (t n : Nat) : Prop := ad' 40 t 0 = 1 ∧ ad' 41 t 0 = n ∧ ∀ (t' c : Nat) (i : Int), ¬ (t' = t ∧ c = 2 ∧ i = 0) → ¬ (t' = 40 ∧ c = t ∧ i = 0) → ¬ (t' = 41 ∧ c = t ∧ i = 0) → ad' t' c i = ad t' c i
def adn (ad : Nat → Nat → Int → Nat) (t q n : Nat) : Nat → Nat → Int → Nat := fun t' c i => if t' = t ∧ c = 2 ∧ i = 0 then q else if t' = 40 ∧ c = t ∧ i = 0 then 1 else if t' = 41 ∧ c = t ∧ i = 0 then n else ad t' c i
theorem adn_at (ad : Nat → Nat → Int → Nat) (t q n : Nat) : adn ad t q n t 2 0 = q := if_pos ⟨rfl, rfl, rfl⟩
theorem adn_ext {ad : Nat → Nat → Int → Nat} {t q n : Nat} (ht : t < 40) : Ext ad (adn ad t q n) t n := by
  refine ⟨?_, ?_, fun t' c i h1 h2 h3 => ?_⟩
  · unfold adn; rw [if_neg (by omega), if_pos ⟨rfl, rfl, rfl⟩]
  · unfold adn; rw [if_neg (by omega), if_neg (by omega), if_pos ⟨rfl, rfl, rfl⟩]
  · unfold adn; rw [if_neg h1, if_neg h2, if_neg h3]
theorem Ext.lo {ad ad' : Nat → Nat → Int → Nat} {t n : Nat} (h : Ext ad ad' t n) (ht : 24 ≤ t ∧ t < 33) {t' c : Nat} {i : Int} (h1 : t' < 24) : ad' t' c i = ad t' c i := h.2.2 t' c i (by omega) (by omega) (by omega)
theorem Ext.fl {ad ad' : Nat → Nat → Int → Nat} {t n : Nat} (h : Ext ad ad' t n) (ht : 24 ≤ t ∧ t < 33) {t' c : Nat} (h1 : t' = 40 ∨ t' = 41) (h2 : c ≠ t) {i : Int} : ad' t' c i = ad t' c i := h.2.2 t' c i (by omega) (by omega) (by omega)
theorem Ext.hi {ad ad' : Nat → Nat → Int → Nat} {t n : Nat} (h : Ext ad ad' t n) (ht : 24 ≤ t ∧ t < 33) {t' c : Nat} {i : Int} (h1 : t' ≠ t) (h2 : t' < 40) : ad' t' c i = ad t' c i := h.2.2 t' c i (by omega) (by omega) (by omega)
theorem Ext.dm {ad ad' : Nat → Nat → Int → Nat} {t n : Nat} (h : Ext ad ad' t n) (ht : 24 ≤ t ∧ t < 33) {t' c : Nat} {i : Int} (hne : t' ≠ t) : dmb ad' t' c i = dmb ad t' c i := by
  have e0 := h.fl ht (t' := 40) (c := 13) (Or.inl rfl) (by omega) (i := 0)
  have e1 := h.fl ht (t' := 41) (c := 18) (Or.inr rfl) (by omega) (i := 0)
  have e2 := h.fl ht (t' := 41) (c := 19) (Or.inr rfl) (by omega) (i := 0)
  have e3 := h.fl ht (t' := 41) (c := 20) (Or.inr rfl) (by omega) (i := 0)
  have e4 := h.fl ht (t' := 40) (c := t') (Or.inl rfl) hne (i := 0)
  unfold dmb
  split <;> simp only [e0, e1, e2, e3, e4]
theorem Ext.dt {ad ad' : Nat → Nat → Int → Nat} {t n : Nat} (h : Ext ad ad' t n) (ht : 24 ≤ t ∧ t < 33) {c : Nat} {i : Int} : dmb ad' t c i = (c == 2 && i == 0) := by
  have e := h.1
  have : t = 24 ∨ t = 25 ∨ t = 26 ∨ t = 27 ∨ t = 28 ∨ t = 29 ∨ t = 30 ∨ t = 31 ∨ t = 32 := by omega
  rcases this with rfl | rfl | rfl | rfl | rfl | rfl | rfl | rfl | rfl <;> simp [dmb, e]
/-- what stands in cells of the kinds below 24 (and, apart from t, of those below 32) -/
theorem Ext.cl {cy : Nat → ClassId} {ad ad' : Nat → Nat → Int → Nat} {t n : Nat} (h : Ext ad ad' t n) (ht : 24 ≤ t ∧ t < 33) {M M' : Mem} {t' c : Nat} {i : Int} (hd : dmb ad t' c i = true) (hne : t' ≠ t) (h32 : t' < 32)
    (hM : ∀ (c1 k1 : Nat) (i1 : Int), owner c1 k1 i1 ≠ (t, 2, 0) → M' c1 k1 i1 = M c1 k1 i1) : cel cy ad' M' t' c i = cel cy ad M t' c i := by
  rw [cel_indep (cy := cy) (ad := ad') (M := M) (M1 := M') (by rw [h.dm ht hne]; exact hd) (fun c1 k1 i1 ho => hM c1 k1 i1 (fun z => hne (congrArg Prod.fst (ho.symm.trans z))))]
  have e1 := h.fl ht (t' := 41) (c := 18) (Or.inr rfl) (by omega) (i := 0)
  have e2 := h.fl ht (t' := 41) (c := 19) (Or.inr rfl) (by omega) (i := 0)
  have e3 := h.fl ht (t' := 41) (c := 20) (Or.inr rfl) (by omega) (i := 0)
  have e4 := h.fl ht (t' := 41) (c := t') (Or.inr rfl) hne (i := 0)
  have lo : ∀ {a : Nat} {c1 : Nat} {i1 : Int}, a < 24 → ad' a c1 i1 = ad a c1 i1 := fun h9 => h.lo ht h9
  have hb : t' < 32 := h32
  have : t' = 0 ∨ t' = 1 ∨ t' = 2 ∨ t' = 3 ∨ t' = 4 ∨ t' = 5 ∨ t' = 6 ∨ t' = 7 ∨ t' = 8 ∨ t' = 9 ∨ t' = 10 ∨ t' = 11 ∨ t' = 12 ∨ t' = 13 ∨ t' = 14 ∨ t' = 15 ∨ t' = 16 ∨ t' = 17 ∨ t' = 18 ∨ t' = 19 ∨ t' = 20 ∨ t' = 21 ∨ t' = 22 ∨ t' = 23 ∨ t' = 24 ∨ t' = 25 ∨ t' = 26 ∨ t' = 27 ∨ t' = 28 ∨ t' = 29 ∨ t' = 30 ∨ t' = 31 := by omega
  rcases this with rfl | rfl | rfl | rfl | rfl | rfl | rfl | rfl | rfl | rfl | rfl | rfl | rfl | rfl | rfl | rfl | rfl | rfl | rfl | rfl | rfl | rfl | rfl | rfl | rfl | rfl | rfl | rfl | rfl | rfl | rfl | rfl
  · simp only [cel, lo (show 1 < 24 by decide)]
  · simp only [cel, lo (show 2 < 24 by decide), lo (show 3 < 24 by decide), lo (show 4 < 24 by decide), lo (show 5 < 24 by decide), lo (show 6 < 24 by decide), lo (show 7 < 24 by decide), lo (show 8 < 24 by decide)]
  · rfl
  · rfl
  · rfl
  · rfl
  · simp only [cel, lo (show 9 < 24 by decide)]
  · simp only [cel, lo (show 11 < 24 by decide)]
  · simp only [cel, lo (show 12 < 24 by decide)]
  · simp only [cel, lo (show 10 < 24 by decide)]
  · rfl
  · rfl
  · rfl
  · simp only [cel, lo (show 14 < 24 by decide), lo (show 15 < 24 by decide), lo (show 16 < 24 by decide), lo (show 17 < 24 by decide), lo (show 18 < 24 by decide), lo (show 19 < 24 by decide), lo (show 20 < 24 by decide)]
  · rfl
  · rfl
  · rfl
  · rfl
  · simp only [cel, e1, lo (show 21 < 24 by decide)]
  · simp only [cel, e2, lo (show 22 < 24 by decide)]
  · simp only [cel, e3, lo (show 23 < 24 by decide)]
  · rfl
  · rfl
  · rfl
  all_goals simp only [cel, e4]
/-- an array of the law's own forgotten -/
theorem Ext.less {cy : Nat → ClassId} {ad ad' : Nat → Nat → Int → Nat} {t n : Nat} (h : Ext ad ad' t n) (ht : 24 ≤ t ∧ t < 33) (h0 : ad 40 t 0 ≠ 1) (h32 : ad 40 32 0 ≠ 1) {M M' : Mem} (hM : ∀ (c1 k1 : Nat) (i1 : Int), owner c1 k1 i1 ≠ (t, 2, 0) → M' c1 k1 i1 = M c1 k1 i1) : Less cy ad M ad' M' := by
  intro t' c i hd
  have hb := (dm_bd hd).1
  have hne : t' ≠ t := by
    rintro rfl
    have : t' = 24 ∨ t' = 25 ∨ t' = 26 ∨ t' = 27 ∨ t' = 28 ∨ t' = 29 ∨ t' = 30 ∨ t' = 31 ∨ t' = 32 := by omega
    rcases this with rfl | rfl | rfl | rfl | rfl | rfl | rfl | rfl | rfl <;> (simp [dmb] at hd; exact h0 hd.2)
  have hne2 : t' ≠ 32 := by
    rintro rfl
    simp [dmb] at hd
    exact h32 hd.2
  exact ⟨by rw [h.dm ht hne]; exact hd, h.hi ht hne (by omega), h.cl ht hd hne (by omega) hM⟩
theorem Ext.inj {ad ad' : Nat → Nat → Int → Nat} {t n : Nat} (h : Ext ad ad' t n) (ht : 24 ≤ t ∧ t < 33) (hI : Inj ad) (hq : ∀ (t' c : Nat) (i : Int), dmb ad t' c i = true → t' ≠ t → ad t' c i ≠ ad' t 2 0) : Inj ad' := by
  intro t1 c1 i1 t2 c2 i2 h1 h2 he
  by_cases e1 : t1 = t
  · subst e1
    rw [h.dt ht] at h1
    simp only [Bool.and_eq_true, beq_iff_eq] at h1
    obtain ⟨rfl, rfl⟩ := h1
    by_cases e2 : t2 = t1
    · subst e2
      rw [h.dt ht] at h2
      simp only [Bool.and_eq_true, beq_iff_eq] at h2
      obtain ⟨rfl, rfl⟩ := h2
      rfl
    · rw [h.dm ht e2] at h2
      have hb := (dm_bd h2).1
      rw [h.hi ht e2 (by omega)] at he
      exact absurd he.symm (hq t2 c2 i2 h2 e2)
  · rw [h.dm ht e1] at h1
    have hb := (dm_bd h1).1
    rw [h.hi ht e1 (by omega)] at he
    by_cases e2 : t2 = t
    · subst e2
      rw [h.dt ht] at h2
      simp only [Bool.and_eq_true, beq_iff_eq] at h2
      obtain ⟨rfl, rfl⟩ := h2
      exact absurd he (hq t1 c1 i1 h1 e1)
    · rw [h.dm ht e2] at h2
      have hb2 := (dm_bd h2).1
      rw [h.hi ht e2 (by omega)] at he
      exact hI t1 c1 i1 t2 c2 i2 h1 h2 he
def zk (S : St) (k : Nat) : St := fun k' i => if k' = k then 0 else S k' i
theorem zk_at (S : St) (k : Nat) (i : Int) : zk S k k i = 0 := if_pos rfl
theorem zk_ne (S : St) {k k' : Nat} (i : Int) (h : k' ≠ k) : zk S k k' i = S k' i := if_neg h
theorem zk_oth {M : Mem} {t : Nat} (ht : 24 ≤ t ∧ t < 32) : ∀ (c1 k1 : Nat) (i1 : Int), owner c1 k1 i1 ≠ (t, 2, 0) → setc M 4 (zk (M 4) (t - 24)) c1 k1 i1 = M c1 k1 i1 := by
  intro c1 k1 i1 h
  unfold setc
  by_cases h1 : c1 = 4
  · subst h1
    rw [if_pos rfl]
    refine zk_ne _ _ (fun e => h ?_)
    subst e
    unfold owner
    rw [if_neg (by decide), if_neg (by decide), if_pos (by omega)]
    congr 1
    omega
  · rw [if_neg h1]
theorem cA_int {cy : Nat → ClassId} {D : va_G} {s : State} {cA : ClassId} (hK : va_K D vwCl (tyl cy) s) (h : va_K D vwCl (tyl cy ++ [(cA, .int)]) s) : cA = cy 0 := by
  have h1 : va_RA s cA .int := (h.2 5 (cA, .int) rfl).2
  have h2 : va_RA s (cy 0) .int := (hK.2 0 (cy 0, .int) rfl).2
  exact Option.some.inj (h1.symm.trans h2)
theorem Fx.ext {p : Program} {s : State} {m : MethodId} {args : Array Value} {meth : Method} {c : Code} {own : String} {cc : ByteArray} {nL : Nat} {ret : Option FieldType} {cy : Nat → ClassId} {D : va_G} {ad ad' : Nat → Nat → Int → Nat} {A : Nat → Prop} (F : Fx p s m args meth c own cc nL ret cy D ad A) (hI : Inj ad') (hA : ∀ (t c : Nat) (i : Int), dmb ad' t c i = true → A (ad' t c i)) : Fx p s m args meth c own cc nL ret cy D ad' A := by
  obtain ⟨hx, hb, hml, hown, hr, hlk, hts, hK, -, -, hA2⟩ := F
  exact ⟨hx, hb, hml, hown, hr, hlk, hts, hK, hI, hA, hA2⟩
section ALLOC
variable {p : Program} {l : Launch} {e : Env} {R : Room} {s : State} {m : MethodId} {args : Array Value} {below : List Frame} {meth : Method} {c : Code} {nL : Nat} {cy : Nat → ClassId} {D : va_G} {ad : Nat → Nat → Int → Nat} {A : Nat → Prop} {kc ks : Nat} {Q : State → Prop} {pc : Nat} {lv : List (Option Value)} {st : List Value} {M : Mem} {own : String} {cc : ByteArray} {ret : Option FieldType}
theorem V.drop {ad' : Nat → Nat → Int → Nat} {M' : Mem} (h : Less cy ad M ad' M') (k : V p l e R s m args below meth c nL cy D ad A kc ks Q pc lv st M) : V p l e R s m args below meth c nL cy D ad' A kc ks Q pc lv st M' := fun H locs ls hP hS hl => k H locs ls (ws_less h hP) hS hl
theorem r_newa (F : Fx p s m args meth c own cc nL ret cy D ad A) (t : Nat) (ht : 24 ≤ t ∧ t < 32) (h0 : ad 40 t 0 ≠ 1) (h32 : ad 40 32 0 ≠ 1) {n : Int} (N : Nat) (d : decode cc pc = .ok (.newarray .int, 2)) (harr : Cond.arrayClass .int ∈ TB) (hn : n = (N : Int)) (hN : N < 1000) (hf : kc + 1 ≤ R.cells ∧ ks + N ≤ R.slots)
    (kk : ∀ ad' : Nat → Nat → Int → Nat, Ext ad ad' t N → Fx p s m args meth c own cc nL ret cy D ad' A → V p l e R s m args below meth c nL cy D ad' A (kc + 1) (ks + N) Q (pc + 2) lv (.ref (ad' t 2 0) :: st) (setc M 4 (zk (M 4) (t - 24)))) : V p l e R s m args below meth c nL cy D ad A kc ks Q pc lv (.int (i32 n) :: st) M := by
  have F9 := F
  obtain ⟨hx, hb, hml, hown, hr, hlk, hts, hK, hI, hA1, hA2⟩ := F
  subst hn
  intro H locs ls hP hS hl
  refine va_newa (atype := .int) hx hb (hts _ harr) (ty := .int) rfl hK.1 hP (wsD hI hA1 M) hS hA2 (N' := N) (a0 := (N, .inl (fun _ => 0))) (fun cA => by rw [vp_cell_i]; rfl) (by have h := (i32_lt0 (a := (N : Int)) ⟨by omega, by omega⟩); intro z; have := h.mp z; omega) (by rw [i32_cl (by omega) (by omega)]; omega) (by show N * 4 ≤ _; omega) hf.1 hf.2 d (fun q cA H1 hK1 hP1 hD1 hS1 => ?_)
  rw [cA_int hK.1 hK1] at hP1 hD1
  have E := adn_ext (ad := ad) (t := t) (q := q) (n := N) (by omega)
  have ht2 : 24 ≤ t ∧ t < 33 := by omega
  have hat : adn ad t q N t 2 0 = q := adn_at ad t q N
  have hlt : ∀ {k : Nat} {x : Nat × va_E}, (wsOf cy ad M)[k]? = some x → k < (wsOf cy ad M).length := fun h => (List.getElem?_eq_some_iff.mp h).1
  have hlast : (wsOf cy ad M ++ [(q, Sum.inl (cy 0, N, Sum.inl (fun _ => (0 : Int32))))])[(wsOf cy ad M).length]? = some (q, Sum.inl (cy 0, N, Sum.inl (fun _ => (0 : Int32)))) := by rw [List.getElem?_append_right (Nat.le_refl _), Nat.sub_self]; rfl
  have hI1 : Inj (adn ad t q N) := E.inj ht2 hI (fun t' c' i' hd hne he => by
    rw [hat] at he
    obtain ⟨q0, -, hq0⟩ := ws_at (cy := cy) (ad := ad) M hd
    have := hD1.1 q0 (wsOf cy ad M).length _ _ (by rw [List.getElem?_append_left (hlt hq0)]; exact hq0) hlast he
    have := hlt hq0
    omega)
  have hA3 : ∀ (t' c' : Nat) (i' : Int), dmb (adn ad t q N) t' c' i' = true → A (adn ad t q N t' c' i') := fun t' c' i' hd => by
    by_cases e1 : t' = t
    · subst e1
      rw [E.dt ht2] at hd
      simp only [Bool.and_eq_true, beq_iff_eq] at hd
      obtain ⟨rfl, rfl⟩ := hd
      rw [hat]
      exact hD1.2 _ _ hlast
    · rw [E.dm ht2 e1] at hd
      have hb9 := (dm_bd hd).1
      rw [E.hi ht2 e1 (by omega)]
      exact hA1 t' c' i' hd
  have hL := E.less (cy := cy) ht2 h0 h32 (M := M) (M' := setc M 4 (zk (M 4) (t - 24))) (zk_oth ht)
  have K := kk (adn ad t q N) E (F9.ext hI1 hA3)
  rw [hat] at K
  refine K H1 locs ls (ws_of fun t' c' i' hd => ?_) hS1 hl
  by_cases e1 : t' = t
  · subst e1
    rw [E.dt ht2] at hd
    simp only [Bool.and_eq_true, beq_iff_eq] at hd
    obtain ⟨rfl, rfl⟩ := hd
    rw [hat]
    have h9 : va_at D vwCl (q, .inl (cy 0, N, .inl (fun _ => 0))) H1 := hP1 _ _ hlast
    have e2 : cel cy (adn ad t' q N) (setc M 4 (zk (M 4) (t' - 24))) t' 2 0 = .inl (cy 0, N, .inl (fun _ => 0)) := by
      have e3 : adn ad t' q N 41 t' 0 = N := E.2.1
      have hz : ∀ j : Nat, zk (M 4) (t' - 24) (t' - 24) (j : Int) = 0 := fun j => zk_at _ _ _
      have : t' = 24 ∨ t' = 25 ∨ t' = 26 ∨ t' = 27 ∨ t' = 28 ∨ t' = 29 ∨ t' = 30 ∨ t' = 31 := by omega
      rcases this with rfl | rfl | rfl | rfl | rfl | rfl | rfl | rfl <;> (simp only [cel, setc_at, e3]; congr 4)
    rw [e2]
    exact h9
  · have hd2 : dmb ad t' c' i' = true := by rw [E.dm ht2 e1] at hd; exact hd
    obtain ⟨-, g2, g3⟩ := hL t' c' i' hd2
    rw [g2, g3]
    obtain ⟨q0, -, hq0⟩ := ws_at (cy := cy) (ad := ad) M hd2
    exact hP1 q0 _ (by rw [List.getElem?_append_left (hlt hq0)]; exact hq0)
end ALLOC
/-- a method that makes cells, keeps none, and returns -/
def Cm (l : Launch) (cy : Nat → ClassId) (D : va_G) (ad : Nat → Nat → Int → Nat) (y : MethodName) (bytes : ByteArray) (maxL : Nat) (ret : Option FieldType) (lev mc ms : Nat) (As : List Value) (M : Mem) (r : Option Value) (M1 : Mem) : Prop :=
  ∀ sz : Nat, Met l y (wsT y bytes maxL ret) { frames := lev, cells := mc, slots := ms, locals := 30 * lev } (Pn cy D ad sz As M) (Qn cy D ad sz r M1) mc ms (Aw ad sz)
theorem Cm.mk {l : Launch} {cy : Nat → ClassId} {D : va_G} {ad : Nat → Nat → Int → Nat} {y : MethodName} {bytes : ByteArray} {maxL : Nat} {ret : Option FieldType} {lev mc ms : Nat} {As : List Value} {M M1 : Mem} {r : Option Value} {lv : List (Option Value)} (n : Nat)
    (hy : plainName y.cls = true) (hlv : lve As ++ List.replicate n none = lv) (hlen : (lg_sl As).length ≤ maxL)
    (body : ∀ (p : Program) (e : Env) (s : State) (m : MethodId) (below : List Frame) (meth : Method) (c : Code), Fx p s m As.toArray meth c y.cls bytes maxL ret cy D ad (Aw ad s.heap.size) →
      V p l e { frames := lev, cells := mc, slots := ms, locals := 30 * lev } s m As.toArray below meth c maxL cy D ad (Aw ad s.heap.size) 0 0 (MQ below (Qn cy D ad s.heap.size r M1) As.toArray s mc ms (Aw ad s.heap.size)) 0 lv [] M) : Cm l cy D ad y bytes maxL ret lev mc ms As M r M1 := by
  intro sz
  refine Met.ofW (cc := bytes) (maxL := maxL) (ret := ret) hy rfl ?_
  intro p e s m args below meth c s₁ B hml hv
  obtain ⟨rfl, hsz, hP, hK, hI⟩ := hv
  subst hsz
  have hts : ∀ w ∈ TB, w.before As.toArray s = true := fun w hw => atoms_spec (ws := wsT y bytes maxL ret) B.pre w (List.mem_cons_of_mem _ hw)
  have F : Fx p s m As.toArray meth c y.cls bytes maxL ret cy D ad (Aw ad s.heap.size) := ⟨B.exec, B.bytes, hml, findClass_of_methodNamed B.named, B.returns, B.notSynchronized, hts, hK, hI, fun t c i h => Or.inl ⟨t, c, i, h, rfl⟩, fun q h => Or.inr h⟩
  have hl := lv_entry As (n := maxL) hlen
  rw [lg_entry_eq]
  refine body p e s m below meth c F s.heap [] _ hP va_S.rf ⟨hl.1, hl.2.1, fun i v hi => hl.2.2 (i, v) ?_⟩
  have hi2 : (lve As)[i]? = some (some v) := by
    rw [← hlv] at hi
    by_cases h : i < (lve As).length
    · rw [List.getElem?_append_left h] at hi
      exact hi
    · rw [List.getElem?_append_right (by omega), List.getElem?_replicate] at hi
      split at hi <;> cases hi
  simpa using lve_mem As 0 i v hi2
section CALLM
variable {p : Program} {l : Launch} {e : Env} {R : Room} {s : State} {m : MethodId} {args : Array Value} {below : List Frame} {meth : Method} {c : Code} {nL : Nat} {cy : Nat → ClassId} {D : va_G} {ad : Nat → Nat → Int → Nat} {A : Nat → Prop} {kc ks : Nat} {Q : State → Prop} {pc : Nat} {lv : List (Option Value)} {st : List Value} {M : Mem} {own : String} {cc : ByteArray} {ret : Option FieldType}
theorem r_afterM {aa : Array Value} {stk : List Value} {r : Option Value} {M1 : Mem} {mc ms : Nat} (hA1 : ∀ (t c : Nat) (i : Int), dmb ad t c i = true → A (ad t c i)) (hA2 : ∀ q : Nat, s.heap.size ≤ q → A q)
    (run : ∀ (H : Heap) (locs : List Loc) (ls : Array Slot), va_P D vwCl (wsOf cy ad M) H → va_S A s.heap H locs → lvh nL ls lv → va_Run p l e R s m args below meth c H locs kc ks mc ms (F0 m pc ls stk) st (Qn cy D ad H.size r M1 aa) (Aw ad H.size))
    (kk : V p l e R s m args below meth c nL cy D ad A (kc + mc) (ks + ms) Q (pc + 3) lv (r.toList ++ st) M1) : V p l e R s m args below meth c nL cy D ad A kc ks Q pc lv stk M := by
  intro H locs ls hP hS hl T hT X
  obtain ⟨v, st₀, t, T', L, h0, X', hL, e1, e2, ⟨⟨hv, hP1⟩, hz, hk⟩, stp⟩ := run H locs ls hP hS hl T hT X
  cases hv
  rw [h0] at hz hk
  have hsub := Aw_sub hA1 hA2 (sz := H.size) hS.1
  have hS1 : va_S A s.heap T'.heap (locs ++ L) := ⟨Nat.le_trans hS.1 (by rw [e1]; exact hz), fun q h1 h2 => by
      rw [e1, hk q (Nat.lt_of_lt_of_le h1 hS.1) (fun z => h2 (hsub q z))]; exact hS.2.1 q h1 h2, fun q hq => by
      rcases List.mem_append.mp hq with h | h
      · exact hS.2.2 q h
      · exact hsub _ (hL q h)⟩
  obtain ⟨t2, a1, b1⟩ := kk T'.heap (locs ++ L) ls (by rw [e1]; exact hP1) hS1 hl T' rfl X'
  exact ⟨t2, stp t2 a1, b1⟩
theorem r_callM (F : Fx p s m args meth c own cc nL ret cy D ad A) {y : MethodName} {bytes : ByteArray} {maxL n lev mc ms index t cc1 ci N : Nat} {i : Int} {ret1 : Option FieldType} {fs : List Value} {T : u_T} {As stk : List Value} {r : Option Value} {M1 : Mem} (hM : Cm l cy D ad y bytes maxL ret1 lev mc ms (.ref (ad t cc1 i) :: As) M r M1) (d : decode cc pc = .ok (.invokevirtual index, 3)) (lk : LkV own index y n) (hn : As.length = n) (hst : stk = As.reverse ++ .ref (ad t cc1 i) :: st) (hk : dmb ad t cc1 i = true) (hcel : cel cy ad M t cc1 i = .inr (ci, fs)) (hc : vwCl[ci]? = some (y.cls, T, N)) (hcd : Cond.code y bytes maxL ret1 ∈ TB) (hR : lev + 1 ≤ R.frames ∧ 8 + (maxL + 11) + 30 * lev ≤ R.locals) (hf : kc + mc ≤ R.cells ∧ ks + ms ≤ R.slots) (hw : (st.map fun v => v.category).sum ≤ 8) (kk : V p l e R s m args below meth c nL cy D ad A (kc + mc) (ks + ms) Q (pc + 3) lv (r.toList ++ st) M1) : V p l e R s m args below meth c nL cy D ad A kc ks Q pc lv stk M := by
  obtain ⟨hx, hb, hml, hown, hr, hlk, hts, hK, hI, hA1, hA2⟩ := F
  subst hst
  obtain ⟨⟨l1, l2, l3, l4⟩, g1, g2, g3⟩ := lk
  refine r_afterM (aa := (Value.ref (ad t cc1 i) :: As).toArray) hA1 hA2 (fun H locs ls hP hS hl => ?_) kk
  obtain ⟨q0, hq, hw1⟩ := ws_at (cy := cy) (ad := ad) M hk
  refine va_runV (Ts := TB) (C := y.cls) (rm := { frames := lev, cells := mc, slots := ms, locals := 30 * lev }) ⟨hx, hb, hml, hown, hts⟩ (hM H.size) (cwV n hts (tb_good (fun _ h => h) (X := wsV own index y.cls y (wsT y bytes maxL ret1)) ?_) rfl rfl rfl ⟨rfl, g1, g2, g3⟩ hR) ⟨Pn_blind _ _ _ _ _ _, va_recv hK.1 hP hc (by rw [hw1, hcel]), fun U hU hW => ⟨rfl, by rw [hU], by rw [hU]; exact hP, hK.warm hW, hI⟩⟩ rfl hn hl.1 rfl (lv_room hw) d hf
  intro w hw2
  simp only [wsV, List.mem_append, List.mem_cons, List.not_mem_nil, or_false, wsT] at hw2
  rcases hw2 with (rfl | rfl | rfl | rfl) | (rfl | h)
  · exact l1
  · exact l2
  · exact l3
  · exact l4
  · exact hcd
  · exact h
end CALLM
end
section
/-! What the coast is, in whole numbers. -/
theorem u2_at (S : St) (k : Nat) (i v : Int) : u2 S k i v k i = v := if_pos ⟨rfl, rfl⟩
theorem u2_k {S : St} {k k' : Nat} {i i' v : Int} (h : k' ≠ k) : u2 S k i v k' i' = S k' i' := if_neg (fun z => h z.1)
theorem u2_i {S : St} {k k' : Nat} {i i' v : Int} (h : i' ≠ i) : u2 S k i v k' i' = S k' i' := if_neg (fun z => h z.2)
theorem u2_self (S : St) (k : Nat) (i : Int) : u2 S k i (S k i) = S := by
  funext k' i'
  unfold u2
  by_cases h : k' = k ∧ i' = i
  · rw [if_pos h, h.1, h.2]
  · rw [if_neg h]
theorem u2_comm (S : St) {k k2 : Nat} {i i2 v v2 : Int} (h : k ≠ k2 ∨ i ≠ i2) : u2 (u2 S k i v) k2 i2 v2 = u2 (u2 S k2 i2 v2) k i v := by
  funext k' i'
  unfold u2
  by_cases h1 : k' = k ∧ i' = i
  · have h2 : ¬ (k' = k2 ∧ i' = i2) := by
      rintro ⟨h2, h3⟩
      rcases h with h | h
      · exact h (h1.1.symm.trans h2)
      · exact h (h1.2.symm.trans h3)
    simp only [if_pos h1, if_neg h2]
  · by_cases h2 : k' = k2 ∧ i' = i2
    · simp only [if_neg h1, if_pos h2]
    · simp only [if_neg h1, if_neg h2]
theorem u2_u2 (S : St) (k : Nat) (i v v2 : Int) : u2 (u2 S k i v) k i v2 = u2 S k i v2 := by
  funext k' i'
  unfold u2
  by_cases h1 : k' = k ∧ i' = i
  · rw [if_pos h1, if_pos h1]
  · rw [if_neg h1, if_neg h1, if_neg h1]
def moonOf (n : Int) : Int := iabs (n % 12 - 6)
def mo (S : St) : Int := moonOf (S 20 0 / 10)
def hn (S : St) : Int := S 20 0 % 10
def shw (S : St) (l : Int) : Int := S 5 (10 * l + hn S)
def sgP (S : St) (w : Int) : Int := S 9 w + mo S / 2
def sgL (S : St) (w : Int) : Int := 2 * S 9 w + 6 - mo S
def cnt (P : Int → Bool) : Nat → Int
  | 0 => 0
  | n + 1 => cnt P n + bi (P (n : Int))
def sm (f : Int → Int) : Nat → Int
  | 0 => 0
  | n + 1 => sm f n + f (n : Int)
def fstB (P : Int → Bool) : Nat → Int
  | 0 => -1
  | n + 1 => if fstB P n ≠ -1 then fstB P n else if P (n : Int) = true then (n : Int) else -1
def seesL (S : St) (l w : Int) : Bool := decide (iabs (S 10 w - S 4 l) ≤ sgL S w)
def seesP (S : St) (q w : Int) : Bool := decide (iabs (S 10 w - q) ≤ sgP S w)
def wL (S : St) (l : Int) : Int := cnt (seesL S l) (S 20 2).toNat
def wP (S : St) (q : Int) : Int := cnt (seesP S q) (S 20 2).toNat
def kn (S : St) (c : Int) : Bool := decide (0 < c) && !decide (i32 (S 3 c) < i32 3)
def there (S : St) (b : Int) : Bool := decide (S 18 b = 0) && decide (S 15 b = S 13 b)
def noteS (S : St) (l : Int) : St := if shw S l = 0 ∨ wL S l = 0 then S else u2 (u2 S 3 (shw S l) (S 3 (shw S l) + 1)) 6 l (S 6 l + 1)
def noteN (S : St) : Nat → St
  | 0 => S
  | n + 1 => noteS (noteN S n) (n : Int)
def unlM (S : St) (b : Int) : Int := min (min 4 (S 14 b)) (S 0 (S 13 b) - S 1 (S 13 b))
def unlS (S : St) (b : Int) : St :=
  let S3 := u2 (u2 (u2 S 1 (S 13 b) (S 1 (S 13 b) + unlM S b)) 14 b (S 14 b - unlM S b)) 19 b (S 19 b + unlM S b)
  if S 14 b - unlM S b = 0 then u2 S3 18 b 1 else S3
def bst (S : St) (b : Int) : Nat → Int
  | 0 => -1
  | n + 1 => if shw S n = 0 ∨ S 2 (shw S n) = -1 ∨ 9 - mo S < iabs (S 4 n - S 13 b) ∨ (bst S b n ≠ -1 ∧ iabs (S 4 (bst S b n) - S 13 b) ≤ iabs (S 4 n - S 13 b)) then bst S b n else (n : Int)
def readS (S : St) (b : Int) : St :=
  if bst S b (S 20 1).toNat = -1 then S else u2 (u2 S 16 b (shw S (bst S b (S 20 1).toNat))) 15 b (S 2 (shw S (bst S b (S 20 1).toNat)))
def mvS (S : St) (b : Int) : St := if S 15 b = -1 then S else u2 S 13 b (S 13 b + max (-2) (min 2 (S 15 b - S 13 b)))
def sailS (S : St) (b : Int) : St := mvS (if S 17 b = 1 then readS S b else S) b
def boatS (S : St) (b : Int) : St := if S 18 b ≠ 0 then S else if S 15 b = S 13 b then unlS S b else sailS S b
def boatN (S : St) : Nat → St
  | 0 => S
  | n + 1 => boatS (boatN S n) (n : Int)
def boatM (S : St) : Nat → Int
  | 0 => 0
  | n + 1 => boatM S n + (if there (boatN S n) n = true then unlM (boatN S n) n else 0)
def wg (S : St) (w : Int) : Int := if S 10 w = (if 0 < S 11 w then S 8 w else S 7 w) then -S 11 w else S 11 w
def walkS (S : St) (w : Int) : St := if S 7 w = S 8 w then S else u2 (u2 S 11 w (wg S w)) 10 w (S 10 w + wg S w)
def catB (S : St) (w b : Int) : Bool := there S b && decide (iabs (S 10 w - S 13 b) ≤ sgP S w + (if kn S (S 16 b) = true then 3 else 0))
def catS (S : St) (w b : Int) : St := u2 (u2 (u2 (u2 S 20 4 (S 20 4 + S 14 b)) 14 b 0) 18 b 2) 12 w (S 12 w + 1)
def seizeS (S : St) (w : Int) : St := if fstB (catB S w) (S 20 3).toNat = -1 then S else catS S w (fstB (catB S w) (S 20 3).toNat)
def watchS (S : St) (w : Int) : St := seizeS (walkS S w) w
def watchN (S : St) : Nat → St
  | 0 => S
  | n + 1 => watchS (watchN S n) (n : Int)
def go1 (S : St) : St := noteN S (S 20 1).toNat
def go2 (S : St) : St := boatN (go1 S) (S 20 3).toNat
def go3 (S : St) : St := watchN (go2 S) (S 20 2).toNat
def go (S : St) : St := u2 (go3 S) 20 0 (S 20 0 + 1)
def goM (S : St) : Int := boatM (go1 S) (S 20 3).toNat
def goN (S : St) : Nat → St
  | 0 => S
  | n + 1 => go (goN S n)
def goS (S : St) : Nat → Int
  | 0 => 0
  | n + 1 => goS S n + goM (goN S n)
def isF (S : St) (f b : Int) : Bool := decide (S 18 b = f)
def atW (S : St) (q w : Int) : Bool := decide (S 10 w = q)
def atB (S : St) (q b : Int) : Bool := decide (S 18 b = 0) && decide (S 13 b = q)
def ldB (S : St) (c b : Int) : Bool := decide (S 18 b = 0) && decide (S 16 b = c)
def inF (S : St) (f : Int) : Int := cnt (isF S f) (S 20 3).toNat
def nAtW (S : St) (q : Int) : Int := cnt (atW S q) (S 20 2).toNat
def nAtB (S : St) (q : Int) : Int := cnt (atB S q) (S 20 3).toNat
def nLdB (S : St) (c : Int) : Int := cnt (ldB S c) (S 20 3).toNat
def kn1 (S : St) (i : Int) : Bool := kn S (i + 1)
def caves (S : St) : Int := sm (S 1) 16
def known (S : St) : Int := cnt (kn1 S) 7
def counted (S : St) (w : Int) : Int :=
  if w = 0 then S 20 0 else if w = 1 then S 20 1 else if w = 2 then S 20 2 else if w = 3 then S 20 3 else if w = 4 then inF S 0 else if w = 5 then inF S 1 else if w = 6 then inF S 2
  else if w = 7 then caves S else if w = 8 then S 20 4 else if w = 9 then S 20 5 else known S
def sendS (S : St) (b q : Int) : St := u2 (u2 (u2 S 15 b q) 17 b (if q = -1 then 1 else 0)) 16 b 0
/-- what holds between calls -/
def Inv (S : St) : Prop :=
  (∀ i, 0 ≤ S 13 i ∧ S 13 i ≤ 15) ∧ (∀ i, 0 ≤ S 14 i ∧ S 14 i ≤ 20) ∧ (∀ i, -1 ≤ S 15 i ∧ S 15 i ≤ 15) ∧ (∀ i, 0 ≤ S 16 i ∧ S 16 i ≤ 7) ∧ (∀ i, S 17 i = 0 ∨ S 17 i = 1) ∧ (∀ i, 0 ≤ S 18 i ∧ S 18 i ≤ 2) ∧
  (∀ i, 0 ≤ S 1 i ∧ S 1 i ≤ S 0 i ∧ S 0 i ≤ 30) ∧ (∀ i, -1 ≤ S 2 i ∧ S 2 i ≤ 15) ∧ S 3 0 = 0 ∧ (∀ i, 0 ≤ S 4 i ∧ S 4 i ≤ 15) ∧ (∀ i, 0 ≤ S 5 i ∧ S 5 i ≤ 7) ∧
  (∀ i, 0 ≤ S 7 i ∧ S 7 i ≤ S 10 i ∧ S 10 i ≤ S 8 i ∧ S 8 i ≤ 15) ∧ (∀ i, 0 ≤ S 9 i ∧ S 9 i ≤ 3) ∧ (∀ i, 0 ≤ i → i < S 20 2 → S 11 i = 1 ∨ S 11 i = -1) ∧
  (0 ≤ S 20 0 ∧ 0 ≤ S 20 1 ∧ S 20 1 ≤ 5 ∧ 0 ≤ S 20 2 ∧ S 20 2 ≤ 4 ∧ 0 ≤ S 20 3 ∧ S 20 3 ≤ 6) ∧ (∀ i, S 18 i ≠ 0 → S 14 i = 0)
def stg (S : St) (b : Int) : Int := if S 18 b = 1 then 3 else if S 18 b = 2 then 4 else if S 15 b = -1 then 0 else if S 15 b = S 13 b then 2 else 1
def toldF (S : St) (b w : Int) : Int := if w = 0 then S 13 b else if w = 1 then S 14 b else if w = 2 then S 15 b else if w = 3 then stg S b else if w = 4 then S 19 b else if w = 5 then S 16 b else S 17 b
def aboutF (S : St) (x w : Int) : Int := if w = 0 then S 10 x else if w = 1 then S 11 x else if w = 2 then sgP S x else if w = 3 then sgL S x else S 12 x
def lightF (S : St) (x w : Int) : Int := if w = 0 then S 4 x else if w = 1 then shw S x else if w = 2 then wL S x else S 6 x
def codeF (S : St) (x w : Int) : Int := if w = 0 then S 2 x else if w = 1 then S 3 x else if w = 2 then bi (kn S x) else nLdB S x
def placeF (S : St) (x w : Int) : Int := if w = 0 then S 0 x else if w = 1 then S 1 x else if w = 2 then nAtW S x else if w = 3 then nAtB S x else wP S x
def sLq (S : St) (q mn w : Int) : Bool := decide (iabs (S 10 w - q) ≤ 2 * S 9 w + 6 - mn)
def lanQ (S : St) (q : Int) : Nat → Bool
  | 0 => false
  | n + 1 => lanQ S q n || decide (S 4 n = q)
def boat0 (S : St) (x q b : Int) : St := u2 (u2 (u2 (u2 (u2 (u2 (u2 S 13 x q) 14 x b) 15 x (-1)) 16 x 0) 17 x 1) 18 x 0) 19 x 0
def wat0 (S : St) (x f t e : Int) : St := u2 (u2 (u2 (u2 (u2 (u2 S 7 x f) 8 x t) 9 x e) 10 x f) 11 x 1) 12 x 0
/-- beyond the counts there is nothing -/
def Dead (S : St) : Prop := (∀ i, S 20 1 ≤ i → S 4 i = 0 ∧ S 6 i = 0) ∧ (∀ i, 10 * S 20 1 ≤ i → S 5 i = 0) ∧ (∀ (k : Nat) (i : Int), 7 ≤ k → k ≤ 12 → S 20 2 ≤ i → S k i = 0) ∧ (∀ (k : Nat) (i : Int), 13 ≤ k → k ≤ 19 → S 20 3 ≤ i → S k i = 0)
end
section
/-! Facts of the words. -/
theorem tn_S {j : Int} (h : 0 ≤ j) : (j + 1).toNat = j.toNat + 1 := by omega
theorem tn_c {j : Int} (h : 0 ≤ j) : ((j.toNat : Nat) : Int) = j := by omega
theorem cnt_S (P : Int → Bool) {j : Int} (h : 0 ≤ j) : cnt P (j + 1).toNat = cnt P j.toNat + bi (P j) := by
  rw [tn_S h]
  show cnt P j.toNat + bi (P ((j.toNat : Nat) : Int)) = _
  rw [tn_c h]
theorem sm_S (f : Int → Int) {j : Int} (h : 0 ≤ j) : sm f (j + 1).toNat = sm f j.toNat + f j := by
  rw [tn_S h]
  show sm f j.toNat + f ((j.toNat : Nat) : Int) = _
  rw [tn_c h]
theorem cnt_bd (P : Int → Bool) : ∀ n : Nat, 0 ≤ cnt P n ∧ cnt P n ≤ n
  | 0 => ⟨Int.le_refl _, Int.le_refl _⟩
  | n + 1 => by
    have h := cnt_bd P n
    have e : cnt P (n + 1) = cnt P n + bi (P n) := rfl
    rw [e]
    cases P n <;> simp only [bi_t, bi_f] <;> omega
theorem cnt_congr {P P' : Int → Bool} : ∀ {n : Nat}, (∀ i : Int, 0 ≤ i → i < n → P i = P' i) → cnt P n = cnt P' n
  | 0, _ => rfl
  | n + 1, h => by
    show cnt P n + bi (P n) = cnt P' n + bi (P' n)
    rw [cnt_congr (fun i h1 h2 => h i h1 (by omega)), h n (by omega) (by omega)]
theorem moonOf_bd {n : Int} : 0 ≤ moonOf n ∧ moonOf n ≤ 6 := by
  unfold moonOf iabs
  split <;> omega
theorem mo_bd (S : St) : 0 ≤ mo S ∧ mo S ≤ 6 := moonOf_bd
theorem hn_bd (S : St) : 0 ≤ hn S ∧ hn S ≤ 9 := by unfold hn; omega
theorem iabs_bd {a hi : Int} (h1 : -hi ≤ a) (h2 : a ≤ hi) : 0 ≤ iabs a ∧ iabs a ≤ hi := by unfold iabs; split <;> omega
theorem noteN_S (S : St) {j : Int} (h : 0 ≤ j) : noteN S (j + 1).toNat = noteS (noteN S j.toNat) j := by
  rw [tn_S h]
  show noteS (noteN S j.toNat) ((j.toNat : Nat) : Int) = _
  rw [tn_c h]
theorem boatN_S (S : St) {j : Int} (h : 0 ≤ j) : boatN S (j + 1).toNat = boatS (boatN S j.toNat) j := by
  rw [tn_S h]
  show boatS (boatN S j.toNat) ((j.toNat : Nat) : Int) = _
  rw [tn_c h]
theorem boatM_S (S : St) {j : Int} (h : 0 ≤ j) : boatM S (j + 1).toNat = boatM S j.toNat + (if there (boatN S j.toNat) j = true then unlM (boatN S j.toNat) j else 0) := by
  rw [tn_S h]
  show boatM S j.toNat + (if there (boatN S j.toNat) ((j.toNat : Nat) : Int) = true then unlM (boatN S j.toNat) ((j.toNat : Nat) : Int) else 0) = _
  rw [tn_c h]
theorem watchN_S (S : St) {j : Int} (h : 0 ≤ j) : watchN S (j + 1).toNat = watchS (watchN S j.toNat) j := by
  rw [tn_S h]
  show watchS (watchN S j.toNat) ((j.toNat : Nat) : Int) = _
  rw [tn_c h]
theorem goN_S (S : St) {j : Int} (h : 0 ≤ j) : goN S (j + 1).toNat = go (goN S j.toNat) := by
  rw [tn_S h]
  rfl
theorem goS_S (S : St) {j : Int} (h : 0 ≤ j) : goS S (j + 1).toNat = goS S j.toNat + goM (goN S j.toNat) := by
  rw [tn_S h]
  rfl
theorem bst_S (S : St) (b : Int) {j : Int} (h : 0 ≤ j) : bst S b (j + 1).toNat = if shw S j = 0 ∨ S 2 (shw S j) = -1 ∨ 9 - mo S < iabs (S 4 j - S 13 b) ∨ (bst S b j.toNat ≠ -1 ∧ iabs (S 4 (bst S b j.toNat) - S 13 b) ≤ iabs (S 4 j - S 13 b)) then bst S b j.toNat else j := by
  rw [tn_S h]
  show (if shw S ((j.toNat : Nat) : Int) = 0 ∨ S 2 (shw S ((j.toNat : Nat) : Int)) = -1 ∨ 9 - mo S < iabs (S 4 ((j.toNat : Nat) : Int) - S 13 b) ∨ (bst S b j.toNat ≠ -1 ∧ iabs (S 4 (bst S b j.toNat) - S 13 b) ≤ iabs (S 4 ((j.toNat : Nat) : Int) - S 13 b)) then bst S b j.toNat else ((j.toNat : Nat) : Int)) = _
  rw [tn_c h]
theorem iabs_or (a : Int) : (0 ≤ a ∧ iabs a = a) ∨ (a < 0 ∧ iabs a = -a) := by unfold iabs; split <;> omega
theorem kn_of {S : St} {x : Int} (h0 : 0 ≤ x) (h3 : S 3 0 = 0) : kn S x = !decide (i32 (S 3 x) < i32 3) := by
  unfold kn
  by_cases h : 0 < x
  · simp [h]
  · have e : x = 0 := by omega
    subst e
    rw [h3]
    decide
end
section
/-! What holds between calls, kept by each step. -/
theorem Inv.p13 {S : St} (h : Inv S) : ∀ i, 0 ≤ S 13 i ∧ S 13 i ≤ 15 := h.1
theorem Inv.p14 {S : St} (h : Inv S) : ∀ i, 0 ≤ S 14 i ∧ S 14 i ≤ 20 := h.2.1
theorem Inv.p15 {S : St} (h : Inv S) : ∀ i, -1 ≤ S 15 i ∧ S 15 i ≤ 15 := h.2.2.1
theorem Inv.p16 {S : St} (h : Inv S) : ∀ i, 0 ≤ S 16 i ∧ S 16 i ≤ 7 := h.2.2.2.1
theorem Inv.p17 {S : St} (h : Inv S) : ∀ i, S 17 i = 0 ∨ S 17 i = 1 := h.2.2.2.2.1
theorem Inv.p18 {S : St} (h : Inv S) : ∀ i, 0 ≤ S 18 i ∧ S 18 i ≤ 2 := h.2.2.2.2.2.1
theorem Inv.p01 {S : St} (h : Inv S) : ∀ i, 0 ≤ S 1 i ∧ S 1 i ≤ S 0 i ∧ S 0 i ≤ 30 := h.2.2.2.2.2.2.1
theorem Inv.p2 {S : St} (h : Inv S) : ∀ i, -1 ≤ S 2 i ∧ S 2 i ≤ 15 := h.2.2.2.2.2.2.2.1
theorem Inv.p3 {S : St} (h : Inv S) : S 3 0 = 0 := h.2.2.2.2.2.2.2.2.1
theorem Inv.p4 {S : St} (h : Inv S) : ∀ i, 0 ≤ S 4 i ∧ S 4 i ≤ 15 := h.2.2.2.2.2.2.2.2.2.1
theorem Inv.p5 {S : St} (h : Inv S) : ∀ i, 0 ≤ S 5 i ∧ S 5 i ≤ 7 := h.2.2.2.2.2.2.2.2.2.2.1
theorem Inv.pw {S : St} (h : Inv S) : ∀ i, 0 ≤ S 7 i ∧ S 7 i ≤ S 10 i ∧ S 10 i ≤ S 8 i ∧ S 8 i ≤ 15 := h.2.2.2.2.2.2.2.2.2.2.2.1
theorem Inv.p9 {S : St} (h : Inv S) : ∀ i, 0 ≤ S 9 i ∧ S 9 i ≤ 3 := h.2.2.2.2.2.2.2.2.2.2.2.2.1
theorem Inv.p11 {S : St} (h : Inv S) : ∀ i, 0 ≤ i → i < S 20 2 → S 11 i = 1 ∨ S 11 i = -1 := h.2.2.2.2.2.2.2.2.2.2.2.2.2.1
theorem Inv.pc {S : St} (h : Inv S) : 0 ≤ S 20 0 ∧ 0 ≤ S 20 1 ∧ S 20 1 ≤ 5 ∧ 0 ≤ S 20 2 ∧ S 20 2 ≤ 4 ∧ 0 ≤ S 20 3 ∧ S 20 3 ≤ 6 := h.2.2.2.2.2.2.2.2.2.2.2.2.2.2.1
theorem Inv.pg {S : St} (h : Inv S) : ∀ i, S 18 i ≠ 0 → S 14 i = 0 := h.2.2.2.2.2.2.2.2.2.2.2.2.2.2.2
theorem inv0 {S : St} {b v : Int} (h : Inv S) (hv : S 1 b ≤ v ∧ v ≤ 30) : Inv (u2 S 0 b v) := by
  obtain ⟨p13, p14, p15, p16, p17, p18, p01, p2, p3, p4, p5, pw, p9, p11, pc, pg⟩ := h
  exact ⟨p13, p14, p15, p16, p17, p18, fun i => by have q := p01 i; have q2 := p01 b; by_cases e : i = b <;> simp [u2, e] at * <;> omega, p2, p3, p4, p5, pw, p9, p11, pc, pg⟩
theorem inv1 {S : St} {b v : Int} (h : Inv S) (hv : 0 ≤ v ∧ v ≤ S 0 b) : Inv (u2 S 1 b v) := by
  obtain ⟨p13, p14, p15, p16, p17, p18, p01, p2, p3, p4, p5, pw, p9, p11, pc, pg⟩ := h
  exact ⟨p13, p14, p15, p16, p17, p18, fun i => by have q := p01 i; have q2 := p01 b; by_cases e : i = b <;> simp [u2, e] at * <;> omega, p2, p3, p4, p5, pw, p9, p11, pc, pg⟩
theorem inv2 {S : St} {b v : Int} (h : Inv S) (hv : -1 ≤ v ∧ v ≤ 15) : Inv (u2 S 2 b v) := by
  obtain ⟨p13, p14, p15, p16, p17, p18, p01, p2, p3, p4, p5, pw, p9, p11, pc, pg⟩ := h
  exact ⟨p13, p14, p15, p16, p17, p18, p01, fun i => by have q := p2 i; by_cases e : i = b <;> simp [u2, e] at * <;> omega, p3, p4, p5, pw, p9, p11, pc, pg⟩
theorem inv3 {S : St} {b v : Int} (h : Inv S) (hv : b = 0 → v = 0) : Inv (u2 S 3 b v) := by
  obtain ⟨p13, p14, p15, p16, p17, p18, p01, p2, p3, p4, p5, pw, p9, p11, pc, pg⟩ := h
  exact ⟨p13, p14, p15, p16, p17, p18, p01, p2, (if e : (0 : Int) = b then by subst e; exact (u2_at _ _ _ _).trans (hv rfl) else (u2_i e).trans p3), p4, p5, pw, p9, p11, pc, pg⟩
theorem inv4 {S : St} {b v : Int} (h : Inv S) (hv : 0 ≤ v ∧ v ≤ 15) : Inv (u2 S 4 b v) := by
  obtain ⟨p13, p14, p15, p16, p17, p18, p01, p2, p3, p4, p5, pw, p9, p11, pc, pg⟩ := h
  exact ⟨p13, p14, p15, p16, p17, p18, p01, p2, p3, fun i => by have q := p4 i; by_cases e : i = b <;> simp [u2, e] at * <;> omega, p5, pw, p9, p11, pc, pg⟩
theorem inv5 {S : St} {b v : Int} (h : Inv S) (hv : 0 ≤ v ∧ v ≤ 7) : Inv (u2 S 5 b v) := by
  obtain ⟨p13, p14, p15, p16, p17, p18, p01, p2, p3, p4, p5, pw, p9, p11, pc, pg⟩ := h
  exact ⟨p13, p14, p15, p16, p17, p18, p01, p2, p3, p4, fun i => by have q := p5 i; by_cases e : i = b <;> simp [u2, e] at * <;> omega, pw, p9, p11, pc, pg⟩
theorem inv6 {S : St} {b v : Int} (h : Inv S)  : Inv (u2 S 6 b v) := by
  obtain ⟨p13, p14, p15, p16, p17, p18, p01, p2, p3, p4, p5, pw, p9, p11, pc, pg⟩ := h
  exact ⟨p13, p14, p15, p16, p17, p18, p01, p2, p3, p4, p5, pw, p9, p11, pc, pg⟩
theorem inv9 {S : St} {b v : Int} (h : Inv S) (hv : 0 ≤ v ∧ v ≤ 3) : Inv (u2 S 9 b v) := by
  obtain ⟨p13, p14, p15, p16, p17, p18, p01, p2, p3, p4, p5, pw, p9, p11, pc, pg⟩ := h
  exact ⟨p13, p14, p15, p16, p17, p18, p01, p2, p3, p4, p5, pw, fun i => by have q := p9 i; by_cases e : i = b <;> simp [u2, e] at * <;> omega, p11, pc, pg⟩
theorem inv10 {S : St} {b v : Int} (h : Inv S) (hv : S 7 b ≤ v ∧ v ≤ S 8 b) : Inv (u2 S 10 b v) := by
  obtain ⟨p13, p14, p15, p16, p17, p18, p01, p2, p3, p4, p5, pw, p9, p11, pc, pg⟩ := h
  exact ⟨p13, p14, p15, p16, p17, p18, p01, p2, p3, p4, p5, fun i => by have q := pw i; have q2 := pw b; by_cases e : i = b <;> simp [u2, e] at * <;> omega, p9, p11, pc, pg⟩
theorem inv11 {S : St} {b v : Int} (h : Inv S) (hv : v = 1 ∨ v = -1) : Inv (u2 S 11 b v) := by
  obtain ⟨p13, p14, p15, p16, p17, p18, p01, p2, p3, p4, p5, pw, p9, p11, pc, pg⟩ := h
  exact ⟨p13, p14, p15, p16, p17, p18, p01, p2, p3, p4, p5, pw, p9, fun i h1 h2 => by have q := p11 i h1 h2; by_cases e : i = b <;> simp [u2, e] at * <;> omega, pc, pg⟩
theorem inv12 {S : St} {b v : Int} (h : Inv S)  : Inv (u2 S 12 b v) := by
  obtain ⟨p13, p14, p15, p16, p17, p18, p01, p2, p3, p4, p5, pw, p9, p11, pc, pg⟩ := h
  exact ⟨p13, p14, p15, p16, p17, p18, p01, p2, p3, p4, p5, pw, p9, p11, pc, pg⟩
theorem inv13 {S : St} {b v : Int} (h : Inv S) (hv : 0 ≤ v ∧ v ≤ 15) : Inv (u2 S 13 b v) := by
  obtain ⟨p13, p14, p15, p16, p17, p18, p01, p2, p3, p4, p5, pw, p9, p11, pc, pg⟩ := h
  exact ⟨fun i => by have q := p13 i; by_cases e : i = b <;> simp [u2, e] at * <;> omega, p14, p15, p16, p17, p18, p01, p2, p3, p4, p5, pw, p9, p11, pc, pg⟩
theorem inv14 {S : St} {b v : Int} (h : Inv S) (hv : 0 ≤ v ∧ v ≤ 20) (hg : S 18 b ≠ 0 → v = 0) : Inv (u2 S 14 b v) := by
  obtain ⟨p13, p14, p15, p16, p17, p18, p01, p2, p3, p4, p5, pw, p9, p11, pc, pg⟩ := h
  exact ⟨p13, fun i => by have q := p14 i; by_cases e : i = b <;> simp [u2, e] at * <;> omega, p15, p16, p17, p18, p01, p2, p3, p4, p5, pw, p9, p11, pc, fun i hi => (if e : i = b then by subst e; exact (u2_at _ _ _ _).trans (hg hi) else (u2_i e).trans (pg i hi))⟩
theorem inv15 {S : St} {b v : Int} (h : Inv S) (hv : -1 ≤ v ∧ v ≤ 15) : Inv (u2 S 15 b v) := by
  obtain ⟨p13, p14, p15, p16, p17, p18, p01, p2, p3, p4, p5, pw, p9, p11, pc, pg⟩ := h
  exact ⟨p13, p14, fun i => by have q := p15 i; by_cases e : i = b <;> simp [u2, e] at * <;> omega, p16, p17, p18, p01, p2, p3, p4, p5, pw, p9, p11, pc, pg⟩
theorem inv16 {S : St} {b v : Int} (h : Inv S) (hv : 0 ≤ v ∧ v ≤ 7) : Inv (u2 S 16 b v) := by
  obtain ⟨p13, p14, p15, p16, p17, p18, p01, p2, p3, p4, p5, pw, p9, p11, pc, pg⟩ := h
  exact ⟨p13, p14, p15, fun i => by have q := p16 i; by_cases e : i = b <;> simp [u2, e] at * <;> omega, p17, p18, p01, p2, p3, p4, p5, pw, p9, p11, pc, pg⟩
theorem inv17 {S : St} {b v : Int} (h : Inv S) (hv : v = 0 ∨ v = 1) : Inv (u2 S 17 b v) := by
  obtain ⟨p13, p14, p15, p16, p17, p18, p01, p2, p3, p4, p5, pw, p9, p11, pc, pg⟩ := h
  exact ⟨p13, p14, p15, p16, fun i => by have q := p17 i; by_cases e : i = b <;> simp [u2, e] at * <;> omega, p18, p01, p2, p3, p4, p5, pw, p9, p11, pc, pg⟩
theorem inv18 {S : St} {b v : Int} (h : Inv S) (hv : 0 ≤ v ∧ v ≤ 2) (hg : S 14 b = 0) : Inv (u2 S 18 b v) := by
  obtain ⟨p13, p14, p15, p16, p17, p18, p01, p2, p3, p4, p5, pw, p9, p11, pc, pg⟩ := h
  exact ⟨p13, p14, p15, p16, p17, fun i => by have q := p18 i; by_cases e : i = b <;> simp [u2, e] at * <;> omega, p01, p2, p3, p4, p5, pw, p9, p11, pc, fun i hi => (if e : i = b then by subst e; exact hg else pg i (fun z => hi ((u2_i e).trans z)))⟩
theorem inv19 {S : St} {b v : Int} (h : Inv S)  : Inv (u2 S 19 b v) := by
  obtain ⟨p13, p14, p15, p16, p17, p18, p01, p2, p3, p4, p5, pw, p9, p11, pc, pg⟩ := h
  exact ⟨p13, p14, p15, p16, p17, p18, p01, p2, p3, p4, p5, pw, p9, p11, pc, pg⟩
theorem inv20h {S : St} {v : Int} (h : Inv S) (hv : 0 ≤ v) : Inv (u2 S 20 0 v) := by
  obtain ⟨p13, p14, p15, p16, p17, p18, p01, p2, p3, p4, p5, pw, p9, p11, pc, pg⟩ := h
  exact ⟨p13, p14, p15, p16, p17, p18, p01, p2, p3, p4, p5, pw, p9, p11, ⟨hv, pc.2⟩, pg⟩
theorem inv204 {S : St} {v : Int} (h : Inv S) : Inv (u2 S 20 4 v) := by
  obtain ⟨p13, p14, p15, p16, p17, p18, p01, p2, p3, p4, p5, pw, p9, p11, pc, pg⟩ := h
  exact ⟨p13, p14, p15, p16, p17, p18, p01, p2, p3, p4, p5, pw, p9, p11, pc, pg⟩
theorem inv205 {S : St} {v : Int} (h : Inv S) : Inv (u2 S 20 5 v) := by
  obtain ⟨p13, p14, p15, p16, p17, p18, p01, p2, p3, p4, p5, pw, p9, p11, pc, pg⟩ := h
  exact ⟨p13, p14, p15, p16, p17, p18, p01, p2, p3, p4, p5, pw, p9, p11, pc, pg⟩
theorem shw_bd {S : St} (h : Inv S) (l : Int) : 0 ≤ shw S l ∧ shw S l ≤ 7 := h.p5 _
/-! which kinds a step leaves -/
theorem noteS_k {S : St} {l : Int} {k : Nat} {i : Int} (h3 : k ≠ 3) (h6 : k ≠ 6) : noteS S l k i = S k i := by
  unfold noteS
  split
  · rfl
  · rw [u2_k h6, u2_k h3]
theorem noteN_k {S : St} {k : Nat} {i : Int} (h3 : k ≠ 3) (h6 : k ≠ 6) : ∀ n : Nat, noteN S n k i = S k i
  | 0 => rfl
  | n + 1 => (noteS_k h3 h6).trans (noteN_k h3 h6 n)
theorem noteS_inv {S : St} (h : Inv S) (l : Int) : Inv (noteS S l) := by
  unfold noteS
  split
  · exact h
  · rename_i h1
    exact inv6 (inv3 h (fun e => absurd (Or.inl e) h1))
theorem noteN_inv {S : St} (h : Inv S) : ∀ n : Nat, Inv (noteN S n)
  | 0 => h
  | n + 1 => noteS_inv (noteN_inv h n) _
theorem unlM_bd {S : St} (h : Inv S) (b : Int) : 0 ≤ unlM S b ∧ unlM S b ≤ S 14 b ∧ unlM S b ≤ S 0 (S 13 b) - S 1 (S 13 b) ∧ unlM S b ≤ 4 := by
  have h1 := h.p14 b
  have h2 := h.p01 (S 13 b)
  unfold unlM
  omega
theorem unlS_inv {S : St} (h : Inv S) (b : Int) (h0 : S 18 b = 0) : Inv (unlS S b) := by
  have h1 := unlM_bd h b
  have h2 := h.p14 b
  have h3 := h.p01 (S 13 b)
  have g1 : Inv (u2 S 1 (S 13 b) (S 1 (S 13 b) + unlM S b)) := inv1 h (by omega)
  have g2 : Inv (u2 (u2 S 1 (S 13 b) (S 1 (S 13 b) + unlM S b)) 14 b (S 14 b - unlM S b)) := inv14 g1 (by omega) (fun e => absurd (by rw [u2_k (by decide)]; exact h0) e)
  have g3 := inv19 (b := b) (v := S 19 b + unlM S b) g2
  unfold unlS
  try dsimp only
  split
  · rename_i h4
    exact inv18 g3 (by decide) (by rw [u2_k (by decide), u2_at]; exact h4)
  · exact g3
theorem unlS_k {S : St} {b : Int} {k : Nat} {i : Int} (h1 : k ≠ 1) (h2 : k ≠ 14) (h3 : k ≠ 19) (h4 : k ≠ 18) : unlS S b k i = S k i := by
  unfold unlS
  try dsimp only
  split
  · rw [u2_k h4, u2_k h3, u2_k h2, u2_k h1]
  · rw [u2_k h3, u2_k h2, u2_k h1]
theorem bst_bd {S : St} {b : Int} : ∀ n : Nat, bst S b n = -1 ∨ (0 ≤ bst S b n ∧ bst S b n < n ∧ shw S (bst S b n) ≠ 0 ∧ S 2 (shw S (bst S b n)) ≠ -1)
  | 0 => Or.inl rfl
  | n + 1 => by
    have h := bst_bd (S := S) (b := b) n
    unfold bst
    split
    · rcases h with h | h
      · exact Or.inl h
      · exact Or.inr ⟨h.1, by omega, h.2.2⟩
    · rename_i h1
      refine Or.inr ⟨by omega, by omega, fun e => h1 (Or.inl e), fun e => h1 (Or.inr (Or.inl e))⟩
theorem readS_inv {S : St} (h : Inv S) (b : Int) : Inv (readS S b) := by
  unfold readS
  split
  · exact h
  · exact inv15 (inv16 h (shw_bd h _)) (h.p2 _)
theorem readS_k {S : St} {b : Int} {k : Nat} {i : Int} (h1 : k ≠ 15) (h2 : k ≠ 16) : readS S b k i = S k i := by
  unfold readS
  split
  · rfl
  · rw [u2_k h1, u2_k h2]
theorem mvS_inv {S : St} (h : Inv S) (b : Int) : Inv (mvS S b) := by
  have h1 := h.p13 b
  have h2 := h.p15 b
  unfold mvS
  split
  · exact h
  · exact inv13 h (by omega)
theorem mvS_k {S : St} {b : Int} {k : Nat} {i : Int} (h1 : k ≠ 13) : mvS S b k i = S k i := by
  unfold mvS
  split
  · rfl
  · rw [u2_k h1]
theorem sailS_inv {S : St} (h : Inv S) (b : Int) : Inv (sailS S b) := by
  unfold sailS
  split
  · exact mvS_inv (readS_inv h b) b
  · exact mvS_inv h b
theorem sailS_k {S : St} {b : Int} {k : Nat} {i : Int} (h1 : k ≠ 13) (h2 : k ≠ 15) (h3 : k ≠ 16) : sailS S b k i = S k i := by
  unfold sailS
  rw [mvS_k h1]
  split
  · exact readS_k h2 h3
  · rfl
theorem boatS_inv {S : St} (h : Inv S) (b : Int) : Inv (boatS S b) := by
  unfold boatS
  split
  · exact h
  · rename_i h1
    split
    · exact unlS_inv h b (by omega)
    · exact sailS_inv h b
theorem boatS_k {S : St} {b : Int} {k : Nat} {i : Int} (h1 : k ≠ 1) (h2 : k ≠ 14) (h3 : k ≠ 19) (h4 : k ≠ 18) (h5 : k ≠ 13) (h6 : k ≠ 15) (h7 : k ≠ 16) : boatS S b k i = S k i := by
  unfold boatS
  split
  · rfl
  · split
    · exact unlS_k h1 h2 h3 h4
    · exact sailS_k h5 h6 h7
theorem boatN_inv {S : St} (h : Inv S) : ∀ n : Nat, Inv (boatN S n)
  | 0 => h
  | n + 1 => boatS_inv (boatN_inv h n) _
theorem boatN_k {S : St} {k : Nat} {i : Int} (h1 : k ≠ 1) (h2 : k ≠ 14) (h3 : k ≠ 19) (h4 : k ≠ 18) (h5 : k ≠ 13) (h6 : k ≠ 15) (h7 : k ≠ 16) : ∀ n : Nat, boatN S n k i = S k i
  | 0 => rfl
  | n + 1 => (boatS_k h1 h2 h3 h4 h5 h6 h7).trans (boatN_k h1 h2 h3 h4 h5 h6 h7 n)
theorem walkS_inv {S : St} (h : Inv S) {w : Int} (h0 : 0 ≤ w) (h1 : w < S 20 2) : Inv (walkS S w) := by
  have h2 := h.pw w
  have h3 := h.p11 w h0 h1
  unfold walkS
  split
  · exact h
  · unfold wg
    refine inv10 (inv11 h ?_) ?_
    · repeat' split
      all_goals omega
    · rw [u2_k (by decide), u2_k (by decide)]
      repeat' split
      all_goals omega
theorem walkS_k {S : St} {w : Int} {k : Nat} {i : Int} (h1 : k ≠ 10) (h2 : k ≠ 11) : walkS S w k i = S k i := by
  unfold walkS
  split
  · rfl
  · try dsimp only
    rw [u2_k h1, u2_k h2]
theorem catS_inv {S : St} (h : Inv S) (w b : Int) : Inv (catS S w b) := by
  unfold catS
  have g1 : Inv (u2 (u2 S 20 4 (S 20 4 + S 14 b)) 14 b 0) := inv14 (inv204 h) (by decide) (fun _ => rfl)
  exact inv12 (inv18 g1 (by decide) (u2_at _ _ _ _))
theorem catS_ref {S : St} {w b v z : Int} (hv : v = S 20 4 + S 14 b) (hz : z = S 12 w + 1) : u2 (u2 (u2 (u2 S 18 b 2) 20 4 v) 14 b 0) 12 w z = catS S w b := by
  subst hv; subst hz
  unfold catS
  rw [u2_comm S (Or.inl (by decide : (18 : Nat) ≠ 20)), u2_comm _ (Or.inl (by decide : (18 : Nat) ≠ 14))]
theorem catS_k {S : St} {w b : Int} {k : Nat} {i : Int} (h1 : k ≠ 12) (h2 : k ≠ 18) (h3 : k ≠ 14) (h4 : k ≠ 20 ∨ i ≠ 4) : catS S w b k i = S k i := by
  unfold catS
  rw [u2_k h1, u2_k h2, u2_k h3]
  rcases h4 with h4 | h4
  · exact u2_k h4
  · exact u2_i h4
theorem seizeS_inv {S : St} (h : Inv S) (w : Int) : Inv (seizeS S w) := by
  unfold seizeS
  split
  · exact h
  · exact catS_inv h _ _
theorem seizeS_k {S : St} {w : Int} {k : Nat} {i : Int} (h1 : k ≠ 12) (h2 : k ≠ 18) (h3 : k ≠ 14) (h4 : k ≠ 20 ∨ i ≠ 4) : seizeS S w k i = S k i := by
  unfold seizeS
  split
  · rfl
  · exact catS_k h1 h2 h3 h4
theorem watchS_inv {S : St} (h : Inv S) {w : Int} (h0 : 0 ≤ w) (h1 : w < S 20 2) : Inv (watchS S w) := seizeS_inv (walkS_inv h h0 h1) w
theorem watchS_k {S : St} {w : Int} {k : Nat} {i : Int} (h1 : k ≠ 12) (h2 : k ≠ 18) (h3 : k ≠ 14) (h4 : k ≠ 20 ∨ i ≠ 4) (h5 : k ≠ 10) (h6 : k ≠ 11) : watchS S w k i = S k i := (seizeS_k h1 h2 h3 h4).trans (walkS_k h5 h6)
theorem watchN_k {S : St} {k : Nat} {i : Int} (h1 : k ≠ 12) (h2 : k ≠ 18) (h3 : k ≠ 14) (h4 : k ≠ 20 ∨ i ≠ 4) (h5 : k ≠ 10) (h6 : k ≠ 11) : ∀ n : Nat, watchN S n k i = S k i
  | 0 => rfl
  | n + 1 => (watchS_k h1 h2 h3 h4 h5 h6).trans (watchN_k h1 h2 h3 h4 h5 h6 n)
theorem watchN_inv {S : St} (h : Inv S) : ∀ n : Nat, (n : Int) ≤ S 20 2 → Inv (watchN S n)
  | 0, _ => h
  | n + 1, hn => watchS_inv (watchN_inv h n (by omega)) (by omega) (by rw [watchN_k (by decide) (by decide) (by decide) (Or.inr (by decide)) (by decide) (by decide)]; omega)
theorem go1_inv {S : St} (h : Inv S) : Inv (go1 S) := noteN_inv h _
theorem go1_k {S : St} {k : Nat} {i : Int} (h3 : k ≠ 3) (h6 : k ≠ 6) : go1 S k i = S k i := noteN_k h3 h6 _
theorem go2_inv {S : St} (h : Inv S) : Inv (go2 S) := boatN_inv (go1_inv h) _
theorem go2_20 {S : St} {i : Int} : go2 S 20 i = S 20 i := by
  unfold go2
  rw [boatN_k (by decide) (by decide) (by decide) (by decide) (by decide) (by decide) (by decide), go1_k (by decide) (by decide)]
theorem go3_inv {S : St} (h : Inv S) : Inv (go3 S) := by
  have h1 := h.pc
  exact watchN_inv (go2_inv h) _ (by rw [go2_20]; omega)
theorem go3_20 {S : St} {i : Int} (hi : i ≠ 4) : go3 S 20 i = S 20 i := by
  unfold go3
  rw [watchN_k (by decide) (by decide) (by decide) (Or.inr hi) (by decide) (by decide), go2_20]
theorem go_inv {S : St} (h : Inv S) : Inv (go S) := inv20h (go3_inv h) (by have := h.pc; omega)
theorem go_hour (S : St) : go S 20 0 = S 20 0 + 1 := u2_at _ _ _ _
theorem go_20 {S : St} {i : Int} (h0 : i ≠ 0) (h4 : i ≠ 4) : go S 20 i = S 20 i := by
  unfold go
  rw [u2_i h0, go3_20 h4]
theorem goN_inv {S : St} (h : Inv S) : ∀ n : Nat, Inv (goN S n)
  | 0 => h
  | n + 1 => go_inv (goN_inv h n)
theorem goN_hour (S : St) : ∀ n : Nat, goN S n 20 0 = S 20 0 + n
  | 0 => by show S 20 0 = _; omega
  | n + 1 => by
    show go (goN S n) 20 0 = _
    rw [go_hour, goN_hour S n]
    omega
theorem goN_20 {S : St} {i : Int} (h0 : i ≠ 0) (h4 : i ≠ 4) : ∀ n : Nat, goN S n 20 i = S 20 i
  | 0 => rfl
  | n + 1 => (go_20 h0 h4).trans (goN_20 h0 h4 n)
theorem mo_eq {S S' : St} (h : S' 20 0 = S 20 0) : mo S' = mo S := by unfold mo; rw [h]
theorem hn_eq {S S' : St} (h : S' 20 0 = S 20 0) : hn S' = hn S := by unfold hn; rw [h]
theorem shw_eq {S S' : St} (h : S' 20 0 = S 20 0) (h5 : ∀ i, S' 5 i = S 5 i) (l : Int) : shw S' l = shw S l := by unfold shw; rw [hn_eq h, h5]
theorem fst_bd (P : Int → Bool) : ∀ n : Nat, fstB P n = -1 ∨ (0 ≤ fstB P n ∧ fstB P n < n)
  | 0 => Or.inl rfl
  | n + 1 => by
    have h := fst_bd P n
    unfold fstB
    split
    · rcases h with h | h
      · exact Or.inl h
      · exact Or.inr ⟨h.1, by omega⟩
    · split
      · exact Or.inr ⟨by omega, by omega⟩
      · exact Or.inl rfl
theorem fst_none {P : Int → Bool} : ∀ {n : Nat}, (∀ i : Int, 0 ≤ i → i < n → P i = false) → fstB P n = -1
  | 0, _ => rfl
  | n + 1, h => by
    unfold fstB
    rw [fst_none (fun i h1 h2 => h i h1 (by omega)), h n (by omega) (by omega)]
    simp
theorem fst_at {P : Int → Bool} {j : Int} (h0 : 0 ≤ j) (hP : P j = true) (hb : ∀ i : Int, 0 ≤ i → i < j → P i = false) : ∀ {n : Nat}, j < n → fstB P n = j
  | 0, h => by omega
  | n + 1, h => by
    unfold fstB
    by_cases e : j = (n : Int)
    · subst e
      rw [fst_none hb, hP]
      simp
    · rw [fst_at h0 hP hb (by omega)]
      rw [if_pos (by omega)]
end
section
/-! The calls: which exception (0: none), which answer, which coast. -/
def inn (v lo hi : Int) : Bool := decide (lo ≤ v) && decide (v ≤ hi)
theorem inn_t {v lo hi : Int} : inn v lo hi = true ↔ lo ≤ v ∧ v ≤ hi := by simp [inn]
theorem inn_f {v lo hi : Int} (h : inn v lo hi = false) : ¬ (lo ≤ v ∧ v ≤ hi) := by
  intro h2
  rw [inn_t.mpr h2] at h
  cases h
def thr (M : Mem) (v : Int) : Mem := setc M 4 (u2 (M 4) 0 0 v)
theorem thr_thr (M : Mem) (a b : Int) : thr (thr M a) b = thr M b := by
  unfold thr
  rw [setc_at, setc_setc, u2_u2]
theorem thr_eq (M : Mem) (S : St) (v : Int) : setc (setc M 2 S) 4 (u2 ((setc M 2 S) 4) 0 0 v) = setc (thr M v) 2 S := by
  unfold thr
  rw [setc_ne M S (by decide : 4 ≠ 2), setc_comm M S _ (by decide)]
def cSetRoom (S : St) (p q : Int) : Int := if ¬ (0 ≤ p ∧ p ≤ 15) then 1 else if ¬ (0 ≤ q ∧ q ≤ 30) then 2 else if q < S 1 p then 3 else 0
def cSetCode (c p : Int) : Int := if ¬ (1 ≤ c ∧ c ≤ 7) then 1 else if ¬ (-1 ≤ p ∧ p ≤ 15) then 1 else 0
def cLantern (S : St) (p : Int) : Int := if ¬ (0 ≤ p ∧ p ≤ 15) then 1 else if 5 ≤ S 20 1 then 2 else if lanQ S p (S 20 1).toNat = true then 2 else 0
def cSetShow (S : St) (x h c : Int) : Int := if ¬ (0 ≤ x ∧ x ≤ S 20 1 - 1) then 1 else if ¬ (0 ≤ h ∧ h ≤ 9) then 1 else if ¬ (0 ≤ c ∧ c ≤ 7) then 2 else 0
def cWatch (S : St) (f t g : Int) : Int := if ¬ (0 ≤ f ∧ f ≤ 15) then 1 else if ¬ (0 ≤ t ∧ t ≤ 15) then 1 else if t < f then 2 else if ¬ (0 ≤ g ∧ g ≤ 3) then 2 else if 4 ≤ S 20 2 then 3 else 0
def cBoat (S : St) (p b : Int) : Int := if ¬ (0 ≤ p ∧ p ≤ 15) then 1 else if ¬ (1 ≤ b ∧ b ≤ 20) then 2 else if 6 ≤ S 20 3 then 3 else 0
def cSend (S : St) (b p : Int) : Int := if ¬ (0 ≤ b ∧ b ≤ S 20 3 - 1) then 1 else if ¬ (-1 ≤ p ∧ p ≤ 15) then 1 else if S 18 b ≠ 0 then 2 else 0
def cCarry (S : St) (p m : Int) : Int := if ¬ (0 ≤ p ∧ p ≤ 15) then 1 else if ¬ (1 ≤ m ∧ m ≤ 30) then 2 else if S 1 p < m then 3 else 0
/-- two bounds, then nothing more -/
def cRng (v lo hi w lo2 hi2 : Int) : Int := if ¬ (lo ≤ v ∧ v ≤ hi) then 1 else if ¬ (lo2 ≤ w ∧ w ≤ hi2) then 1 else 0
def cRng1 (v lo hi : Int) : Int := if ¬ (lo ≤ v ∧ v ≤ hi) then 1 else 0
def cForesee (h w : Int) : Int := if ¬ (1 ≤ h ∧ h ≤ 60) then 1 else if ¬ (4 ≤ w ∧ w ≤ 10) then 2 else 0
def cAdvise (S : St) (b : Int) : Int := if ¬ (0 ≤ b ∧ b ≤ S 20 3 - 1) then 1 else if S 18 b ≠ 0 then 2 else 0
def sLantern (S : St) (p : Int) : St := u2 (u2 S 4 (S 20 1) p) 20 1 (S 20 1 + 1)
def sWatch (S : St) (f t g : Int) : St := u2 (wat0 S (S 20 2) f t g) 20 2 (S 20 2 + 1)
def sBoat (S : St) (p b : Int) : St := u2 (boat0 S (S 20 3) p b) 20 3 (S 20 3 + 1)
def sCarry (S : St) (p m : Int) : St := u2 (u2 S 1 p (S 1 p - m)) 20 5 (S 20 5 + m)
def unt (S : St) (b : Int) : Nat → Nat → Nat
  | 0, h => h
  | n + 1, h => if goN S h 18 b = 0 then unt S b n (h + 1) else h
def untR (S : St) (b : Int) : Int := if goN S (unt S b 120 0) 18 b = 1 then (unt S b 120 0 : Int) else -1
def qui (S : St) (q : Int) : Nat → Nat → Nat
  | 0, h => h
  | n + 1, h => if wP (goN S h) q = 0 then h else qui S q n (h + 1)
def quiR (S : St) (q : Int) : Int := if wP (goN S (qui S q 40 0)) q = 0 then (qui S q 40 0 : Int) else -1
def advV (S : St) (b p : Int) : Int := caves (goN (sendS S b p) 40)
def adv (S : St) (b : Int) : Nat → Int × Int
  | 0 => (0, -1)
  | n + 1 => if (adv S b n).2 < advV S b n then ((n : Int), advV S b n) else adv S b n
theorem adv_S (S : St) (b : Int) {j : Int} (h : 0 ≤ j) : adv S b (j + 1).toNat = if (adv S b j.toNat).2 < advV S b j then (j, advV S b j) else adv S b j.toNat := by
  rw [tn_S h]
  show (if (adv S b j.toNat).2 < advV S b ((j.toNat : Nat) : Int) then (((j.toNat : Nat) : Int), advV S b ((j.toNat : Nat) : Int)) else adv S b j.toNat) = _
  rw [tn_c h]
section IZ
variable {p : Program} {l : Launch} {e : Env} {R : Room} {s : State} {m : MethodId} {args : Array Value} {below : List Frame} {meth : Method} {c : Code} {nL : Nat} {cy : Nat → ClassId} {D : va_G} {ad : Nat → Nat → Int → Nat} {A : Nat → Prop} {kc ks : Nat} {Q : State → Prop} {pc : Nat} {lv : List (Option Value)} {st : List Value} {M : Mem} {cc : ByteArray} {ret : Option FieldType} {own : String} {S : St}
theorem r_iz_eq (F : Fx p s m args meth c own cc nL ret cy D ad A) {v lo hi : Int} {off : Int} {tgt : Nat} (d : decode cc pc = .ok (.ifCond .eq off, 3)) (ht : (pc : Int) + off = (tgt : Int)) (kt : ¬ (lo ≤ v ∧ v ≤ hi) → V p l e R s m args below meth c nL cy D ad A kc ks Q tgt lv st M) (kf : (lo ≤ v ∧ v ≤ hi) → V p l e R s m args below meth c nL cy D ad A kc ks Q (pc + 3) lv st M) : V p l e R s m args below meth c nL cy D ad A kc ks Q pc lv (.int (i32 (bi (inn v lo hi))) :: st) M :=
  r_bz_eq F d ht (fun h => kt (inn_f h)) (fun h => kf (inn_t.mp h))
theorem r_iz_ne (F : Fx p s m args meth c own cc nL ret cy D ad A) {v lo hi : Int} {off : Int} {tgt : Nat} (d : decode cc pc = .ok (.ifCond .ne off, 3)) (ht : (pc : Int) + off = (tgt : Int)) (kt : (lo ≤ v ∧ v ≤ hi) → V p l e R s m args below meth c nL cy D ad A kc ks Q tgt lv st M) (kf : ¬ (lo ≤ v ∧ v ≤ hi) → V p l e R s m args below meth c nL cy D ad A kc ks Q (pc + 3) lv st M) : V p l e R s m args below meth c nL cy D ad A kc ks Q pc lv (.int (i32 (bi (inn v lo hi))) :: st) M :=
  r_bz_ne F d ht (fun h => kt (inn_t.mp h)) (fun h => kf (inn_f h))
end IZ
end
section
/-! Sums on longs, means, and what a coast written over is. -/
theorem V.cast {p : Program} {l : Launch} {e : Env} {R : Room} {s : State} {m : MethodId} {args : Array Value} {below : List Frame} {meth : Method} {c : Code} {nL : Nat} {cy : Nat → ClassId} {D : va_G} {ad : Nat → Nat → Int → Nat} {A : Nat → Prop} {kc ks : Nat} {Q : State → Prop} {pc : Nat} {lv : List (Option Value)} {st : List Value} {M M1 : Mem} (h : M = M1) (k : V p l e R s m args below meth c nL cy D ad A kc ks Q pc lv st M1) : V p l e R s m args below meth c nL cy D ad A kc ks Q pc lv st M := h ▸ k
theorem sendS_inv {S : St} (h : Inv S) {b q : Int} (hq : -1 ≤ q ∧ q ≤ 15) : Inv (sendS S b q) := by
  unfold sendS
  exact inv16 (inv17 (inv15 h hq) (by split <;> omega)) (by decide)
theorem sendS_20 {S : St} {b q i : Int} : sendS S b q 20 i = S 20 i := rfl
def stp (d : Int64) (x : Int) : Int64 := d * 31 + (i32 x).toInt64
def dgF (f : Int → Int) : Nat → Int64 → Int64
  | 0, d => d
  | n + 1, d => stp (dgF f n d) (f n)
def dgG (g : Int64 → Int → Int64) : Nat → Int64 → Int64
  | 0, d => d
  | n + 1, d => g (dgG g n d) n
theorem dgF_S (f : Int → Int) (d : Int64) {j : Int} (h : 0 ≤ j) : dgF f (j + 1).toNat d = stp (dgF f j.toNat d) (f j) := by
  rw [tn_S h]
  show stp (dgF f j.toNat d) (f ((j.toNat : Nat) : Int)) = _
  rw [tn_c h]
theorem dgG_S (g : Int64 → Int → Int64) (d : Int64) {j : Int} (h : 0 ≤ j) : dgG g (j + 1).toNat d = g (dgG g j.toNat d) j := by
  rw [tn_S h]
  show g (dgG g j.toNat d) ((j.toNat : Nat) : Int) = _
  rw [tn_c h]
def gP (S : St) (d : Int64) (p : Int) : Int64 := dgF (placeF S p) 5 d
def gK (S : St) (d : Int64) (c : Int) : Int64 := dgF (codeF S (c + 1)) 4 d
def tabF (S : St) (x h : Int) : Int := S 5 (10 * x + h)
def gL (S : St) (d : Int64) (x : Int) : Int64 := dgF (tabF S x) 10 (dgF (lightF S x) 4 d)
def gW (S : St) (d : Int64) (x : Int) : Int64 := dgF (aboutF S x) 5 d
def gB (S : St) (d : Int64) (x : Int) : Int64 := dgF (toldF S x) 7 d
def dC (S : St) : Int64 := dgF (counted S) 11 1669
def dP (S : St) : Int64 := dgG (gP S) 16 (dC S)
def dK (S : St) : Int64 := dgG (gK S) 7 (dP S)
def dL (S : St) : Int64 := dgG (gL S) (S 20 1).toNat (dK S)
def dW (S : St) : Int64 := dgG (gW S) (S 20 2).toNat (dL S)
def dB (S : St) : Int64 := dgG (gB S) (S 20 3).toNat (dW S)
def balF (S : St) (b : Int) : Int := if S 18 b = 0 then S 14 b else 0
def meanF (S : St) : UInt64 := if inF S 0 = 0 then FP.dconst0 else FP.ddiv (FP.i2d (i32 (sm (balF S) (S 20 3).toNat))) (FP.i2d (i32 (inF S 0)))
theorem sm_congr {f g : Int → Int} : ∀ {n : Nat}, (∀ i : Int, 0 ≤ i → i < n → f i = g i) → sm f n = sm g n
  | 0, _ => rfl
  | n + 1, h => by
    show sm f n + f n = sm g n + g n
    rw [sm_congr (fun i h1 h2 => h i h1 (by omega)), h n (by omega) (by omega)]
theorem bal_eq {S : St} (h : Inv S) (n : Nat) : sm (S 14) n = sm (balF S) n := sm_congr fun i _ _ => by
  unfold balF
  split
  · rfl
  · exact h.pg i (by assumption)
theorem sm_bd {f : Int → Int} {B : Int} (h : ∀ i, 0 ≤ f i ∧ f i ≤ B) : ∀ n : Nat, 0 ≤ sm f n ∧ sm f n ≤ B * n
  | 0 => by simp [sm]
  | n + 1 => by
    have h1 := sm_bd h n
    have h2 := h n
    have e : sm f (n + 1) = sm f n + f n := rfl
    have e2 : B * ((n + 1 : Nat) : Int) = B * n + B := by rw [show ((n + 1 : Nat) : Int) = (n : Int) + 1 from rfl, Int.mul_add, Int.mul_one]
    rw [e, e2]
    omega
theorem fp_all : (List.range 121).all (fun a => (List.range 6).all fun b => decide (FP.ddiv (FP.i2d (i32 (a : Int))) (FP.i2d (i32 ((b : Int) + 1))) &&& 0x7fffffffffffffff ≤ 0x7ff0000000000000) && decide (Op.cmpValue (FP.dcmp (FP.ddiv (FP.i2d (i32 (a : Int))) (FP.i2d (i32 ((b : Int) + 1)))) (FP.ddiv (FP.i2d (i32 (a : Int))) (FP.i2d (i32 ((b : Int) + 1))))) .l = 0)) = true := by decide +kernel
theorem fp_two {a b : Int} (h1 : 0 ≤ a ∧ a ≤ 120) (h2 : 1 ≤ b ∧ b ≤ 6) : vf_n64 (FP.ddiv (FP.i2d (i32 a)) (FP.i2d (i32 b))) ∧ Op.cmpValue (FP.dcmp (FP.ddiv (FP.i2d (i32 a)) (FP.i2d (i32 b))) (FP.ddiv (FP.i2d (i32 a)) (FP.i2d (i32 b)))) .l = 0 := by
  have h := List.all_eq_true.mp (List.all_eq_true.mp fp_all a.toNat (List.mem_range.mpr (by omega))) (b - 1).toNat (List.mem_range.mpr (by omega))
  rw [show ((a.toNat : Nat) : Int) = a by omega, show (((b - 1).toNat : Nat) : Int) + 1 = b by omega] at h
  simp only [Bool.and_eq_true, decide_eq_true_eq] at h
  exact h
theorem fp_zero : Op.cmpValue (FP.dcmp FP.dconst0 FP.dconst0) .l = 0 := by decide +kernel
section MEAN
variable {p : Program} {l : Launch} {e : Env} {R : Room} {s : State} {m : MethodId} {args : Array Value} {below : List Frame} {meth : Method} {c : Code} {nL : Nat} {cy : Nat → ClassId} {D : va_G} {ad : Nat → Nat → Int → Nat} {A : Nat → Prop} {kc ks : Nat} {Q : State → Prop} {pc : Nat} {lv : List (Option Value)} {st : List Value} {M : Mem} {cc : ByteArray} {ret : Option FieldType} {own : String} {S : St}
theorem r_i2d (F : Fx p s m args meth c own cc nL ret cy D ad A) {x : Int32} (d : decode cc pc = .ok (.i2d, 1)) (k : V p l e R s m args below meth c nL cy D ad A kc ks Q (pc + 1) lv (.double (FP.i2d x) :: st) M) : V p l e R s m args below meth c nL cy D ad A kc ks Q pc lv (.int x :: st) M := fun H locs ls hP hS hl => lv_i2d F.1 F.2.1 d (k H locs ls hP hS hl)
theorem r_dconst0 (F : Fx p s m args meth c own cc nL ret cy D ad A) (d : decode cc pc = .ok (.dconst 0, 1)) (k : V p l e R s m args below meth c nL cy D ad A kc ks Q (pc + 1) lv (.double FP.dconst0 :: st) M) : V p l e R s m args below meth c nL cy D ad A kc ks Q pc lv st M := fun H locs ls hP hS hl => lv_dconst0 F.1 F.2.1 d (k H locs ls hP hS hl)
theorem r_ddiv (F : Fx p s m args meth c own cc nL ret cy D ad A) {x y : UInt64} (d : decode cc pc = .ok (.ddiv, 1)) (hne : vf_n64 (FP.ddiv x y)) (k : V p l e R s m args below meth c nL cy D ad A kc ks Q (pc + 1) lv (.double (FP.ddiv x y) :: st) M) : V p l e R s m args below meth c nL cy D ad A kc ks Q pc lv (.double y :: .double x :: st) M := fun H locs ls hP hS hl => lv_ddiv F.1 F.2.1 d hne (k H locs ls hP hS hl)
end MEAN
theorem dgF_0 (f : Int → Int) (d : Int64) : dgF f (0 : Int).toNat d = d := rfl
theorem dgG_0 (g : Int64 → Int → Int64) (d : Int64) : dgG g (0 : Int).toNat d = d := rfl
theorem adv_0 (S : St) (b : Int) : adv S b (0 : Int).toNat = (0, -1) := rfl
end
section
/-! Rows of the coast by hand and of the law's own arrays. -/
section FROWS
variable {p : Program} {l : Launch} {e : Env} {R : Room} {s : State} {m : MethodId} {args : Array Value} {below : List Frame} {meth : Method} {c : Code} {nL : Nat} {cy : Nat → ClassId} {D : va_G} {ad : Nat → Nat → Int → Nat} {A : Nat → Prop} {kc ks : Nat} {Q : State → Prop} {pc : Nat} {lv : List (Option Value)} {st : List Value} {M : Mem} {cc : ByteArray} {ret : Option FieldType} {k : Nat} {S : St} {i : Int}
theorem ig_14 {own : String} (F : Fx p s m args meth c own cc nL ret cy D ad A) {a : Int} (d : decode cc pc = .ok (.iaload, 1)) (hs : ad 40 13 0 = 1) (h1 : 0 ≤ a) (h2 : a < 16) (kk : V p l e R s m args below meth c nL cy D ad A kc ks Q (pc + 1) lv (.int (i32 (M 2 0 a)) :: st) (M)) : V p l e R s m args below meth c nL cy D ad A kc ks Q pc lv (.int (i32 a) :: .ref (ad 14 2 0) :: st) (M) := r_iald F d (dm14 hs) (n := 16) (f := fun j => i32 (M 2 0 (j : Int))) rfl h1 h2 (by decide) (by show i32 (M 2 0 ((a.toNat : Nat) : Int)) = _; rw [Int.toNat_of_nonneg h1]) kk
theorem ia_14 {own : String} (F : Fx p s m args meth c own cc nL ret cy D ad A) {a : Int} (d : decode cc pc = .ok (.iaload, 1)) (hs : ad 40 13 0 = 1) (h1 : 0 ≤ a) (h2 : a < 16) (kk : V p l e R s m args below meth c nL cy D ad A kc ks Q (pc + 1) lv (.int (i32 (S 0 a)) :: st) (setc M 2 S)) : V p l e R s m args below meth c nL cy D ad A kc ks Q pc lv (.int (i32 a) :: .ref (ad 14 2 0) :: st) (setc M 2 S) := ig_14 F d hs h1 h2 (by rw [setc_at]; exact kk)
theorem is_14 {own : String} (F : Fx p s m args meth c own cc nL ret cy D ad A) {a v : Int} (d : decode cc pc = .ok (.iastore, 1)) (hs : ad 40 13 0 = 1) (h1 : 0 ≤ a) (h2 : a < 16) (kk : V p l e R s m args below meth c nL cy D ad A kc ks Q (pc + 1) lv st (setc M 2 (u2 S 0 a v))) : V p l e R s m args below meth c nL cy D ad A kc ks Q pc lv (.int (i32 v) :: .int (i32 a) :: .ref (ad 14 2 0) :: st) (setc M 2 S) := by
  refine r_iast F d (dm14 hs) (n := 16) (f := fun j => i32 (S 0 (j : Int))) (by simp only [cel, setc_at]) h1 h2 (by decide) ?_ (oth (by simp [owner])) kk
  simp only [cel, setc_at]
  congr 4
  funext j
  unfold u2 upd
  by_cases hj : j = a.toNat
  · rw [if_pos hj, if_pos ⟨rfl, by omega⟩]
  · rw [if_neg hj, if_neg (fun h => hj (by have := h.2; omega))]
theorem al_14 {own : String} (F : Fx p s m args meth c own cc nL ret cy D ad A) (d : decode cc pc = .ok (.arraylength, 1)) (hs : ad 40 13 0 = 1) (kk : V p l e R s m args below meth c nL cy D ad A kc ks Q (pc + 1) lv (.int (i32 16) :: st) (M)) : V p l e R s m args below meth c nL cy D ad A kc ks Q pc lv (.ref (ad 14 2 0) :: st) (M) := r_alen F d (dm14 hs) (x := (16, .inl (fun j => i32 (M 2 0 (j : Int))))) rfl (tq := 0) rfl kk
theorem ig_15 {own : String} (F : Fx p s m args meth c own cc nL ret cy D ad A) {a : Int} (d : decode cc pc = .ok (.iaload, 1)) (hs : ad 40 13 0 = 1) (h1 : 0 ≤ a) (h2 : a < 16) (kk : V p l e R s m args below meth c nL cy D ad A kc ks Q (pc + 1) lv (.int (i32 (M 2 1 a)) :: st) (M)) : V p l e R s m args below meth c nL cy D ad A kc ks Q pc lv (.int (i32 a) :: .ref (ad 15 2 0) :: st) (M) := r_iald F d (dm15 hs) (n := 16) (f := fun j => i32 (M 2 1 (j : Int))) rfl h1 h2 (by decide) (by show i32 (M 2 1 ((a.toNat : Nat) : Int)) = _; rw [Int.toNat_of_nonneg h1]) kk
theorem ia_15 {own : String} (F : Fx p s m args meth c own cc nL ret cy D ad A) {a : Int} (d : decode cc pc = .ok (.iaload, 1)) (hs : ad 40 13 0 = 1) (h1 : 0 ≤ a) (h2 : a < 16) (kk : V p l e R s m args below meth c nL cy D ad A kc ks Q (pc + 1) lv (.int (i32 (S 1 a)) :: st) (setc M 2 S)) : V p l e R s m args below meth c nL cy D ad A kc ks Q pc lv (.int (i32 a) :: .ref (ad 15 2 0) :: st) (setc M 2 S) := ig_15 F d hs h1 h2 (by rw [setc_at]; exact kk)
theorem is_15 {own : String} (F : Fx p s m args meth c own cc nL ret cy D ad A) {a v : Int} (d : decode cc pc = .ok (.iastore, 1)) (hs : ad 40 13 0 = 1) (h1 : 0 ≤ a) (h2 : a < 16) (kk : V p l e R s m args below meth c nL cy D ad A kc ks Q (pc + 1) lv st (setc M 2 (u2 S 1 a v))) : V p l e R s m args below meth c nL cy D ad A kc ks Q pc lv (.int (i32 v) :: .int (i32 a) :: .ref (ad 15 2 0) :: st) (setc M 2 S) := by
  refine r_iast F d (dm15 hs) (n := 16) (f := fun j => i32 (S 1 (j : Int))) (by simp only [cel, setc_at]) h1 h2 (by decide) ?_ (oth (by simp [owner])) kk
  simp only [cel, setc_at]
  congr 4
  funext j
  unfold u2 upd
  by_cases hj : j = a.toNat
  · rw [if_pos hj, if_pos ⟨rfl, by omega⟩]
  · rw [if_neg hj, if_neg (fun h => hj (by have := h.2; omega))]
theorem al_15 {own : String} (F : Fx p s m args meth c own cc nL ret cy D ad A) (d : decode cc pc = .ok (.arraylength, 1)) (hs : ad 40 13 0 = 1) (kk : V p l e R s m args below meth c nL cy D ad A kc ks Q (pc + 1) lv (.int (i32 16) :: st) (M)) : V p l e R s m args below meth c nL cy D ad A kc ks Q pc lv (.ref (ad 15 2 0) :: st) (M) := r_alen F d (dm15 hs) (x := (16, .inl (fun j => i32 (M 2 1 (j : Int))))) rfl (tq := 0) rfl kk
theorem ig_16 {own : String} (F : Fx p s m args meth c own cc nL ret cy D ad A) {a : Int} (d : decode cc pc = .ok (.iaload, 1)) (hs : ad 40 13 0 = 1) (h1 : 0 ≤ a) (h2 : a < 8) (kk : V p l e R s m args below meth c nL cy D ad A kc ks Q (pc + 1) lv (.int (i32 (M 2 2 a)) :: st) (M)) : V p l e R s m args below meth c nL cy D ad A kc ks Q pc lv (.int (i32 a) :: .ref (ad 16 2 0) :: st) (M) := r_iald F d (dm16 hs) (n := 8) (f := fun j => i32 (M 2 2 (j : Int))) rfl h1 h2 (by decide) (by show i32 (M 2 2 ((a.toNat : Nat) : Int)) = _; rw [Int.toNat_of_nonneg h1]) kk
theorem ia_16 {own : String} (F : Fx p s m args meth c own cc nL ret cy D ad A) {a : Int} (d : decode cc pc = .ok (.iaload, 1)) (hs : ad 40 13 0 = 1) (h1 : 0 ≤ a) (h2 : a < 8) (kk : V p l e R s m args below meth c nL cy D ad A kc ks Q (pc + 1) lv (.int (i32 (S 2 a)) :: st) (setc M 2 S)) : V p l e R s m args below meth c nL cy D ad A kc ks Q pc lv (.int (i32 a) :: .ref (ad 16 2 0) :: st) (setc M 2 S) := ig_16 F d hs h1 h2 (by rw [setc_at]; exact kk)
theorem is_16 {own : String} (F : Fx p s m args meth c own cc nL ret cy D ad A) {a v : Int} (d : decode cc pc = .ok (.iastore, 1)) (hs : ad 40 13 0 = 1) (h1 : 0 ≤ a) (h2 : a < 8) (kk : V p l e R s m args below meth c nL cy D ad A kc ks Q (pc + 1) lv st (setc M 2 (u2 S 2 a v))) : V p l e R s m args below meth c nL cy D ad A kc ks Q pc lv (.int (i32 v) :: .int (i32 a) :: .ref (ad 16 2 0) :: st) (setc M 2 S) := by
  refine r_iast F d (dm16 hs) (n := 8) (f := fun j => i32 (S 2 (j : Int))) (by simp only [cel, setc_at]) h1 h2 (by decide) ?_ (oth (by simp [owner])) kk
  simp only [cel, setc_at]
  congr 4
  funext j
  unfold u2 upd
  by_cases hj : j = a.toNat
  · rw [if_pos hj, if_pos ⟨rfl, by omega⟩]
  · rw [if_neg hj, if_neg (fun h => hj (by have := h.2; omega))]
theorem al_16 {own : String} (F : Fx p s m args meth c own cc nL ret cy D ad A) (d : decode cc pc = .ok (.arraylength, 1)) (hs : ad 40 13 0 = 1) (kk : V p l e R s m args below meth c nL cy D ad A kc ks Q (pc + 1) lv (.int (i32 8) :: st) (M)) : V p l e R s m args below meth c nL cy D ad A kc ks Q pc lv (.ref (ad 16 2 0) :: st) (M) := r_alen F d (dm16 hs) (x := (8, .inl (fun j => i32 (M 2 2 (j : Int))))) rfl (tq := 0) rfl kk
theorem ig_17 {own : String} (F : Fx p s m args meth c own cc nL ret cy D ad A) {a : Int} (d : decode cc pc = .ok (.iaload, 1)) (hs : ad 40 13 0 = 1) (h1 : 0 ≤ a) (h2 : a < 8) (kk : V p l e R s m args below meth c nL cy D ad A kc ks Q (pc + 1) lv (.int (i32 (M 2 3 a)) :: st) (M)) : V p l e R s m args below meth c nL cy D ad A kc ks Q pc lv (.int (i32 a) :: .ref (ad 17 2 0) :: st) (M) := r_iald F d (dm17 hs) (n := 8) (f := fun j => i32 (M 2 3 (j : Int))) rfl h1 h2 (by decide) (by show i32 (M 2 3 ((a.toNat : Nat) : Int)) = _; rw [Int.toNat_of_nonneg h1]) kk
theorem ia_17 {own : String} (F : Fx p s m args meth c own cc nL ret cy D ad A) {a : Int} (d : decode cc pc = .ok (.iaload, 1)) (hs : ad 40 13 0 = 1) (h1 : 0 ≤ a) (h2 : a < 8) (kk : V p l e R s m args below meth c nL cy D ad A kc ks Q (pc + 1) lv (.int (i32 (S 3 a)) :: st) (setc M 2 S)) : V p l e R s m args below meth c nL cy D ad A kc ks Q pc lv (.int (i32 a) :: .ref (ad 17 2 0) :: st) (setc M 2 S) := ig_17 F d hs h1 h2 (by rw [setc_at]; exact kk)
theorem is_17 {own : String} (F : Fx p s m args meth c own cc nL ret cy D ad A) {a v : Int} (d : decode cc pc = .ok (.iastore, 1)) (hs : ad 40 13 0 = 1) (h1 : 0 ≤ a) (h2 : a < 8) (kk : V p l e R s m args below meth c nL cy D ad A kc ks Q (pc + 1) lv st (setc M 2 (u2 S 3 a v))) : V p l e R s m args below meth c nL cy D ad A kc ks Q pc lv (.int (i32 v) :: .int (i32 a) :: .ref (ad 17 2 0) :: st) (setc M 2 S) := by
  refine r_iast F d (dm17 hs) (n := 8) (f := fun j => i32 (S 3 (j : Int))) (by simp only [cel, setc_at]) h1 h2 (by decide) ?_ (oth (by simp [owner])) kk
  simp only [cel, setc_at]
  congr 4
  funext j
  unfold u2 upd
  by_cases hj : j = a.toNat
  · rw [if_pos hj, if_pos ⟨rfl, by omega⟩]
  · rw [if_neg hj, if_neg (fun h => hj (by have := h.2; omega))]
theorem al_17 {own : String} (F : Fx p s m args meth c own cc nL ret cy D ad A) (d : decode cc pc = .ok (.arraylength, 1)) (hs : ad 40 13 0 = 1) (kk : V p l e R s m args below meth c nL cy D ad A kc ks Q (pc + 1) lv (.int (i32 8) :: st) (M)) : V p l e R s m args below meth c nL cy D ad A kc ks Q pc lv (.ref (ad 17 2 0) :: st) (M) := r_alen F d (dm17 hs) (x := (8, .inl (fun j => i32 (M 2 3 (j : Int))))) rfl (tq := 0) rfl kk
theorem aa_18 {own : String} (F : Fx p s m args meth c own cc nL ret cy D ad A) {a : Int} (d : decode cc pc = .ok (.aaload, 1)) (hs : ad 40 13 0 = 1) (h1 : 0 ≤ a) (h2 : a < (ad 41 18 0 : Int)) (h3 : (ad 41 18 0 : Int) < 2147483648) (kk : V p l e R s m args below meth c nL cy D ad A kc ks Q (pc + 1) lv (.ref (ad 21 2 a) :: st) (M)) : V p l e R s m args below meth c nL cy D ad A kc ks Q pc lv (.int (i32 a) :: .ref (ad 18 2 0) :: st) (M) := r_aaldA F d (dm18 hs) (n := ad 41 18 0) (tq := 1) (f := fun j => some (ad 21 2 (j : Int))) rfl rfl h1 h2 (by omega) (by show some (ad 21 2 ((a.toNat : Nat) : Int)) = _; rw [Int.toNat_of_nonneg h1]) kk
theorem al_18 {own : String} (F : Fx p s m args meth c own cc nL ret cy D ad A) {v : Int} (d : decode cc pc = .ok (.arraylength, 1)) (hs : ad 40 13 0 = 1) (hv : (ad 41 18 0 : Int) = v) (kk : V p l e R s m args below meth c nL cy D ad A kc ks Q (pc + 1) lv (.int (i32 v) :: st) (M)) : V p l e R s m args below meth c nL cy D ad A kc ks Q pc lv (.ref (ad 18 2 0) :: st) (M) := r_alen F d (dm18 hs) (x := (ad 41 18 0, .inr (.inr (.inr (.inr (fun j => some (ad 21 2 (j : Int)))))))) rfl (tq := 1) rfl (by subst hv; exact kk)
theorem aa_19 {own : String} (F : Fx p s m args meth c own cc nL ret cy D ad A) {a : Int} (d : decode cc pc = .ok (.aaload, 1)) (hs : ad 40 13 0 = 1) (h1 : 0 ≤ a) (h2 : a < (ad 41 19 0 : Int)) (h3 : (ad 41 19 0 : Int) < 2147483648) (kk : V p l e R s m args below meth c nL cy D ad A kc ks Q (pc + 1) lv (.ref (ad 22 2 a) :: st) (M)) : V p l e R s m args below meth c nL cy D ad A kc ks Q pc lv (.int (i32 a) :: .ref (ad 19 2 0) :: st) (M) := r_aaldA F d (dm19 hs) (n := ad 41 19 0) (tq := 1) (f := fun j => some (ad 22 2 (j : Int))) rfl rfl h1 h2 (by omega) (by show some (ad 22 2 ((a.toNat : Nat) : Int)) = _; rw [Int.toNat_of_nonneg h1]) kk
theorem al_19 {own : String} (F : Fx p s m args meth c own cc nL ret cy D ad A) {v : Int} (d : decode cc pc = .ok (.arraylength, 1)) (hs : ad 40 13 0 = 1) (hv : (ad 41 19 0 : Int) = v) (kk : V p l e R s m args below meth c nL cy D ad A kc ks Q (pc + 1) lv (.int (i32 v) :: st) (M)) : V p l e R s m args below meth c nL cy D ad A kc ks Q pc lv (.ref (ad 19 2 0) :: st) (M) := r_alen F d (dm19 hs) (x := (ad 41 19 0, .inr (.inr (.inr (.inr (fun j => some (ad 22 2 (j : Int)))))))) rfl (tq := 1) rfl (by subst hv; exact kk)
theorem aa_20 {own : String} (F : Fx p s m args meth c own cc nL ret cy D ad A) {a : Int} (d : decode cc pc = .ok (.aaload, 1)) (hs : ad 40 13 0 = 1) (h1 : 0 ≤ a) (h2 : a < (ad 41 20 0 : Int)) (h3 : (ad 41 20 0 : Int) < 2147483648) (kk : V p l e R s m args below meth c nL cy D ad A kc ks Q (pc + 1) lv (.ref (ad 23 2 a) :: st) (M)) : V p l e R s m args below meth c nL cy D ad A kc ks Q pc lv (.int (i32 a) :: .ref (ad 20 2 0) :: st) (M) := r_aaldA F d (dm20 hs) (n := ad 41 20 0) (tq := 1) (f := fun j => some (ad 23 2 (j : Int))) rfl rfl h1 h2 (by omega) (by show some (ad 23 2 ((a.toNat : Nat) : Int)) = _; rw [Int.toNat_of_nonneg h1]) kk
theorem al_20 {own : String} (F : Fx p s m args meth c own cc nL ret cy D ad A) {v : Int} (d : decode cc pc = .ok (.arraylength, 1)) (hs : ad 40 13 0 = 1) (hv : (ad 41 20 0 : Int) = v) (kk : V p l e R s m args below meth c nL cy D ad A kc ks Q (pc + 1) lv (.int (i32 v) :: st) (M)) : V p l e R s m args below meth c nL cy D ad A kc ks Q pc lv (.ref (ad 20 2 0) :: st) (M) := r_alen F d (dm20 hs) (x := (ad 41 20 0, .inr (.inr (.inr (.inr (fun j => some (ad 23 2 (j : Int)))))))) rfl (tq := 1) rfl (by subst hv; exact kk)
theorem ia_21_0 {own : String} (F : Fx p s m args meth c own cc nL ret cy D ad A)  (d : decode cc pc = .ok (.iaload, 1)) (hs : ad 40 13 0 = 1) (h3 : 0 ≤ i) (h4 : i < 5) (h5 : i < (ad 41 18 0 : Int)) (kk : V p l e R s m args below meth c nL cy D ad A kc ks Q (pc + 1) lv (.int (i32 (S 4 i)) :: st) (setc M 2 S)) : V p l e R s m args below meth c nL cy D ad A kc ks Q pc lv (.int (i32 0) :: .ref (ad 21 2 i) :: st) (setc M 2 S) := by
  refine r_iald F d (dm21 hs h3 h4 h5) (n := 12) (f := fun j => i32 (lanV (setc M 2 S) 2 i j)) rfl (by omega) (by omega) (by decide) (v := S 4 i) ?_ kk
  show i32 (lanV (setc M 2 S) 2 i 0) = _; unfold lanV; rw [if_pos rfl, setc_at]
theorem ia_21_11 {own : String} (F : Fx p s m args meth c own cc nL ret cy D ad A)  (d : decode cc pc = .ok (.iaload, 1)) (hs : ad 40 13 0 = 1) (h3 : 0 ≤ i) (h4 : i < 5) (h5 : i < (ad 41 18 0 : Int)) (kk : V p l e R s m args below meth c nL cy D ad A kc ks Q (pc + 1) lv (.int (i32 (S 6 i)) :: st) (setc M 2 S)) : V p l e R s m args below meth c nL cy D ad A kc ks Q pc lv (.int (i32 11) :: .ref (ad 21 2 i) :: st) (setc M 2 S) := by
  refine r_iald F d (dm21 hs h3 h4 h5) (n := 12) (f := fun j => i32 (lanV (setc M 2 S) 2 i j)) rfl (by omega) (by omega) (by decide) (v := S 6 i) ?_ kk
  show i32 (lanV (setc M 2 S) 2 i 11) = _; unfold lanV; rw [if_neg (by decide), if_neg (by decide), if_pos rfl, setc_at]
theorem ia_21_t {own : String} (F : Fx p s m args meth c own cc nL ret cy D ad A) {a : Int} (ha : 0 ≤ a ∧ a < 10) (d : decode cc pc = .ok (.iaload, 1)) (hs : ad 40 13 0 = 1) (h3 : 0 ≤ i) (h4 : i < 5) (h5 : i < (ad 41 18 0 : Int)) (kk : V p l e R s m args below meth c nL cy D ad A kc ks Q (pc + 1) lv (.int (i32 (S 5 (10 * i + a))) :: st) (setc M 2 S)) : V p l e R s m args below meth c nL cy D ad A kc ks Q pc lv (.int (i32 (1 + a)) :: .ref (ad 21 2 i) :: st) (setc M 2 S) := by
  refine r_iald F d (dm21 hs h3 h4 h5) (n := 12) (f := fun j => i32 (lanV (setc M 2 S) 2 i j)) rfl (by omega) (by omega) (by decide) (v := S 5 (10 * i + a)) ?_ kk
  show i32 (lanV (setc M 2 S) 2 i (1 + a).toNat) = _; unfold lanV; rw [if_neg (by omega), if_pos (by omega), setc_at, show (((1 + a).toNat : Nat) : Int) - 1 = a by omega]
theorem ia_22_0 {own : String} (F : Fx p s m args meth c own cc nL ret cy D ad A)  (d : decode cc pc = .ok (.iaload, 1)) (hs : ad 40 13 0 = 1) (h3 : 0 ≤ i) (h4 : i < 4) (h5 : i < (ad 41 19 0 : Int)) (kk : V p l e R s m args below meth c nL cy D ad A kc ks Q (pc + 1) lv (.int (i32 (S 7 i)) :: st) (setc M 2 S)) : V p l e R s m args below meth c nL cy D ad A kc ks Q pc lv (.int (i32 0) :: .ref (ad 22 2 i) :: st) (setc M 2 S) := by
  refine r_iald F d (dm22 hs h3 h4 h5) (n := 6) (f := fun j => i32 (watV (setc M 2 S) 2 i j)) rfl (by omega) (by omega) (by decide) (v := S 7 i) ?_ kk
  show i32 (watV (setc M 2 S) 2 i 0) = _; unfold watV; rw [if_pos (by decide), setc_at]
theorem ia_22_1 {own : String} (F : Fx p s m args meth c own cc nL ret cy D ad A)  (d : decode cc pc = .ok (.iaload, 1)) (hs : ad 40 13 0 = 1) (h3 : 0 ≤ i) (h4 : i < 4) (h5 : i < (ad 41 19 0 : Int)) (kk : V p l e R s m args below meth c nL cy D ad A kc ks Q (pc + 1) lv (.int (i32 (S 8 i)) :: st) (setc M 2 S)) : V p l e R s m args below meth c nL cy D ad A kc ks Q pc lv (.int (i32 1) :: .ref (ad 22 2 i) :: st) (setc M 2 S) := by
  refine r_iald F d (dm22 hs h3 h4 h5) (n := 6) (f := fun j => i32 (watV (setc M 2 S) 2 i j)) rfl (by omega) (by omega) (by decide) (v := S 8 i) ?_ kk
  show i32 (watV (setc M 2 S) 2 i 1) = _; unfold watV; rw [if_pos (by decide), setc_at]
theorem ia_22_2 {own : String} (F : Fx p s m args meth c own cc nL ret cy D ad A)  (d : decode cc pc = .ok (.iaload, 1)) (hs : ad 40 13 0 = 1) (h3 : 0 ≤ i) (h4 : i < 4) (h5 : i < (ad 41 19 0 : Int)) (kk : V p l e R s m args below meth c nL cy D ad A kc ks Q (pc + 1) lv (.int (i32 (S 9 i)) :: st) (setc M 2 S)) : V p l e R s m args below meth c nL cy D ad A kc ks Q pc lv (.int (i32 2) :: .ref (ad 22 2 i) :: st) (setc M 2 S) := by
  refine r_iald F d (dm22 hs h3 h4 h5) (n := 6) (f := fun j => i32 (watV (setc M 2 S) 2 i j)) rfl (by omega) (by omega) (by decide) (v := S 9 i) ?_ kk
  show i32 (watV (setc M 2 S) 2 i 2) = _; unfold watV; rw [if_pos (by decide), setc_at]
theorem ia_22_3 {own : String} (F : Fx p s m args meth c own cc nL ret cy D ad A)  (d : decode cc pc = .ok (.iaload, 1)) (hs : ad 40 13 0 = 1) (h3 : 0 ≤ i) (h4 : i < 4) (h5 : i < (ad 41 19 0 : Int)) (kk : V p l e R s m args below meth c nL cy D ad A kc ks Q (pc + 1) lv (.int (i32 (S 10 i)) :: st) (setc M 2 S)) : V p l e R s m args below meth c nL cy D ad A kc ks Q pc lv (.int (i32 3) :: .ref (ad 22 2 i) :: st) (setc M 2 S) := by
  refine r_iald F d (dm22 hs h3 h4 h5) (n := 6) (f := fun j => i32 (watV (setc M 2 S) 2 i j)) rfl (by omega) (by omega) (by decide) (v := S 10 i) ?_ kk
  show i32 (watV (setc M 2 S) 2 i 3) = _; unfold watV; rw [if_pos (by decide), setc_at]
theorem ia_22_4 {own : String} (F : Fx p s m args meth c own cc nL ret cy D ad A)  (d : decode cc pc = .ok (.iaload, 1)) (hs : ad 40 13 0 = 1) (h3 : 0 ≤ i) (h4 : i < 4) (h5 : i < (ad 41 19 0 : Int)) (kk : V p l e R s m args below meth c nL cy D ad A kc ks Q (pc + 1) lv (.int (i32 (S 11 i)) :: st) (setc M 2 S)) : V p l e R s m args below meth c nL cy D ad A kc ks Q pc lv (.int (i32 4) :: .ref (ad 22 2 i) :: st) (setc M 2 S) := by
  refine r_iald F d (dm22 hs h3 h4 h5) (n := 6) (f := fun j => i32 (watV (setc M 2 S) 2 i j)) rfl (by omega) (by omega) (by decide) (v := S 11 i) ?_ kk
  show i32 (watV (setc M 2 S) 2 i 4) = _; unfold watV; rw [if_pos (by decide), setc_at]
theorem ia_22_5 {own : String} (F : Fx p s m args meth c own cc nL ret cy D ad A)  (d : decode cc pc = .ok (.iaload, 1)) (hs : ad 40 13 0 = 1) (h3 : 0 ≤ i) (h4 : i < 4) (h5 : i < (ad 41 19 0 : Int)) (kk : V p l e R s m args below meth c nL cy D ad A kc ks Q (pc + 1) lv (.int (i32 (S 12 i)) :: st) (setc M 2 S)) : V p l e R s m args below meth c nL cy D ad A kc ks Q pc lv (.int (i32 5) :: .ref (ad 22 2 i) :: st) (setc M 2 S) := by
  refine r_iald F d (dm22 hs h3 h4 h5) (n := 6) (f := fun j => i32 (watV (setc M 2 S) 2 i j)) rfl (by omega) (by omega) (by decide) (v := S 12 i) ?_ kk
  show i32 (watV (setc M 2 S) 2 i 5) = _; unfold watV; rw [if_pos (by decide), setc_at]
theorem ia_23_0 {own : String} (F : Fx p s m args meth c own cc nL ret cy D ad A)  (d : decode cc pc = .ok (.iaload, 1)) (hs : ad 40 13 0 = 1) (h3 : 0 ≤ i) (h4 : i < 6) (h5 : i < (ad 41 20 0 : Int)) (kk : V p l e R s m args below meth c nL cy D ad A kc ks Q (pc + 1) lv (.int (i32 (S 13 i)) :: st) (setc M 2 S)) : V p l e R s m args below meth c nL cy D ad A kc ks Q pc lv (.int (i32 0) :: .ref (ad 23 2 i) :: st) (setc M 2 S) := by
  refine r_iald F d (dm23 hs h3 h4 h5) (n := 7) (f := fun j => i32 (boaV (setc M 2 S) 2 i j)) rfl (by omega) (by omega) (by decide) (v := S 13 i) ?_ kk
  show i32 (boaV (setc M 2 S) 2 i 0) = _; unfold boaV; rw [if_pos (by decide), setc_at]; rfl
theorem ia_23_1 {own : String} (F : Fx p s m args meth c own cc nL ret cy D ad A)  (d : decode cc pc = .ok (.iaload, 1)) (hs : ad 40 13 0 = 1) (h3 : 0 ≤ i) (h4 : i < 6) (h5 : i < (ad 41 20 0 : Int)) (kk : V p l e R s m args below meth c nL cy D ad A kc ks Q (pc + 1) lv (.int (i32 (S 14 i)) :: st) (setc M 2 S)) : V p l e R s m args below meth c nL cy D ad A kc ks Q pc lv (.int (i32 1) :: .ref (ad 23 2 i) :: st) (setc M 2 S) := by
  refine r_iald F d (dm23 hs h3 h4 h5) (n := 7) (f := fun j => i32 (boaV (setc M 2 S) 2 i j)) rfl (by omega) (by omega) (by decide) (v := S 14 i) ?_ kk
  show i32 (boaV (setc M 2 S) 2 i 1) = _; unfold boaV; rw [if_pos (by decide), setc_at]; rfl
theorem ia_23_2 {own : String} (F : Fx p s m args meth c own cc nL ret cy D ad A)  (d : decode cc pc = .ok (.iaload, 1)) (hs : ad 40 13 0 = 1) (h3 : 0 ≤ i) (h4 : i < 6) (h5 : i < (ad 41 20 0 : Int)) (kk : V p l e R s m args below meth c nL cy D ad A kc ks Q (pc + 1) lv (.int (i32 (S 15 i)) :: st) (setc M 2 S)) : V p l e R s m args below meth c nL cy D ad A kc ks Q pc lv (.int (i32 2) :: .ref (ad 23 2 i) :: st) (setc M 2 S) := by
  refine r_iald F d (dm23 hs h3 h4 h5) (n := 7) (f := fun j => i32 (boaV (setc M 2 S) 2 i j)) rfl (by omega) (by omega) (by decide) (v := S 15 i) ?_ kk
  show i32 (boaV (setc M 2 S) 2 i 2) = _; unfold boaV; rw [if_pos (by decide), setc_at]; rfl
theorem ia_23_3 {own : String} (F : Fx p s m args meth c own cc nL ret cy D ad A)  (d : decode cc pc = .ok (.iaload, 1)) (hs : ad 40 13 0 = 1) (h3 : 0 ≤ i) (h4 : i < 6) (h5 : i < (ad 41 20 0 : Int)) (kk : V p l e R s m args below meth c nL cy D ad A kc ks Q (pc + 1) lv (.int (i32 (fm (S 18 i))) :: st) (setc M 2 S)) : V p l e R s m args below meth c nL cy D ad A kc ks Q pc lv (.int (i32 3) :: .ref (ad 23 2 i) :: st) (setc M 2 S) := by
  refine r_iald F d (dm23 hs h3 h4 h5) (n := 7) (f := fun j => i32 (boaV (setc M 2 S) 2 i j)) rfl (by omega) (by omega) (by decide) (v := fm (S 18 i)) ?_ kk
  show i32 (boaV (setc M 2 S) 2 i 3) = _; unfold boaV; rw [if_pos (by decide), setc_at]; rfl
theorem ia_23_4 {own : String} (F : Fx p s m args meth c own cc nL ret cy D ad A)  (d : decode cc pc = .ok (.iaload, 1)) (hs : ad 40 13 0 = 1) (h3 : 0 ≤ i) (h4 : i < 6) (h5 : i < (ad 41 20 0 : Int)) (kk : V p l e R s m args below meth c nL cy D ad A kc ks Q (pc + 1) lv (.int (i32 (S 19 i)) :: st) (setc M 2 S)) : V p l e R s m args below meth c nL cy D ad A kc ks Q pc lv (.int (i32 4) :: .ref (ad 23 2 i) :: st) (setc M 2 S) := by
  refine r_iald F d (dm23 hs h3 h4 h5) (n := 7) (f := fun j => i32 (boaV (setc M 2 S) 2 i j)) rfl (by omega) (by omega) (by decide) (v := S 19 i) ?_ kk
  show i32 (boaV (setc M 2 S) 2 i 4) = _; unfold boaV; rw [if_pos (by decide), setc_at]; rfl
theorem ia_23_5 {own : String} (F : Fx p s m args meth c own cc nL ret cy D ad A)  (d : decode cc pc = .ok (.iaload, 1)) (hs : ad 40 13 0 = 1) (h3 : 0 ≤ i) (h4 : i < 6) (h5 : i < (ad 41 20 0 : Int)) (kk : V p l e R s m args below meth c nL cy D ad A kc ks Q (pc + 1) lv (.int (i32 (S 16 i)) :: st) (setc M 2 S)) : V p l e R s m args below meth c nL cy D ad A kc ks Q pc lv (.int (i32 5) :: .ref (ad 23 2 i) :: st) (setc M 2 S) := by
  refine r_iald F d (dm23 hs h3 h4 h5) (n := 7) (f := fun j => i32 (boaV (setc M 2 S) 2 i j)) rfl (by omega) (by omega) (by decide) (v := S 16 i) ?_ kk
  show i32 (boaV (setc M 2 S) 2 i 5) = _; unfold boaV; rw [if_pos (by decide), setc_at]; rfl
theorem ia_23_6 {own : String} (F : Fx p s m args meth c own cc nL ret cy D ad A)  (d : decode cc pc = .ok (.iaload, 1)) (hs : ad 40 13 0 = 1) (h3 : 0 ≤ i) (h4 : i < 6) (h5 : i < (ad 41 20 0 : Int)) (kk : V p l e R s m args below meth c nL cy D ad A kc ks Q (pc + 1) lv (.int (i32 (S 17 i)) :: st) (setc M 2 S)) : V p l e R s m args below meth c nL cy D ad A kc ks Q pc lv (.int (i32 6) :: .ref (ad 23 2 i) :: st) (setc M 2 S) := by
  refine r_iald F d (dm23 hs h3 h4 h5) (n := 7) (f := fun j => i32 (boaV (setc M 2 S) 2 i j)) rfl (by omega) (by omega) (by decide) (v := S 17 i) ?_ kk
  show i32 (boaV (setc M 2 S) 2 i 6) = _; unfold boaV; rw [if_pos (by decide), setc_at]; rfl
theorem is_21_11 {own : String} (F : Fx p s m args meth c own cc nL ret cy D ad A) {v : Int}  (d : decode cc pc = .ok (.iastore, 1)) (hs : ad 40 13 0 = 1) (h3 : 0 ≤ i) (h4 : i < 5) (h5 : i < (ad 41 18 0 : Int)) (kk : V p l e R s m args below meth c nL cy D ad A kc ks Q (pc + 1) lv st (setc M 2 (u2 S 6 i v))) : V p l e R s m args below meth c nL cy D ad A kc ks Q pc lv (.int (i32 v) :: .int (i32 11) :: .ref (ad 21 2 i) :: st) (setc M 2 S) := by
  refine r_iast F d (dm21 hs h3 h4 h5) (n := 12) (f := fun j => i32 (lanV (setc M 2 S) 2 i j)) rfl (by omega) (by omega) (by decide) ?_ (oth (by simp [owner])) kk
  simp only [cel]
  congr 4
  funext j
  unfold upd
  by_cases hj : j = (11 : Int).toNat
  · rw [if_pos hj]
    unfold lanV
    rw [if_neg (by omega), if_neg (by omega), if_pos (by omega), setc_at, u2_at]
  · rw [if_neg hj]
    dsimp only
    unfold lanV
    simp only [setc_at]
    by_cases h0 : j = 0
    · rw [if_pos h0, if_pos h0, u2_k (by decide)]
    · rw [if_neg h0, if_neg h0]
      by_cases h1 : j < 11
      · rw [if_pos h1, if_pos h1, u2_k (by decide)]
      · rw [if_neg h1, if_neg h1, if_neg (by omega), if_neg (by omega)]
theorem is_21_t {own : String} (F : Fx p s m args meth c own cc nL ret cy D ad A) {v : Int} {a : Int} (ha : 0 ≤ a ∧ a < 10) (d : decode cc pc = .ok (.iastore, 1)) (hs : ad 40 13 0 = 1) (h3 : 0 ≤ i) (h4 : i < 5) (h5 : i < (ad 41 18 0 : Int)) (kk : V p l e R s m args below meth c nL cy D ad A kc ks Q (pc + 1) lv st (setc M 2 (u2 S 5 (10 * i + a) v))) : V p l e R s m args below meth c nL cy D ad A kc ks Q pc lv (.int (i32 v) :: .int (i32 (1 + a)) :: .ref (ad 21 2 i) :: st) (setc M 2 S) := by
  refine r_iast F d (dm21 hs h3 h4 h5) (n := 12) (f := fun j => i32 (lanV (setc M 2 S) 2 i j)) rfl (by omega) (by omega) (by decide) ?_ (oth (by simp [owner]; omega)) kk
  simp only [cel]
  congr 4
  funext j
  unfold upd
  by_cases hj : j = (1 + a).toNat
  · rw [if_pos hj]
    unfold lanV
    rw [if_neg (by omega), if_pos (by omega), setc_at, show 10 * i + ((j : Int) - 1) = 10 * i + a by omega, u2_at]
  · rw [if_neg hj]
    dsimp only
    unfold lanV
    simp only [setc_at]
    by_cases h0 : j = 0
    · rw [if_pos h0, if_pos h0, u2_k (by decide)]
    · rw [if_neg h0, if_neg h0]
      by_cases h1 : j < 11
      · rw [if_pos h1, if_pos h1, u2_i (by omega)]
      · rw [if_neg h1, if_neg h1, u2_k (by decide)]
theorem is_22_0 {own : String} (F : Fx p s m args meth c own cc nL ret cy D ad A) {v : Int}  (d : decode cc pc = .ok (.iastore, 1)) (hs : ad 40 13 0 = 1) (h3 : 0 ≤ i) (h4 : i < 4) (h5 : i < (ad 41 19 0 : Int)) (kk : V p l e R s m args below meth c nL cy D ad A kc ks Q (pc + 1) lv st (setc M 2 (u2 S 7 i v))) : V p l e R s m args below meth c nL cy D ad A kc ks Q pc lv (.int (i32 v) :: .int (i32 0) :: .ref (ad 22 2 i) :: st) (setc M 2 S) := by
  refine r_iast F d (dm22 hs h3 h4 h5) (n := 6) (f := fun j => i32 (watV (setc M 2 S) 2 i j)) rfl (by omega) (by omega) (by decide) ?_ (oth (by simp [owner])) kk
  simp only [cel]
  congr 4
  funext j
  unfold upd
  by_cases hj : j = (0 : Int).toNat
  · rw [if_pos hj]
    unfold watV
    rw [if_pos (by omega), setc_at, show 7 + j = 7 by omega, u2_at]
  · rw [if_neg hj]
    dsimp only
    unfold watV
    simp only [setc_at]
    by_cases h0 : j < 6
    · rw [if_pos h0, if_pos h0, u2_k (by omega)]
    · rw [if_neg h0, if_neg h0]
theorem is_22_1 {own : String} (F : Fx p s m args meth c own cc nL ret cy D ad A) {v : Int}  (d : decode cc pc = .ok (.iastore, 1)) (hs : ad 40 13 0 = 1) (h3 : 0 ≤ i) (h4 : i < 4) (h5 : i < (ad 41 19 0 : Int)) (kk : V p l e R s m args below meth c nL cy D ad A kc ks Q (pc + 1) lv st (setc M 2 (u2 S 8 i v))) : V p l e R s m args below meth c nL cy D ad A kc ks Q pc lv (.int (i32 v) :: .int (i32 1) :: .ref (ad 22 2 i) :: st) (setc M 2 S) := by
  refine r_iast F d (dm22 hs h3 h4 h5) (n := 6) (f := fun j => i32 (watV (setc M 2 S) 2 i j)) rfl (by omega) (by omega) (by decide) ?_ (oth (by simp [owner])) kk
  simp only [cel]
  congr 4
  funext j
  unfold upd
  by_cases hj : j = (1 : Int).toNat
  · rw [if_pos hj]
    unfold watV
    rw [if_pos (by omega), setc_at, show 7 + j = 8 by omega, u2_at]
  · rw [if_neg hj]
    dsimp only
    unfold watV
    simp only [setc_at]
    by_cases h0 : j < 6
    · rw [if_pos h0, if_pos h0, u2_k (by omega)]
    · rw [if_neg h0, if_neg h0]
theorem is_22_2 {own : String} (F : Fx p s m args meth c own cc nL ret cy D ad A) {v : Int}  (d : decode cc pc = .ok (.iastore, 1)) (hs : ad 40 13 0 = 1) (h3 : 0 ≤ i) (h4 : i < 4) (h5 : i < (ad 41 19 0 : Int)) (kk : V p l e R s m args below meth c nL cy D ad A kc ks Q (pc + 1) lv st (setc M 2 (u2 S 9 i v))) : V p l e R s m args below meth c nL cy D ad A kc ks Q pc lv (.int (i32 v) :: .int (i32 2) :: .ref (ad 22 2 i) :: st) (setc M 2 S) := by
  refine r_iast F d (dm22 hs h3 h4 h5) (n := 6) (f := fun j => i32 (watV (setc M 2 S) 2 i j)) rfl (by omega) (by omega) (by decide) ?_ (oth (by simp [owner])) kk
  simp only [cel]
  congr 4
  funext j
  unfold upd
  by_cases hj : j = (2 : Int).toNat
  · rw [if_pos hj]
    unfold watV
    rw [if_pos (by omega), setc_at, show 7 + j = 9 by omega, u2_at]
  · rw [if_neg hj]
    dsimp only
    unfold watV
    simp only [setc_at]
    by_cases h0 : j < 6
    · rw [if_pos h0, if_pos h0, u2_k (by omega)]
    · rw [if_neg h0, if_neg h0]
theorem is_22_3 {own : String} (F : Fx p s m args meth c own cc nL ret cy D ad A) {v : Int}  (d : decode cc pc = .ok (.iastore, 1)) (hs : ad 40 13 0 = 1) (h3 : 0 ≤ i) (h4 : i < 4) (h5 : i < (ad 41 19 0 : Int)) (kk : V p l e R s m args below meth c nL cy D ad A kc ks Q (pc + 1) lv st (setc M 2 (u2 S 10 i v))) : V p l e R s m args below meth c nL cy D ad A kc ks Q pc lv (.int (i32 v) :: .int (i32 3) :: .ref (ad 22 2 i) :: st) (setc M 2 S) := by
  refine r_iast F d (dm22 hs h3 h4 h5) (n := 6) (f := fun j => i32 (watV (setc M 2 S) 2 i j)) rfl (by omega) (by omega) (by decide) ?_ (oth (by simp [owner])) kk
  simp only [cel]
  congr 4
  funext j
  unfold upd
  by_cases hj : j = (3 : Int).toNat
  · rw [if_pos hj]
    unfold watV
    rw [if_pos (by omega), setc_at, show 7 + j = 10 by omega, u2_at]
  · rw [if_neg hj]
    dsimp only
    unfold watV
    simp only [setc_at]
    by_cases h0 : j < 6
    · rw [if_pos h0, if_pos h0, u2_k (by omega)]
    · rw [if_neg h0, if_neg h0]
theorem is_22_4 {own : String} (F : Fx p s m args meth c own cc nL ret cy D ad A) {v : Int}  (d : decode cc pc = .ok (.iastore, 1)) (hs : ad 40 13 0 = 1) (h3 : 0 ≤ i) (h4 : i < 4) (h5 : i < (ad 41 19 0 : Int)) (kk : V p l e R s m args below meth c nL cy D ad A kc ks Q (pc + 1) lv st (setc M 2 (u2 S 11 i v))) : V p l e R s m args below meth c nL cy D ad A kc ks Q pc lv (.int (i32 v) :: .int (i32 4) :: .ref (ad 22 2 i) :: st) (setc M 2 S) := by
  refine r_iast F d (dm22 hs h3 h4 h5) (n := 6) (f := fun j => i32 (watV (setc M 2 S) 2 i j)) rfl (by omega) (by omega) (by decide) ?_ (oth (by simp [owner])) kk
  simp only [cel]
  congr 4
  funext j
  unfold upd
  by_cases hj : j = (4 : Int).toNat
  · rw [if_pos hj]
    unfold watV
    rw [if_pos (by omega), setc_at, show 7 + j = 11 by omega, u2_at]
  · rw [if_neg hj]
    dsimp only
    unfold watV
    simp only [setc_at]
    by_cases h0 : j < 6
    · rw [if_pos h0, if_pos h0, u2_k (by omega)]
    · rw [if_neg h0, if_neg h0]
theorem is_22_5 {own : String} (F : Fx p s m args meth c own cc nL ret cy D ad A) {v : Int}  (d : decode cc pc = .ok (.iastore, 1)) (hs : ad 40 13 0 = 1) (h3 : 0 ≤ i) (h4 : i < 4) (h5 : i < (ad 41 19 0 : Int)) (kk : V p l e R s m args below meth c nL cy D ad A kc ks Q (pc + 1) lv st (setc M 2 (u2 S 12 i v))) : V p l e R s m args below meth c nL cy D ad A kc ks Q pc lv (.int (i32 v) :: .int (i32 5) :: .ref (ad 22 2 i) :: st) (setc M 2 S) := by
  refine r_iast F d (dm22 hs h3 h4 h5) (n := 6) (f := fun j => i32 (watV (setc M 2 S) 2 i j)) rfl (by omega) (by omega) (by decide) ?_ (oth (by simp [owner])) kk
  simp only [cel]
  congr 4
  funext j
  unfold upd
  by_cases hj : j = (5 : Int).toNat
  · rw [if_pos hj]
    unfold watV
    rw [if_pos (by omega), setc_at, show 7 + j = 12 by omega, u2_at]
  · rw [if_neg hj]
    dsimp only
    unfold watV
    simp only [setc_at]
    by_cases h0 : j < 6
    · rw [if_pos h0, if_pos h0, u2_k (by omega)]
    · rw [if_neg h0, if_neg h0]
theorem is_23_0 {own : String} (F : Fx p s m args meth c own cc nL ret cy D ad A) {v : Int}  (d : decode cc pc = .ok (.iastore, 1)) (hs : ad 40 13 0 = 1) (h3 : 0 ≤ i) (h4 : i < 6) (h5 : i < (ad 41 20 0 : Int)) (kk : V p l e R s m args below meth c nL cy D ad A kc ks Q (pc + 1) lv st (setc M 2 (u2 S 13 i v))) : V p l e R s m args below meth c nL cy D ad A kc ks Q pc lv (.int (i32 v) :: .int (i32 0) :: .ref (ad 23 2 i) :: st) (setc M 2 S) := by
  refine r_iast F d (dm23 hs h3 h4 h5) (n := 7) (f := fun j => i32 (boaV (setc M 2 S) 2 i j)) rfl (by omega) (by omega) (by decide) ?_ (oth (by simp [owner])) kk
  simp only [cel]
  congr 4
  funext j
  unfold upd
  by_cases hj : j = (0 : Int).toNat
  · subst hj
    rw [if_pos rfl]
    show i32 (boaV _ 2 i 0) = i32 _
    unfold boaV
    rw [if_pos (by decide), setc_at]
    show i32 (bv 0 (u2 S 13 i v 13 i)) = i32 _
    rw [u2_at]
    rfl
  · rw [if_neg hj]
    dsimp only
    unfold boaV
    simp only [setc_at]
    by_cases h0 : j < 7
    · rw [if_pos h0, if_pos h0]
      have hne : bk j ≠ 13 := by
        have : j = 0 ∨ j = 1 ∨ j = 2 ∨ j = 3 ∨ j = 4 ∨ j = 5 ∨ j = 6 := by omega
        rcases this with rfl | rfl | rfl | rfl | rfl | rfl | rfl <;> first | decide | exact absurd rfl hj
      rw [u2_k hne]
    · rw [if_neg h0, if_neg h0]
theorem is_23_1 {own : String} (F : Fx p s m args meth c own cc nL ret cy D ad A) {v : Int}  (d : decode cc pc = .ok (.iastore, 1)) (hs : ad 40 13 0 = 1) (h3 : 0 ≤ i) (h4 : i < 6) (h5 : i < (ad 41 20 0 : Int)) (kk : V p l e R s m args below meth c nL cy D ad A kc ks Q (pc + 1) lv st (setc M 2 (u2 S 14 i v))) : V p l e R s m args below meth c nL cy D ad A kc ks Q pc lv (.int (i32 v) :: .int (i32 1) :: .ref (ad 23 2 i) :: st) (setc M 2 S) := by
  refine r_iast F d (dm23 hs h3 h4 h5) (n := 7) (f := fun j => i32 (boaV (setc M 2 S) 2 i j)) rfl (by omega) (by omega) (by decide) ?_ (oth (by simp [owner])) kk
  simp only [cel]
  congr 4
  funext j
  unfold upd
  by_cases hj : j = (1 : Int).toNat
  · subst hj
    rw [if_pos rfl]
    show i32 (boaV _ 2 i 1) = i32 _
    unfold boaV
    rw [if_pos (by decide), setc_at]
    show i32 (bv 1 (u2 S 14 i v 14 i)) = i32 _
    rw [u2_at]
    rfl
  · rw [if_neg hj]
    dsimp only
    unfold boaV
    simp only [setc_at]
    by_cases h0 : j < 7
    · rw [if_pos h0, if_pos h0]
      have hne : bk j ≠ 14 := by
        have : j = 0 ∨ j = 1 ∨ j = 2 ∨ j = 3 ∨ j = 4 ∨ j = 5 ∨ j = 6 := by omega
        rcases this with rfl | rfl | rfl | rfl | rfl | rfl | rfl <;> first | decide | exact absurd rfl hj
      rw [u2_k hne]
    · rw [if_neg h0, if_neg h0]
theorem is_23_2 {own : String} (F : Fx p s m args meth c own cc nL ret cy D ad A) {v : Int}  (d : decode cc pc = .ok (.iastore, 1)) (hs : ad 40 13 0 = 1) (h3 : 0 ≤ i) (h4 : i < 6) (h5 : i < (ad 41 20 0 : Int)) (kk : V p l e R s m args below meth c nL cy D ad A kc ks Q (pc + 1) lv st (setc M 2 (u2 S 15 i v))) : V p l e R s m args below meth c nL cy D ad A kc ks Q pc lv (.int (i32 v) :: .int (i32 2) :: .ref (ad 23 2 i) :: st) (setc M 2 S) := by
  refine r_iast F d (dm23 hs h3 h4 h5) (n := 7) (f := fun j => i32 (boaV (setc M 2 S) 2 i j)) rfl (by omega) (by omega) (by decide) ?_ (oth (by simp [owner])) kk
  simp only [cel]
  congr 4
  funext j
  unfold upd
  by_cases hj : j = (2 : Int).toNat
  · subst hj
    rw [if_pos rfl]
    show i32 (boaV _ 2 i 2) = i32 _
    unfold boaV
    rw [if_pos (by decide), setc_at]
    show i32 (bv 2 (u2 S 15 i v 15 i)) = i32 _
    rw [u2_at]
    rfl
  · rw [if_neg hj]
    dsimp only
    unfold boaV
    simp only [setc_at]
    by_cases h0 : j < 7
    · rw [if_pos h0, if_pos h0]
      have hne : bk j ≠ 15 := by
        have : j = 0 ∨ j = 1 ∨ j = 2 ∨ j = 3 ∨ j = 4 ∨ j = 5 ∨ j = 6 := by omega
        rcases this with rfl | rfl | rfl | rfl | rfl | rfl | rfl <;> first | decide | exact absurd rfl hj
      rw [u2_k hne]
    · rw [if_neg h0, if_neg h0]
theorem is_23_4 {own : String} (F : Fx p s m args meth c own cc nL ret cy D ad A) {v : Int}  (d : decode cc pc = .ok (.iastore, 1)) (hs : ad 40 13 0 = 1) (h3 : 0 ≤ i) (h4 : i < 6) (h5 : i < (ad 41 20 0 : Int)) (kk : V p l e R s m args below meth c nL cy D ad A kc ks Q (pc + 1) lv st (setc M 2 (u2 S 19 i v))) : V p l e R s m args below meth c nL cy D ad A kc ks Q pc lv (.int (i32 v) :: .int (i32 4) :: .ref (ad 23 2 i) :: st) (setc M 2 S) := by
  refine r_iast F d (dm23 hs h3 h4 h5) (n := 7) (f := fun j => i32 (boaV (setc M 2 S) 2 i j)) rfl (by omega) (by omega) (by decide) ?_ (oth (by simp [owner])) kk
  simp only [cel]
  congr 4
  funext j
  unfold upd
  by_cases hj : j = (4 : Int).toNat
  · subst hj
    rw [if_pos rfl]
    show i32 (boaV _ 2 i 4) = i32 _
    unfold boaV
    rw [if_pos (by decide), setc_at]
    show i32 (bv 4 (u2 S 19 i v 19 i)) = i32 _
    rw [u2_at]
    rfl
  · rw [if_neg hj]
    dsimp only
    unfold boaV
    simp only [setc_at]
    by_cases h0 : j < 7
    · rw [if_pos h0, if_pos h0]
      have hne : bk j ≠ 19 := by
        have : j = 0 ∨ j = 1 ∨ j = 2 ∨ j = 3 ∨ j = 4 ∨ j = 5 ∨ j = 6 := by omega
        rcases this with rfl | rfl | rfl | rfl | rfl | rfl | rfl <;> first | decide | exact absurd rfl hj
      rw [u2_k hne]
    · rw [if_neg h0, if_neg h0]
theorem is_23_5 {own : String} (F : Fx p s m args meth c own cc nL ret cy D ad A) {v : Int}  (d : decode cc pc = .ok (.iastore, 1)) (hs : ad 40 13 0 = 1) (h3 : 0 ≤ i) (h4 : i < 6) (h5 : i < (ad 41 20 0 : Int)) (kk : V p l e R s m args below meth c nL cy D ad A kc ks Q (pc + 1) lv st (setc M 2 (u2 S 16 i v))) : V p l e R s m args below meth c nL cy D ad A kc ks Q pc lv (.int (i32 v) :: .int (i32 5) :: .ref (ad 23 2 i) :: st) (setc M 2 S) := by
  refine r_iast F d (dm23 hs h3 h4 h5) (n := 7) (f := fun j => i32 (boaV (setc M 2 S) 2 i j)) rfl (by omega) (by omega) (by decide) ?_ (oth (by simp [owner])) kk
  simp only [cel]
  congr 4
  funext j
  unfold upd
  by_cases hj : j = (5 : Int).toNat
  · subst hj
    rw [if_pos rfl]
    show i32 (boaV _ 2 i 5) = i32 _
    unfold boaV
    rw [if_pos (by decide), setc_at]
    show i32 (bv 5 (u2 S 16 i v 16 i)) = i32 _
    rw [u2_at]
    rfl
  · rw [if_neg hj]
    dsimp only
    unfold boaV
    simp only [setc_at]
    by_cases h0 : j < 7
    · rw [if_pos h0, if_pos h0]
      have hne : bk j ≠ 16 := by
        have : j = 0 ∨ j = 1 ∨ j = 2 ∨ j = 3 ∨ j = 4 ∨ j = 5 ∨ j = 6 := by omega
        rcases this with rfl | rfl | rfl | rfl | rfl | rfl | rfl <;> first | decide | exact absurd rfl hj
      rw [u2_k hne]
    · rw [if_neg h0, if_neg h0]
theorem is_23_6 {own : String} (F : Fx p s m args meth c own cc nL ret cy D ad A) {v : Int}  (d : decode cc pc = .ok (.iastore, 1)) (hs : ad 40 13 0 = 1) (h3 : 0 ≤ i) (h4 : i < 6) (h5 : i < (ad 41 20 0 : Int)) (kk : V p l e R s m args below meth c nL cy D ad A kc ks Q (pc + 1) lv st (setc M 2 (u2 S 17 i v))) : V p l e R s m args below meth c nL cy D ad A kc ks Q pc lv (.int (i32 v) :: .int (i32 6) :: .ref (ad 23 2 i) :: st) (setc M 2 S) := by
  refine r_iast F d (dm23 hs h3 h4 h5) (n := 7) (f := fun j => i32 (boaV (setc M 2 S) 2 i j)) rfl (by omega) (by omega) (by decide) ?_ (oth (by simp [owner])) kk
  simp only [cel]
  congr 4
  funext j
  unfold upd
  by_cases hj : j = (6 : Int).toNat
  · subst hj
    rw [if_pos rfl]
    show i32 (boaV _ 2 i 6) = i32 _
    unfold boaV
    rw [if_pos (by decide), setc_at]
    show i32 (bv 6 (u2 S 17 i v 17 i)) = i32 _
    rw [u2_at]
    rfl
  · rw [if_neg hj]
    dsimp only
    unfold boaV
    simp only [setc_at]
    by_cases h0 : j < 7
    · rw [if_pos h0, if_pos h0]
      have hne : bk j ≠ 17 := by
        have : j = 0 ∨ j = 1 ∨ j = 2 ∨ j = 3 ∨ j = 4 ∨ j = 5 ∨ j = 6 := by omega
        rcases this with rfl | rfl | rfl | rfl | rfl | rfl | rfl <;> first | decide | exact absurd rfl hj
      rw [u2_k hne]
    · rw [if_neg h0, if_neg h0]
theorem is_23_3a {own : String} (F : Fx p s m args meth c own cc nL ret cy D ad A) {v : Int}  (d : decode cc pc = .ok (.iastore, 1)) (hs : ad 40 13 0 = 1) (h3 : 0 ≤ i) (h4 : i < 6) (h5 : i < (ad 41 20 0 : Int)) (kk : V p l e R s m args below meth c nL cy D ad A kc ks Q (pc + 1) lv st (setc M 2 (u2 S 18 i 1))) : V p l e R s m args below meth c nL cy D ad A kc ks Q pc lv (.int (i32 3) :: .int (i32 3) :: .ref (ad 23 2 i) :: st) (setc M 2 S) := by
  refine r_iast F d (dm23 hs h3 h4 h5) (n := 7) (f := fun j => i32 (boaV (setc M 2 S) 2 i j)) rfl (by omega) (by omega) (by decide) ?_ (oth (by simp [owner])) kk
  simp only [cel]
  congr 4
  funext j
  unfold upd
  by_cases hj : j = (3 : Int).toNat
  · subst hj
    rw [if_pos rfl]
    show i32 (boaV _ 2 i 3) = i32 _
    unfold boaV
    rw [if_pos (by decide), setc_at]
    show i32 (bv 3 (u2 S 18 i 1 18 i)) = i32 _
    rw [u2_at]
    rfl
  · rw [if_neg hj]
    dsimp only
    unfold boaV
    simp only [setc_at]
    by_cases h0 : j < 7
    · rw [if_pos h0, if_pos h0]
      have hne : bk j ≠ 18 := by
        have : j = 0 ∨ j = 1 ∨ j = 2 ∨ j = 3 ∨ j = 4 ∨ j = 5 ∨ j = 6 := by omega
        rcases this with rfl | rfl | rfl | rfl | rfl | rfl | rfl <;> first | decide | exact absurd rfl hj
      rw [u2_k hne]
    · rw [if_neg h0, if_neg h0]
theorem is_23_3b {own : String} (F : Fx p s m args meth c own cc nL ret cy D ad A) {v : Int}  (d : decode cc pc = .ok (.iastore, 1)) (hs : ad 40 13 0 = 1) (h3 : 0 ≤ i) (h4 : i < 6) (h5 : i < (ad 41 20 0 : Int)) (kk : V p l e R s m args below meth c nL cy D ad A kc ks Q (pc + 1) lv st (setc M 2 (u2 S 18 i 2))) : V p l e R s m args below meth c nL cy D ad A kc ks Q pc lv (.int (i32 4) :: .int (i32 3) :: .ref (ad 23 2 i) :: st) (setc M 2 S) := by
  refine r_iast F d (dm23 hs h3 h4 h5) (n := 7) (f := fun j => i32 (boaV (setc M 2 S) 2 i j)) rfl (by omega) (by omega) (by decide) ?_ (oth (by simp [owner])) kk
  simp only [cel]
  congr 4
  funext j
  unfold upd
  by_cases hj : j = (3 : Int).toNat
  · subst hj
    rw [if_pos rfl]
    show i32 (boaV _ 2 i 3) = i32 _
    unfold boaV
    rw [if_pos (by decide), setc_at]
    show i32 (bv 3 (u2 S 18 i 2 18 i)) = i32 _
    rw [u2_at]
    rfl
  · rw [if_neg hj]
    dsimp only
    unfold boaV
    simp only [setc_at]
    by_cases h0 : j < 7
    · rw [if_pos h0, if_pos h0]
      have hne : bk j ≠ 18 := by
        have : j = 0 ∨ j = 1 ∨ j = 2 ∨ j = 3 ∨ j = 4 ∨ j = 5 ∨ j = 6 := by omega
        rcases this with rfl | rfl | rfl | rfl | rfl | rfl | rfl <;> first | decide | exact absurd rfl hj
      rw [u2_k hne]
    · rw [if_neg h0, if_neg h0]
theorem ig_24 {own : String} (F : Fx p s m args meth c own cc nL ret cy D ad A) {a : Int} (d : decode cc pc = .ok (.iaload, 1)) (hs : ad 40 24 0 = 1) (h1 : 0 ≤ a) (h2 : a < (ad 41 24 0 : Int)) (h3 : (ad 41 24 0 : Int) < 2147483648) (kk : V p l e R s m args below meth c nL cy D ad A kc ks Q (pc + 1) lv (.int (i32 (M 4 0 a)) :: st) (M)) : V p l e R s m args below meth c nL cy D ad A kc ks Q pc lv (.int (i32 a) :: .ref (ad 24 2 0) :: st) (M) := r_iald F d (dm24 hs) (n := ad 41 24 0) (f := fun j => i32 (M 4 0 (j : Int))) rfl h1 h2 (by omega) (by show i32 (M 4 0 ((a.toNat : Nat) : Int)) = _; rw [Int.toNat_of_nonneg h1]) kk
theorem is_24 {own : String} (F : Fx p s m args meth c own cc nL ret cy D ad A) {a v : Int} (d : decode cc pc = .ok (.iastore, 1)) (hs : ad 40 24 0 = 1) (h1 : 0 ≤ a) (h2 : a < (ad 41 24 0 : Int)) (h3 : (ad 41 24 0 : Int) < 2147483648) (kk : V p l e R s m args below meth c nL cy D ad A kc ks Q (pc + 1) lv st (setc M 4 (u2 (M 4) 0 a v))) : V p l e R s m args below meth c nL cy D ad A kc ks Q pc lv (.int (i32 v) :: .int (i32 a) :: .ref (ad 24 2 0) :: st) (M) := by
  refine r_iast F d (dm24 hs) (n := ad 41 24 0) (f := fun j => i32 (M 4 0 (j : Int))) rfl h1 h2 (by omega) ?_ (oth0 (by simp [owner])) kk
  simp only [cel, setc_at]
  congr 4
  funext j
  unfold u2 upd
  by_cases hj : j = a.toNat
  · rw [if_pos hj, if_pos ⟨rfl, by omega⟩]
  · rw [if_neg hj, if_neg (fun h => hj (by have := h.2; omega))]
theorem ig_25 {own : String} (F : Fx p s m args meth c own cc nL ret cy D ad A) {a : Int} (d : decode cc pc = .ok (.iaload, 1)) (hs : ad 40 25 0 = 1) (h1 : 0 ≤ a) (h2 : a < (ad 41 25 0 : Int)) (h3 : (ad 41 25 0 : Int) < 2147483648) (kk : V p l e R s m args below meth c nL cy D ad A kc ks Q (pc + 1) lv (.int (i32 (M 4 1 a)) :: st) (M)) : V p l e R s m args below meth c nL cy D ad A kc ks Q pc lv (.int (i32 a) :: .ref (ad 25 2 0) :: st) (M) := r_iald F d (dm25 hs) (n := ad 41 25 0) (f := fun j => i32 (M 4 1 (j : Int))) rfl h1 h2 (by omega) (by show i32 (M 4 1 ((a.toNat : Nat) : Int)) = _; rw [Int.toNat_of_nonneg h1]) kk
theorem is_25 {own : String} (F : Fx p s m args meth c own cc nL ret cy D ad A) {a v : Int} (d : decode cc pc = .ok (.iastore, 1)) (hs : ad 40 25 0 = 1) (h1 : 0 ≤ a) (h2 : a < (ad 41 25 0 : Int)) (h3 : (ad 41 25 0 : Int) < 2147483648) (kk : V p l e R s m args below meth c nL cy D ad A kc ks Q (pc + 1) lv st (setc M 4 (u2 (M 4) 1 a v))) : V p l e R s m args below meth c nL cy D ad A kc ks Q pc lv (.int (i32 v) :: .int (i32 a) :: .ref (ad 25 2 0) :: st) (M) := by
  refine r_iast F d (dm25 hs) (n := ad 41 25 0) (f := fun j => i32 (M 4 1 (j : Int))) rfl h1 h2 (by omega) ?_ (oth0 (by simp [owner])) kk
  simp only [cel, setc_at]
  congr 4
  funext j
  unfold u2 upd
  by_cases hj : j = a.toNat
  · rw [if_pos hj, if_pos ⟨rfl, by omega⟩]
  · rw [if_neg hj, if_neg (fun h => hj (by have := h.2; omega))]
theorem ig_26 {own : String} (F : Fx p s m args meth c own cc nL ret cy D ad A) {a : Int} (d : decode cc pc = .ok (.iaload, 1)) (hs : ad 40 26 0 = 1) (h1 : 0 ≤ a) (h2 : a < (ad 41 26 0 : Int)) (h3 : (ad 41 26 0 : Int) < 2147483648) (kk : V p l e R s m args below meth c nL cy D ad A kc ks Q (pc + 1) lv (.int (i32 (M 4 2 a)) :: st) (M)) : V p l e R s m args below meth c nL cy D ad A kc ks Q pc lv (.int (i32 a) :: .ref (ad 26 2 0) :: st) (M) := r_iald F d (dm26 hs) (n := ad 41 26 0) (f := fun j => i32 (M 4 2 (j : Int))) rfl h1 h2 (by omega) (by show i32 (M 4 2 ((a.toNat : Nat) : Int)) = _; rw [Int.toNat_of_nonneg h1]) kk
theorem is_26 {own : String} (F : Fx p s m args meth c own cc nL ret cy D ad A) {a v : Int} (d : decode cc pc = .ok (.iastore, 1)) (hs : ad 40 26 0 = 1) (h1 : 0 ≤ a) (h2 : a < (ad 41 26 0 : Int)) (h3 : (ad 41 26 0 : Int) < 2147483648) (kk : V p l e R s m args below meth c nL cy D ad A kc ks Q (pc + 1) lv st (setc M 4 (u2 (M 4) 2 a v))) : V p l e R s m args below meth c nL cy D ad A kc ks Q pc lv (.int (i32 v) :: .int (i32 a) :: .ref (ad 26 2 0) :: st) (M) := by
  refine r_iast F d (dm26 hs) (n := ad 41 26 0) (f := fun j => i32 (M 4 2 (j : Int))) rfl h1 h2 (by omega) ?_ (oth0 (by simp [owner])) kk
  simp only [cel, setc_at]
  congr 4
  funext j
  unfold u2 upd
  by_cases hj : j = a.toNat
  · rw [if_pos hj, if_pos ⟨rfl, by omega⟩]
  · rw [if_neg hj, if_neg (fun h => hj (by have := h.2; omega))]
theorem ig_27 {own : String} (F : Fx p s m args meth c own cc nL ret cy D ad A) {a : Int} (d : decode cc pc = .ok (.iaload, 1)) (hs : ad 40 27 0 = 1) (h1 : 0 ≤ a) (h2 : a < (ad 41 27 0 : Int)) (h3 : (ad 41 27 0 : Int) < 2147483648) (kk : V p l e R s m args below meth c nL cy D ad A kc ks Q (pc + 1) lv (.int (i32 (M 4 3 a)) :: st) (M)) : V p l e R s m args below meth c nL cy D ad A kc ks Q pc lv (.int (i32 a) :: .ref (ad 27 2 0) :: st) (M) := r_iald F d (dm27 hs) (n := ad 41 27 0) (f := fun j => i32 (M 4 3 (j : Int))) rfl h1 h2 (by omega) (by show i32 (M 4 3 ((a.toNat : Nat) : Int)) = _; rw [Int.toNat_of_nonneg h1]) kk
theorem is_27 {own : String} (F : Fx p s m args meth c own cc nL ret cy D ad A) {a v : Int} (d : decode cc pc = .ok (.iastore, 1)) (hs : ad 40 27 0 = 1) (h1 : 0 ≤ a) (h2 : a < (ad 41 27 0 : Int)) (h3 : (ad 41 27 0 : Int) < 2147483648) (kk : V p l e R s m args below meth c nL cy D ad A kc ks Q (pc + 1) lv st (setc M 4 (u2 (M 4) 3 a v))) : V p l e R s m args below meth c nL cy D ad A kc ks Q pc lv (.int (i32 v) :: .int (i32 a) :: .ref (ad 27 2 0) :: st) (M) := by
  refine r_iast F d (dm27 hs) (n := ad 41 27 0) (f := fun j => i32 (M 4 3 (j : Int))) rfl h1 h2 (by omega) ?_ (oth0 (by simp [owner])) kk
  simp only [cel, setc_at]
  congr 4
  funext j
  unfold u2 upd
  by_cases hj : j = a.toNat
  · rw [if_pos hj, if_pos ⟨rfl, by omega⟩]
  · rw [if_neg hj, if_neg (fun h => hj (by have := h.2; omega))]
theorem ig_28 {own : String} (F : Fx p s m args meth c own cc nL ret cy D ad A) {a : Int} (d : decode cc pc = .ok (.iaload, 1)) (hs : ad 40 28 0 = 1) (h1 : 0 ≤ a) (h2 : a < (ad 41 28 0 : Int)) (h3 : (ad 41 28 0 : Int) < 2147483648) (kk : V p l e R s m args below meth c nL cy D ad A kc ks Q (pc + 1) lv (.int (i32 (M 4 4 a)) :: st) (M)) : V p l e R s m args below meth c nL cy D ad A kc ks Q pc lv (.int (i32 a) :: .ref (ad 28 2 0) :: st) (M) := r_iald F d (dm28 hs) (n := ad 41 28 0) (f := fun j => i32 (M 4 4 (j : Int))) rfl h1 h2 (by omega) (by show i32 (M 4 4 ((a.toNat : Nat) : Int)) = _; rw [Int.toNat_of_nonneg h1]) kk
theorem is_28 {own : String} (F : Fx p s m args meth c own cc nL ret cy D ad A) {a v : Int} (d : decode cc pc = .ok (.iastore, 1)) (hs : ad 40 28 0 = 1) (h1 : 0 ≤ a) (h2 : a < (ad 41 28 0 : Int)) (h3 : (ad 41 28 0 : Int) < 2147483648) (kk : V p l e R s m args below meth c nL cy D ad A kc ks Q (pc + 1) lv st (setc M 4 (u2 (M 4) 4 a v))) : V p l e R s m args below meth c nL cy D ad A kc ks Q pc lv (.int (i32 v) :: .int (i32 a) :: .ref (ad 28 2 0) :: st) (M) := by
  refine r_iast F d (dm28 hs) (n := ad 41 28 0) (f := fun j => i32 (M 4 4 (j : Int))) rfl h1 h2 (by omega) ?_ (oth0 (by simp [owner])) kk
  simp only [cel, setc_at]
  congr 4
  funext j
  unfold u2 upd
  by_cases hj : j = a.toNat
  · rw [if_pos hj, if_pos ⟨rfl, by omega⟩]
  · rw [if_neg hj, if_neg (fun h => hj (by have := h.2; omega))]
theorem ig_29 {own : String} (F : Fx p s m args meth c own cc nL ret cy D ad A) {a : Int} (d : decode cc pc = .ok (.iaload, 1)) (hs : ad 40 29 0 = 1) (h1 : 0 ≤ a) (h2 : a < (ad 41 29 0 : Int)) (h3 : (ad 41 29 0 : Int) < 2147483648) (kk : V p l e R s m args below meth c nL cy D ad A kc ks Q (pc + 1) lv (.int (i32 (M 4 5 a)) :: st) (M)) : V p l e R s m args below meth c nL cy D ad A kc ks Q pc lv (.int (i32 a) :: .ref (ad 29 2 0) :: st) (M) := r_iald F d (dm29 hs) (n := ad 41 29 0) (f := fun j => i32 (M 4 5 (j : Int))) rfl h1 h2 (by omega) (by show i32 (M 4 5 ((a.toNat : Nat) : Int)) = _; rw [Int.toNat_of_nonneg h1]) kk
theorem is_29 {own : String} (F : Fx p s m args meth c own cc nL ret cy D ad A) {a v : Int} (d : decode cc pc = .ok (.iastore, 1)) (hs : ad 40 29 0 = 1) (h1 : 0 ≤ a) (h2 : a < (ad 41 29 0 : Int)) (h3 : (ad 41 29 0 : Int) < 2147483648) (kk : V p l e R s m args below meth c nL cy D ad A kc ks Q (pc + 1) lv st (setc M 4 (u2 (M 4) 5 a v))) : V p l e R s m args below meth c nL cy D ad A kc ks Q pc lv (.int (i32 v) :: .int (i32 a) :: .ref (ad 29 2 0) :: st) (M) := by
  refine r_iast F d (dm29 hs) (n := ad 41 29 0) (f := fun j => i32 (M 4 5 (j : Int))) rfl h1 h2 (by omega) ?_ (oth0 (by simp [owner])) kk
  simp only [cel, setc_at]
  congr 4
  funext j
  unfold u2 upd
  by_cases hj : j = a.toNat
  · rw [if_pos hj, if_pos ⟨rfl, by omega⟩]
  · rw [if_neg hj, if_neg (fun h => hj (by have := h.2; omega))]
theorem ig_30 {own : String} (F : Fx p s m args meth c own cc nL ret cy D ad A) {a : Int} (d : decode cc pc = .ok (.iaload, 1)) (hs : ad 40 30 0 = 1) (h1 : 0 ≤ a) (h2 : a < (ad 41 30 0 : Int)) (h3 : (ad 41 30 0 : Int) < 2147483648) (kk : V p l e R s m args below meth c nL cy D ad A kc ks Q (pc + 1) lv (.int (i32 (M 4 6 a)) :: st) (M)) : V p l e R s m args below meth c nL cy D ad A kc ks Q pc lv (.int (i32 a) :: .ref (ad 30 2 0) :: st) (M) := r_iald F d (dm30 hs) (n := ad 41 30 0) (f := fun j => i32 (M 4 6 (j : Int))) rfl h1 h2 (by omega) (by show i32 (M 4 6 ((a.toNat : Nat) : Int)) = _; rw [Int.toNat_of_nonneg h1]) kk
theorem is_30 {own : String} (F : Fx p s m args meth c own cc nL ret cy D ad A) {a v : Int} (d : decode cc pc = .ok (.iastore, 1)) (hs : ad 40 30 0 = 1) (h1 : 0 ≤ a) (h2 : a < (ad 41 30 0 : Int)) (h3 : (ad 41 30 0 : Int) < 2147483648) (kk : V p l e R s m args below meth c nL cy D ad A kc ks Q (pc + 1) lv st (setc M 4 (u2 (M 4) 6 a v))) : V p l e R s m args below meth c nL cy D ad A kc ks Q pc lv (.int (i32 v) :: .int (i32 a) :: .ref (ad 30 2 0) :: st) (M) := by
  refine r_iast F d (dm30 hs) (n := ad 41 30 0) (f := fun j => i32 (M 4 6 (j : Int))) rfl h1 h2 (by omega) ?_ (oth0 (by simp [owner])) kk
  simp only [cel, setc_at]
  congr 4
  funext j
  unfold u2 upd
  by_cases hj : j = a.toNat
  · rw [if_pos hj, if_pos ⟨rfl, by omega⟩]
  · rw [if_neg hj, if_neg (fun h => hj (by have := h.2; omega))]
theorem ig_31 {own : String} (F : Fx p s m args meth c own cc nL ret cy D ad A) {a : Int} (d : decode cc pc = .ok (.iaload, 1)) (hs : ad 40 31 0 = 1) (h1 : 0 ≤ a) (h2 : a < (ad 41 31 0 : Int)) (h3 : (ad 41 31 0 : Int) < 2147483648) (kk : V p l e R s m args below meth c nL cy D ad A kc ks Q (pc + 1) lv (.int (i32 (M 4 7 a)) :: st) (M)) : V p l e R s m args below meth c nL cy D ad A kc ks Q pc lv (.int (i32 a) :: .ref (ad 31 2 0) :: st) (M) := r_iald F d (dm31 hs) (n := ad 41 31 0) (f := fun j => i32 (M 4 7 (j : Int))) rfl h1 h2 (by omega) (by show i32 (M 4 7 ((a.toNat : Nat) : Int)) = _; rw [Int.toNat_of_nonneg h1]) kk
theorem is_31 {own : String} (F : Fx p s m args meth c own cc nL ret cy D ad A) {a v : Int} (d : decode cc pc = .ok (.iastore, 1)) (hs : ad 40 31 0 = 1) (h1 : 0 ≤ a) (h2 : a < (ad 41 31 0 : Int)) (h3 : (ad 41 31 0 : Int) < 2147483648) (kk : V p l e R s m args below meth c nL cy D ad A kc ks Q (pc + 1) lv st (setc M 4 (u2 (M 4) 7 a v))) : V p l e R s m args below meth c nL cy D ad A kc ks Q pc lv (.int (i32 v) :: .int (i32 a) :: .ref (ad 31 2 0) :: st) (M) := by
  refine r_iast F d (dm31 hs) (n := ad 41 31 0) (f := fun j => i32 (M 4 7 (j : Int))) rfl h1 h2 (by omega) ?_ (oth0 (by simp [owner])) kk
  simp only [cel, setc_at]
  congr 4
  funext j
  unfold u2 upd
  by_cases hj : j = a.toNat
  · rw [if_pos hj, if_pos ⟨rfl, by omega⟩]
  · rw [if_neg hj, if_neg (fun h => hj (by have := h.2; omega))]
end FROWS
end
