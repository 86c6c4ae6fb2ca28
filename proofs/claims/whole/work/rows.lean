section
-- ===== PART A: goes FIRST, ahead of the names: the tables' words, and 'selects' of the private methods out of them =====
/-- a private method of a class that the tables say can be made, by its rows of tables_1 -/
def lw_okq (q : MethodName × Nat) : Prop := (q.1.cls ≠ "java/lang/invoke/MethodHandle" ∧ q.1.cls ≠ "java/lang/invoke/VarHandle") ∧ Cond.instantiable q.1.cls q.2 ∈ tables_1 ∧ Cond.privateMethod q.1 ∈ tables_1 ∧ Cond.instanceMethod q.1 ∈ tables_1
theorem lw_p0 : lw_okq (⟨"java/lang/Throwable", "fillInStackTrace", "(I)Ljava/lang/Throwable;"⟩, 6) := ⟨⟨by decide +kernel, by decide +kernel⟩, List.mem_of_getElem? (i := 241) (by decide +kernel), List.mem_of_getElem? (i := 239) (by decide +kernel), List.mem_of_getElem? (i := 240) (by decide +kernel)⟩
theorem lw_p1 : lw_okq (⟨"CoveSignals", "digestOfLanterns", "(J)J"⟩, 2) := ⟨⟨by decide +kernel, by decide +kernel⟩, List.mem_of_getElem? (i := 17) (by decide +kernel), List.mem_of_getElem? (i := 345) (by decide +kernel), List.mem_of_getElem? (i := 346) (by decide +kernel)⟩
theorem lw_p2 : lw_okq (⟨"CoveSignals", "requireLantern", "(I)V"⟩, 2) := ⟨⟨by decide +kernel, by decide +kernel⟩, List.mem_of_getElem? (i := 17) (by decide +kernel), List.mem_of_getElem? (i := 353) (by decide +kernel), List.mem_of_getElem? (i := 354) (by decide +kernel)⟩
theorem lw_p3 : lw_okq (⟨"CoveSignals", "digestOfWatchmen", "(J)J"⟩, 2) := ⟨⟨by decide +kernel, by decide +kernel⟩, List.mem_of_getElem? (i := 17) (by decide +kernel), List.mem_of_getElem? (i := 375) (by decide +kernel), List.mem_of_getElem? (i := 376) (by decide +kernel)⟩
theorem lw_p4 : lw_okq (⟨"CoveSignals", "digestOfBoats", "(J)J"⟩, 2) := ⟨⟨by decide +kernel, by decide +kernel⟩, List.mem_of_getElem? (i := 17) (by decide +kernel), List.mem_of_getElem? (i := 391) (by decide +kernel), List.mem_of_getElem? (i := 392) (by decide +kernel)⟩
theorem lw_p5 : lw_okq (⟨"CoveSignals", "requireBoat", "(I)V"⟩, 2) := ⟨⟨by decide +kernel, by decide +kernel⟩, List.mem_of_getElem? (i := 17) (by decide +kernel), List.mem_of_getElem? (i := 399) (by decide +kernel), List.mem_of_getElem? (i := 400) (by decide +kernel)⟩
theorem lw_p6 : lw_okq (⟨"CoveSignals", "requireAtSea", "(I)V"⟩, 2) := ⟨⟨by decide +kernel, by decide +kernel⟩, List.mem_of_getElem? (i := 17) (by decide +kernel), List.mem_of_getElem? (i := 521) (by decide +kernel), List.mem_of_getElem? (i := 522) (by decide +kernel)⟩
theorem lw_p7 : lw_okq (⟨"CoveSignals", "balesIfSent", "(II)I"⟩, 2) := ⟨⟨by decide +kernel, by decide +kernel⟩, List.mem_of_getElem? (i := 17) (by decide +kernel), List.mem_of_getElem? (i := 674) (by decide +kernel), List.mem_of_getElem? (i := 675) (by decide +kernel)⟩
theorem lw_p8 : lw_okq (⟨"CoveSignalsModel", "no", "(I)I"⟩, 3) := ⟨⟨by decide +kernel, by decide +kernel⟩, List.mem_of_getElem? (i := 687) (by decide +kernel), List.mem_of_getElem? (i := 826) (by decide +kernel), List.mem_of_getElem? (i := 827) (by decide +kernel)⟩
theorem lw_p9 : lw_okq (⟨"CoveSignalsModel", "isLantern", "(I)Z"⟩, 3) := ⟨⟨by decide +kernel, by decide +kernel⟩, List.mem_of_getElem? (i := 687) (by decide +kernel), List.mem_of_getElem? (i := 845) (by decide +kernel), List.mem_of_getElem? (i := 846) (by decide +kernel)⟩
theorem lw_p10 : lw_okq (⟨"CoveSignalsModel", "isBoat", "(I)Z"⟩, 3) := ⟨⟨by decide +kernel, by decide +kernel⟩, List.mem_of_getElem? (i := 687) (by decide +kernel), List.mem_of_getElem? (i := 865) (by decide +kernel), List.mem_of_getElem? (i := 866) (by decide +kernel)⟩
theorem lw_p11 : lw_okq (⟨"CoveSignalsModel", "boatTold", "(II)I"⟩, 3) := ⟨⟨by decide +kernel, by decide +kernel⟩, List.mem_of_getElem? (i := 687) (by decide +kernel), List.mem_of_getElem? (i := 877) (by decide +kernel), List.mem_of_getElem? (i := 878) (by decide +kernel)⟩
theorem lw_p12 : lw_okq (⟨"CoveSignalsModel", "state", "(I)I"⟩, 3) := ⟨⟨by decide +kernel, by decide +kernel⟩, List.mem_of_getElem? (i := 687) (by decide +kernel), List.mem_of_getElem? (i := 881) (by decide +kernel), List.mem_of_getElem? (i := 882) (by decide +kernel)⟩
theorem lw_p13 : lw_okq (⟨"CoveSignalsModel", "isWatchman", "(I)Z"⟩, 3) := ⟨⟨by decide +kernel, by decide +kernel⟩, List.mem_of_getElem? (i := 687) (by decide +kernel), List.mem_of_getElem? (i := 893) (by decide +kernel), List.mem_of_getElem? (i := 894) (by decide +kernel)⟩
theorem lw_p14 : lw_okq (⟨"CoveSignalsModel", "watchmanTold", "(II)I"⟩, 3) := ⟨⟨by decide +kernel, by decide +kernel⟩, List.mem_of_getElem? (i := 687) (by decide +kernel), List.mem_of_getElem? (i := 897) (by decide +kernel), List.mem_of_getElem? (i := 898) (by decide +kernel)⟩
theorem lw_p15 : lw_okq (⟨"CoveSignalsModel", "lightTold", "(II)I"⟩, 3) := ⟨⟨by decide +kernel, by decide +kernel⟩, List.mem_of_getElem? (i := 687) (by decide +kernel), List.mem_of_getElem? (i := 923) (by decide +kernel), List.mem_of_getElem? (i := 924) (by decide +kernel)⟩
def lw_privs_1 : List (MethodName × Nat) := [(⟨"java/lang/Throwable", "fillInStackTrace", "(I)Ljava/lang/Throwable;"⟩, 6), (⟨"CoveSignals", "digestOfLanterns", "(J)J"⟩, 2), (⟨"CoveSignals", "requireLantern", "(I)V"⟩, 2), (⟨"CoveSignals", "digestOfWatchmen", "(J)J"⟩, 2), (⟨"CoveSignals", "digestOfBoats", "(J)J"⟩, 2), (⟨"CoveSignals", "requireBoat", "(I)V"⟩, 2), (⟨"CoveSignals", "requireAtSea", "(I)V"⟩, 2), (⟨"CoveSignals", "balesIfSent", "(II)I"⟩, 2), (⟨"CoveSignalsModel", "no", "(I)I"⟩, 3), (⟨"CoveSignalsModel", "isLantern", "(I)Z"⟩, 3), (⟨"CoveSignalsModel", "isBoat", "(I)Z"⟩, 3), (⟨"CoveSignalsModel", "boatTold", "(II)I"⟩, 3), (⟨"CoveSignalsModel", "state", "(I)I"⟩, 3), (⟨"CoveSignalsModel", "isWatchman", "(I)Z"⟩, 3), (⟨"CoveSignalsModel", "watchmanTold", "(II)I"⟩, 3), (⟨"CoveSignalsModel", "lightTold", "(II)I"⟩, 3)]
theorem lw_r1 : ∀ q ∈ lw_privs_1, lw_okq q := List.forall_mem_cons.mpr ⟨lw_p0, List.forall_mem_cons.mpr ⟨lw_p1, List.forall_mem_cons.mpr ⟨lw_p2, List.forall_mem_cons.mpr ⟨lw_p3, List.forall_mem_cons.mpr ⟨lw_p4, List.forall_mem_cons.mpr ⟨lw_p5, List.forall_mem_cons.mpr ⟨lw_p6, List.forall_mem_cons.mpr ⟨lw_p7, List.forall_mem_cons.mpr ⟨lw_p8, List.forall_mem_cons.mpr ⟨lw_p9, List.forall_mem_cons.mpr ⟨lw_p10, List.forall_mem_cons.mpr ⟨lw_p11, List.forall_mem_cons.mpr ⟨lw_p12, List.forall_mem_cons.mpr ⟨lw_p13, List.forall_mem_cons.mpr ⟨lw_p14, List.forall_mem_cons.mpr ⟨lw_p15, fun _ h => absurd h List.not_mem_nil⟩⟩⟩⟩⟩⟩⟩⟩⟩⟩⟩⟩⟩⟩⟩⟩
theorem lw_p16 : lw_okq (⟨"CoveSignalsModel", "codeTold", "(II)I"⟩, 3) := ⟨⟨by decide +kernel, by decide +kernel⟩, List.mem_of_getElem? (i := 687) (by decide +kernel), List.mem_of_getElem? (i := 940) (by decide +kernel), List.mem_of_getElem? (i := 941) (by decide +kernel)⟩
theorem lw_p17 : lw_okq (⟨"CoveSignalsModel", "placeTold", "(II)I"⟩, 3) := ⟨⟨by decide +kernel, by decide +kernel⟩, List.mem_of_getElem? (i := 687) (by decide +kernel), List.mem_of_getElem? (i := 952) (by decide +kernel), List.mem_of_getElem? (i := 953) (by decide +kernel)⟩
theorem lw_p18 : lw_okq (⟨"CoveSignalsModel$State", "known", "()I"⟩, 26) := ⟨⟨by decide +kernel, by decide +kernel⟩, List.mem_of_getElem? (i := 693) (by decide +kernel), List.mem_of_getElem? (i := 982) (by decide +kernel), List.mem_of_getElem? (i := 983) (by decide +kernel)⟩
theorem lw_p19 : lw_okq (⟨"CoveSignalsModel$State", "note", "()V"⟩, 26) := ⟨⟨by decide +kernel, by decide +kernel⟩, List.mem_of_getElem? (i := 693) (by decide +kernel), List.mem_of_getElem? (i := 998) (by decide +kernel), List.mem_of_getElem? (i := 999) (by decide +kernel)⟩
theorem lw_p20 : lw_okq (⟨"CoveSignalsModel$State", "unload", "(I)I"⟩, 26) := ⟨⟨by decide +kernel, by decide +kernel⟩, List.mem_of_getElem? (i := 693) (by decide +kernel), List.mem_of_getElem? (i := 1005) (by decide +kernel), List.mem_of_getElem? (i := 1006) (by decide +kernel)⟩
theorem lw_p21 : lw_okq (⟨"CoveSignalsModel$State", "sail", "(I)V"⟩, 26) := ⟨⟨by decide +kernel, by decide +kernel⟩, List.mem_of_getElem? (i := 693) (by decide +kernel), List.mem_of_getElem? (i := 1012) (by decide +kernel), List.mem_of_getElem? (i := 1013) (by decide +kernel)⟩
theorem lw_p22 : lw_okq (⟨"CoveSignalsModel$State", "read", "(I)V"⟩, 26) := ⟨⟨by decide +kernel, by decide +kernel⟩, List.mem_of_getElem? (i := 693) (by decide +kernel), List.mem_of_getElem? (i := 1016) (by decide +kernel), List.mem_of_getElem? (i := 1017) (by decide +kernel)⟩
theorem lw_p23 : lw_okq (⟨"CoveSignalsModel$State", "walk", "(I)V"⟩, 26) := ⟨⟨by decide +kernel, by decide +kernel⟩, List.mem_of_getElem? (i := 693) (by decide +kernel), List.mem_of_getElem? (i := 1023) (by decide +kernel), List.mem_of_getElem? (i := 1024) (by decide +kernel)⟩
theorem lw_p24 : lw_okq (⟨"CoveSignalsModel$State", "seize", "(I)V"⟩, 26) := ⟨⟨by decide +kernel, by decide +kernel⟩, List.mem_of_getElem? (i := 693) (by decide +kernel), List.mem_of_getElem? (i := 1027) (by decide +kernel), List.mem_of_getElem? (i := 1028) (by decide +kernel)⟩
def lw_privs_2 : List (MethodName × Nat) := [(⟨"CoveSignalsModel", "codeTold", "(II)I"⟩, 3), (⟨"CoveSignalsModel", "placeTold", "(II)I"⟩, 3), (⟨"CoveSignalsModel$State", "known", "()I"⟩, 26), (⟨"CoveSignalsModel$State", "note", "()V"⟩, 26), (⟨"CoveSignalsModel$State", "unload", "(I)I"⟩, 26), (⟨"CoveSignalsModel$State", "sail", "(I)V"⟩, 26), (⟨"CoveSignalsModel$State", "read", "(I)V"⟩, 26), (⟨"CoveSignalsModel$State", "walk", "(I)V"⟩, 26), (⟨"CoveSignalsModel$State", "seize", "(I)V"⟩, 26)]
theorem lw_r2 : ∀ q ∈ lw_privs_2, lw_okq q := List.forall_mem_cons.mpr ⟨lw_p16, List.forall_mem_cons.mpr ⟨lw_p17, List.forall_mem_cons.mpr ⟨lw_p18, List.forall_mem_cons.mpr ⟨lw_p19, List.forall_mem_cons.mpr ⟨lw_p20, List.forall_mem_cons.mpr ⟨lw_p21, List.forall_mem_cons.mpr ⟨lw_p22, List.forall_mem_cons.mpr ⟨lw_p23, List.forall_mem_cons.mpr ⟨lw_p24, fun _ h => absurd h List.not_mem_nil⟩⟩⟩⟩⟩⟩⟩⟩⟩
def lw_privs : List (MethodName × Nat) := lw_privs_1 ++ (lw_privs_2)
def lw_tbl : List Cond := k2_sels lw_privs ++ tables_1
theorem lw_privs_ok : ∀ q ∈ lw_privs, lw_okq q := by
  show ∀ q ∈ lw_privs_1 ++ (lw_privs_2), lw_okq q
  exact List.forall_mem_append.mpr ⟨lw_r1, lw_r2⟩
/-- the streams that the claim lets the run draw from -/
abbrev lw_cs : List Choice := [Jvm.Choice.named "NaN.bits"]
theorem lw_bits : nanBits ∈ lw_cs := by first | decide | exact List.mem_cons_self | simp [lw_cs, nanBits]
-- ===== end of PART A; then your names; then what follows =====
end
section
/-! ===== BEGIN words of one list among another's, by their places ===== -/
theorem goodIn_r {big : List Cond} (ws : List Cond) (ps : List Nat) (hp : ws = ps.filterMap (fun i => big[i]?)) (h : ws.all goodWord = true) : GoodIn big ws := by
  intro w hw
  have h1 := List.all_eq_true.mp h w hw
  rw [hp] at hw
  obtain ⟨i, -, hi⟩ := List.mem_filterMap.mp hw
  have hm : w ∈ big := by first | exact List.mem_of_getElem? hi | exact List.getElem?_mem hi
  exact ⟨hm, good_of_word h1⟩
theorem goodIn_app {big a b : List Cond} (ha : GoodIn big a) (hb : GoodIn big b) : GoodIn big (a ++ b) := fun w h => (List.mem_append.mp h).elim (ha w) (hb w)
theorem goodIn_ca {big a b : List Cond} {c : Cond} (ha : GoodIn big (c :: a)) (hb : GoodIn big b) : GoodIn big (c :: (a ++ b)) := fun w h => (List.mem_cons.mp h).elim (fun e => ha w (List.mem_cons.mpr (Or.inl e))) (fun h => (List.mem_append.mp h).elim (fun h => ha w (List.mem_cons.mpr (Or.inr h))) (hb w))
theorem goodIn_sub {big ws : List Cond} (hm : ∀ w ∈ ws, w ∈ big) (h : ws.all goodWord = true) : GoodIn big ws := fun w hw => ⟨hm w hw, good_of_word (List.all_eq_true.mp h w hw)⟩
/-! ===== END ===== -/

/-! ===== BEGIN exceptions that leave a method, and their catching by the caller (launches without stack traces) ===== -/
section VXA
/-! The laws vx_back, vx_callV, vx_callS, vx_callSW, vx_throw0, vx_throwS follow proofs of the library, with one case more: JvmDerived/Free/Laws.lean (Back.of_free), Shelf42/LK1.lean (callV, callS), Shelf/KitTraced.lean (throwNew0V, throwNewS). -/
/-- where a method has thrown q: the class by its name, the cell, what was written, the world -/
def vx_T (XC : String → State → State → Prop) (st : State) (q : Addr) (t : State) (mc ms : Nat) (free : Addr → Prop) : Prop :=
  ∃ (E : String) (ce : Cell) (L : List Loc), XC E st t ∧ t.heap[q]? = some ce ∧ ce.vm = .none ∧ st.vm.findClass E = some ce.cls ∧ st.WarmedH t.vm ∧ st.sameButNew ({ t with vm := st.vm } : State) L mc ms ∧ ∀ z ∈ L, free z.base
def vx_Q (Qc : Array Value → State → Outcome → State → Prop) (XC : String → State → State → Prop) (mc ms : Nat) (free : Addr → Prop) : Array Value → State → Outcome → State → Prop := fun a st o t =>
  (Qc a st o t ∧ ∃ L, FrameEnd st o t L mc ms ∧ ∀ q ∈ L, free q.base) ∨ ∃ q, o = .threw q ∧ vx_T XC st q t mc ms free
/-- a callee that returns or throws -/
def vx_Met (l : Launch) (y : MethodName) (ws : List Cond) (rm : Room) (Pc : Array Value → State → Prop) (Qc : Array Value → State → Outcome → State → Prop) (XC : String → State → State → Prop) (mc ms : Nat) (free : Addr → Prop) : Prop :=
  MetFree l y (headSpec ws rm) Pc (fun _ _ _ _ _ => True) (vx_Q Qc XC mc ms free)
def vx_Post (XC : String → State → State → Prop) (mc ms : Nat) (free : Addr → Prop) : Pt → Array Value → Addr → Pt → Prop := fun A a q B =>
  ∃ (g : JFrame) (mk : MethodId) (t : State) (L : List Loc) (E : String) (ce : Cell), B.U.heap = t.heap ∧ B.U.vm = t.vm ∧ XC E (A.U.calling g mk a) t ∧ t.heap[q]? = some ce ∧ ce.vm = .none ∧ A.U.vm.findClass E = some ce.cls ∧ B.locs = A.locs ++ L ∧ (∀ z ∈ L, free z.base) ∧ B.cells = A.cells + mc ∧ B.slots = A.slots + ms
def vx_Back (l : Launch) (R : Room) (p : Program) (e : Env) (below : List Frame) (s : State) (sargs : Array Value) (y : MethodName) (len W9 : Nat)
    (Pre : Pt → Array Value → Prop) (Post : Pt → Array Value → Option Value → Pt → Prop) (PostX : Pt → Array Value → Addr → Pt → Prop) : Prop :=
  ∀ (m : MethodId) (meth : Method) (c : Code) (A : Pt) (g : JFrame) (ig : Instr) (mk : MethodId) (a : Array Value),
    Stand p l e R s m sargs below meth c A.U A.locs A.cells A.slots → g.method = m → g.locals.size = c.maxLocals → decode c.code g.pc = .ok (ig, len) →
    2 * g.monitorRoom + (g.stack.map fun v => v.category).sum ≤ W9 → A.U.methodNamed? y = some mk → Pre A a →
    (∃ (v : Option Value) (B : Pt), Stand p l e R s m sargs below meth c B.U B.locs B.cells B.slots ∧ Post A a v B ∧
      Steps p.tables e below (doInvoke e (A.U.setTop g) [] mk a).1 (B.U.setTop { g with pc := g.pc + len, stack := v.toList ++ g.stack })) ∨
    (∃ (q : Addr) (B : Pt), Stand p l e R s m sargs below meth c B.U B.locs B.cells B.slots ∧ PostX A a q B ∧
      Steps p.tables e below (doInvoke e (A.U.setTop g) [] mk a).1 ((B.U.setTop g).pushFrame (.throwing q)))
section Payer
variable {l : Launch} {R : Room} {p : Program} {e : Env} {below : List Frame} {s : State} {sargs : Array Value} {y : MethodName} {len W9 : Nat}
theorem vx_back {ws : List Cond} {rm : Room} {Pc : Array Value → State → Prop} {Qc : Array Value → State → Outcome → State → Prop} {XC : String → State → State → Prop} {mc ms : Nat} {free : Addr → Prop} {bytes : ByteArray} {maxL : Nat} {ret : Option FieldType}
    (hM : vx_Met l y ws rm Pc Qc XC mc ms free) (hblind : FrameBlind Pc) (hrc : rm.cells = mc) (hrs : rm.slots = ms)
    (hframes : rm.frames + 1 ≤ R.frames) (hlocals : W9 + (maxL + 11) + rm.locals ≤ R.locals)
    (hws : ∀ w ∈ ws, ∀ a' U, s.WarmedH U.vm → w.before a' U = true) (hcode : Cond.code y bytes maxL ret ∈ ws) (hinit : ∀ a' U, s.WarmedH U.vm → (Cond.initialized y.cls).before a' U = true) :
    vx_Back l R p e below s sargs y len W9 (PreOf R mc ms Pc) (PostOf Qc mc ms free) (vx_Post XC mc ms free) := by
  intro m meth c A g ig mk a X hg hsize hdg hW hn hp
  have h1 : (headSpec ws rm).pre.before a A.U = true := atoms_intro fun w hw => hws w hw _ _ X.warmed
  have h2 : (Cond.code y bytes maxL ret).before a A.U = true := hws _ hcode _ _ X.warmed
  have h3 : (Cond.initialized y.cls).before a A.U = true := hinit _ _ X.warmed
  have h4 : A.cells + (headSpec ws rm).room.cells ≤ R.cells := by rw [show (headSpec ws rm).room.cells = mc from hrc]; exact hp.1
  have h5 : A.slots + (headSpec ws rm).room.slots ≤ R.slots := by rw [show (headSpec ws rm).room.slots = ms from hrs]; exact hp.2.1
  have hPc : Pc a (A.U.calling g mk a) := hblind _ _ _ _ hp.2.2
  obtain ⟨U, Ls, c0, s0⟩ := A
  dsimp only [Pt.U, Pt.locs, Pt.cells, Pt.slots] at h1 h2 h3 h4 h5 X hn hPc ⊢
  obtain ⟨methY, cY, hmY, hcY, -, hlY, -, -, -, -⟩ := Cond.code_spec hn h2
  obtain ⟨kY, hkY, -⟩ := className_of_methodNamed hn
  have hinitY : kY.init = .initialized := Cond.initialized_spec (findClass_of_methodNamed hn) hkY h3
  have h : At U g.method c below := by rw [hg]; exact X.here
  have hlocals9 : W9 + (maxL + 11) + (headSpec ws rm).room.locals ≤ R.locals := hlocals
  have happ : (headSpec ws rm).appliesLoose y e.platform (U.calling g mk a) = true :=
    Spec.appliesLoose_calling (g := g) h hdg hn hkY hinitY
      (X.room_calling (g := g) (R' := (headSpec ws rm).room) hsize hmY hcY hframes (by rw [hlY]; omega) h4 h5) h1
  obtain ⟨mid, hmid⟩ := h.above
  have hfr : (U.setTop g).frames = (.java g :: mid) ++ below := by rw [State.frames_setTop' g h.top, hmid]; rfl
  obtain ⟨o, s₂, hsteps, -, hend, hq⟩ := Steps.callFree hM p X.admits X.cas X.clock (acts := []) hfr happ hPc trivial
  have hq' : vx_Q Qc XC mc ms free a (U.calling g mk a) o s₂ := hq
  rw [State.frames_setTop' g h.top] at hend
  obtain ⟨g₀, hg0⟩ := Option.isSome_iff_exists.mp h.top
  obtain ⟨r, hr⟩ := State.topJava?_eq_some.mp hg0
  have hr' : (({ U with heap := s₂.heap, slotsUsed := s₂.slotsUsed } : State).setVm s₂.vm).frames = .java g₀ :: r := hr
  rcases hq' with ⟨hqc, L, hfe, hL⟩ | ⟨q, rfl, E, ce, L, hx, hce, hcv, hcl, hW₂, hsm, hL⟩
  · obtain ⟨⟨v, rfl⟩, hW₂, e2, q2, q3, q4, q5, q6⟩ := id hfe
    have e3 : s₂ = ({ (U.calling g mk a).setFrames s₂.frames with heap := s₂.heap, slotsUsed := s₂.slotsUsed } : State).setVm s₂.vm := by
      have : s₂ = ({ s₂ with vm := (U.calling g mk a).vm } : State).setVm s₂.vm := rfl
      rw [e2] at this
      exact this
    obtain ⟨c₂, i₂, len₂, hc₂, hd₂, hf₂⟩ := hend
    have hW' : U.WarmedH s₂.vm := hW₂
    have hcc : c₂ = c := by
      have h1 : s₂.code? g.method = U.code? g.method := by
        rw [State.code?_eq, State.code?_eq, hW'.alike.method?]
      exact Option.some.inj (hc₂.symm.trans (h1.trans h.code))
    subst hcc
    have hlen : len₂ = len := by rw [hdg] at hd₂; cases hd₂; rfl
    subst hlen
    have hs₂ : s₂ = (({ U with heap := s₂.heap, slotsUsed := s₂.slotsUsed } : State).setVm s₂.vm).setTop { g with pc := g.pc + len₂, stack := v.toList ++ g.stack } := by
      refine e3.trans ?_
      rw [hf₂, State.calling_eq h.top, State.setFrames_setFrames, State.setTop_of_frames _ hr', hr]
      rfl
    have hsame : U.sameButNew ({ U with heap := s₂.heap, slotsUsed := s₂.slotsUsed } : State) L mc ms := by
      refine ⟨?_, q2, q3, q4, q5, q6⟩
      obtain ⟨t, ht, -⟩ := State.frames_cons hr
      show ({ U with heap := s₂.heap, slotsUsed := s₂.slotsUsed } : State) = { U.setFrames U.frames with heap := s₂.heap, slotsUsed := s₂.slotsUsed }
      rw [State.setFrames_self ht]
    subst hg
    refine Or.inl ⟨v, ⟨(({ U with heap := s₂.heap, slotsUsed := s₂.slotsUsed } : State).setVm s₂.vm), Ls ++ L, c0 + mc, s0 + ms⟩,
      ⟨X.admits, X.cas, X.clock, X.frames, X.room, X.hears, X.method, X.code, (X.here.setHeapUsed s₂.heap s₂.slotsUsed).setVm hW'.alike, X.tail, State.WarmedH.trans X.warmed hW', X.limits, X.bytes, X.same.trans (hsame.setVm s.vm)⟩,
      ⟨g, mk, s₂, L, rfl, rfl, hqc, rfl, hL, rfl, rfl⟩, ?_⟩
    show Steps p.tables e below _ ((({ U with heap := s₂.heap, slotsUsed := s₂.slotsUsed } : State).setVm s₂.vm).setTop { g with pc := g.pc + len₂, stack := v.toList ++ g.stack })
    rw [← hs₂]
    exact hsteps
  · obtain ⟨e2, q2, q3, q4, q5, q6⟩ := id hsm
    have e3 : s₂ = ({ (U.calling g mk a).setFrames s₂.frames with heap := s₂.heap, slotsUsed := s₂.slotsUsed } : State).setVm s₂.vm := by
      have : s₂ = ({ s₂ with vm := (U.calling g mk a).vm } : State).setVm s₂.vm := rfl
      rw [e2] at this
      exact this
    have hf₂ : s₂.frames = .throwing q :: .java g :: U.frames.tail := hend
    have hW' : U.WarmedH s₂.vm := hW₂
    have hs₂ : s₂ = ((({ U with heap := s₂.heap, slotsUsed := s₂.slotsUsed } : State).setVm s₂.vm).setTop g).pushFrame (.throwing q) := by
      refine e3.trans ?_
      rw [hf₂, State.calling_eq h.top, State.setFrames_setFrames, State.pushFrame, State.frames_setTop _ hr', State.setTop_of_frames _ hr', State.setFrames_setFrames, hr]
      rfl
    have hsame : U.sameButNew ({ U with heap := s₂.heap, slotsUsed := s₂.slotsUsed } : State) L mc ms := by
      refine ⟨?_, q2, q3, q4, q5, q6⟩
      obtain ⟨t, ht, -⟩ := State.frames_cons hr
      show ({ U with heap := s₂.heap, slotsUsed := s₂.slotsUsed } : State) = { U.setFrames U.frames with heap := s₂.heap, slotsUsed := s₂.slotsUsed }
      rw [State.setFrames_self ht]
    subst hg
    refine Or.inr ⟨q, ⟨(({ U with heap := s₂.heap, slotsUsed := s₂.slotsUsed } : State).setVm s₂.vm), Ls ++ L, c0 + mc, s0 + ms⟩,
      ⟨X.admits, X.cas, X.clock, X.frames, X.room, X.hears, X.method, X.code, (X.here.setHeapUsed s₂.heap s₂.slotsUsed).setVm hW'.alike, X.tail, State.WarmedH.trans X.warmed hW', X.limits, X.bytes, X.same.trans (hsame.setVm s.vm)⟩,
      ⟨g, mk, s₂, L, E, ce, rfl, rfl, hx, hce, hcv, hcl, rfl, hL, rfl, rfl⟩, ?_⟩
    show Steps p.tables e below _ (((({ U with heap := s₂.heap, slotsUsed := s₂.slotsUsed } : State).setVm s₂.vm).setTop g).pushFrame (.throwing q))
    rw [← hs₂]
    exact hsteps
end Payer
section Calls
variable {p : Program} {l : Launch} {e : Env} {R : Room} {s : State} {m : MethodId} {args : Array Value} {below : List Frame} {meth : Method} {c : Code} {T : State} {locs : List Loc} {cells slots : Nat}
theorem vx_callV (X : Stand p l e R s m args below meth c T locs cells slots) (hexec : p.tables.exec = Jvm.exec) {own C : String} {index : Nat} {y : MethodName} {bytes : ByteArray} {maxL : Nat} {ret : Option FieldType}
    (hown : s.vm.findClass own = some m.cls) (hlink : (Cond.methodLink own index y).before args s = true) (hinst : (Cond.instanceMethod y).before args s = true) (hsel : (Cond.selects C y y).before args s = true)
    (hcode : (Cond.code y bytes maxL ret).before args s = true) (hy : y.cls ≠ "java/lang/invoke/MethodHandle" ∧ y.cls ≠ "java/lang/invoke/VarHandle")
    {W9 : Nat} {Pre : Pt → Array Value → Prop} {Post : Pt → Array Value → Option Value → Pt → Prop} {PostX : Pt → Array Value → Addr → Pt → Prop} (hK : vx_Back l R p e below s args y 3 W9 Pre Post PostX)
    {b : Addr} {cellB : Cell} (hcell : T.heap[b]? = some cellB) (hobj : cellB.vm.isStatics = false) (hcls : s.vm.findClass C = some cellB.cls)
    {g : JFrame} (hg : g.method = m) (hsize : g.locals.size = c.maxLocals) {argsL rest : List Value} (hlen : ∀ sig, parseMethodDescriptor y.desc = some sig → argsL.length = sig.parameters.length)
    (hstack : g.stack = argsL.reverse ++ .ref b :: rest) (hW : 2 * g.monitorRoom + (rest.map fun v => v.category).sum ≤ W9) (hdg : decode c.code g.pc = .ok (.invokevirtual index, 3))
    (hpre : ∀ vm₁, s.WarmedH vm₁ → Pre ⟨T.setVm vm₁, locs, cells, slots⟩ (Value.ref b :: argsL).toArray) :
    (∃ (v : Option Value) (vm₁ : Vm) (B : Pt), s.WarmedH vm₁ ∧ Stand p l e R s m args below meth c B.U B.locs B.cells B.slots ∧ Post ⟨T.setVm vm₁, locs, cells, slots⟩ (Value.ref b :: argsL).toArray v B ∧
      ∀ target, Steps p.tables e below (B.U.setTop { g with pc := g.pc + 3, stack := v.toList ++ rest }) target → Steps p.tables e below (T.setTop g) target) ∨
    (∃ (q : Addr) (vm₁ : Vm) (B : Pt), s.WarmedH vm₁ ∧ Stand p l e R s m args below meth c B.U B.locs B.cells B.slots ∧ PostX ⟨T.setVm vm₁, locs, cells, slots⟩ (Value.ref b :: argsL).toArray q B ∧
      Steps p.tables e below (T.setTop g) ((B.U.setTop { g with stack := rest }).pushFrame (.throwing q))) := by
  obtain ⟨mk, methM, hnamed, hmethM, hstM, habM⟩ := Cond.instanceMethod_spec hinst
  obtain ⟨methM', cM, hmethM', -, -, -, -, -, -, hsigM⟩ := Cond.code_spec hnamed hcode
  cases hmethM.symm.trans hmethM'
  obtain ⟨c2, r2, m2, q1, q2, q3, q4, kP, hkP, hkPi⟩ := Cond.selects_spec hsel
  cases hcls.symm.trans q1
  cases (State.methodFound?_of_named hnamed hy).symm.trans q2
  cases hnamed.symm.trans q3
  have hselP : selectMethod e.platform s.vm cellB.cls mk = .method mk := by rw [Launch.admits_selectMethod X.admits]; exact q4
  obtain ⟨vm₁, X₁, hstep₁⟩ := X.invokevirtual hexec hown hlink hnamed hmethM hstM hkP hkPi hy (a := b) (cell := cellB) hcell
    (fun z h => by rw [h] at hobj; cases hobj) hselP hmethM habM hkP hkPi (g := g) hg (argsL := argsL) (rest := rest) (hlen _ hsigM) hstack hdg
  rcases hK m meth c ⟨T.setVm vm₁, locs, cells, slots⟩ { g with stack := rest } (.invokevirtual index) mk (Value.ref b :: argsL).toArray X₁ hg hsize hdg hW (X₁.named hnamed) (hpre vm₁ X₁.warmed) with ⟨v, B, X', hpost, hsteps⟩ | ⟨q, B, X', hpost, hsteps⟩
  · exact Or.inl ⟨v, vm₁, B, X₁.warmed, X', hpost, fun target h => hstep₁ _ fun acts => by rw [doInvoke_state]; exact hsteps.trans h⟩
  · exact Or.inr ⟨q, vm₁, B, X₁.warmed, X', hpost, hstep₁ _ fun acts => by rw [doInvoke_state]; exact hsteps⟩
theorem vx_callS (X : Stand p l e R s m args below meth c T locs cells slots) (hexec : p.tables.exec = Jvm.exec) {own : String} {index : Nat} {y : MethodName} {bytes : ByteArray} {maxL : Nat} {ret : Option FieldType}
    (hown : s.vm.findClass own = some m.cls) (hlink : (Cond.methodLink own index y).before args s = true) (hstat : (Cond.static y).before args s = true) (hinit : (Cond.initialized y.cls).before args s = true)
    (hcode : (Cond.code y bytes maxL ret).before args s = true) (hy : y.cls ≠ "java/lang/invoke/MethodHandle" ∧ y.cls ≠ "java/lang/invoke/VarHandle")
    {W9 : Nat} {Pre : Pt → Array Value → Prop} {Post : Pt → Array Value → Option Value → Pt → Prop} {PostX : Pt → Array Value → Addr → Pt → Prop} (hK : vx_Back l R p e below s args y 3 W9 Pre Post PostX)
    {g : JFrame} (hg : g.method = m) (hsize : g.locals.size = c.maxLocals) {argsL rest : List Value} (hlen : ∀ sig, parseMethodDescriptor y.desc = some sig → argsL.length = sig.parameters.length)
    (hstack : g.stack = argsL.reverse ++ rest) (hW : 2 * g.monitorRoom + (rest.map fun v => v.category).sum ≤ W9) (hdg : decode c.code g.pc = .ok (.invokestatic index, 3))
    (hpre : ∀ vm₁, s.WarmedH vm₁ → Pre ⟨T.setVm vm₁, locs, cells, slots⟩ argsL.toArray) :
    (∃ (v : Option Value) (vm₁ : Vm) (B : Pt), s.WarmedH vm₁ ∧ Stand p l e R s m args below meth c B.U B.locs B.cells B.slots ∧ Post ⟨T.setVm vm₁, locs, cells, slots⟩ argsL.toArray v B ∧
      ∀ target, Steps p.tables e below (B.U.setTop { g with pc := g.pc + 3, stack := v.toList ++ rest }) target → Steps p.tables e below (T.setTop g) target) ∨
    (∃ (q : Addr) (vm₁ : Vm) (B : Pt), s.WarmedH vm₁ ∧ Stand p l e R s m args below meth c B.U B.locs B.cells B.slots ∧ PostX ⟨T.setVm vm₁, locs, cells, slots⟩ argsL.toArray q B ∧
      Steps p.tables e below (T.setTop g) ((B.U.setTop { g with stack := rest }).pushFrame (.throwing q))) := by
  obtain ⟨mk, hnamed⟩ := Cond.code_named hcode
  obtain ⟨methM, cM, hmethM, -, -, -, -, -, -, hsigM⟩ := Cond.code_spec hnamed hcode
  have hstatic : methM.isStatic = true := Cond.static_spec hnamed hmethM hstat
  obtain ⟨kP, hkP, -⟩ := className_of_methodNamed hnamed
  have hinitP : kP.init = .initialized := Cond.initialized_spec (findClass_of_methodNamed hnamed) hkP hinit
  obtain ⟨vm₁, X₁, hstep₁⟩ := X.invokestatic hexec hown hlink hnamed hmethM hstatic hkP hinitP hy (g := g) hg (argsL := argsL) (rest := rest) (hlen _ hsigM) hstack hdg
  rcases hK m meth c ⟨T.setVm vm₁, locs, cells, slots⟩ { g with stack := rest } (.invokestatic index) mk argsL.toArray X₁ hg hsize hdg hW (X₁.named hnamed) (hpre vm₁ X₁.warmed) with ⟨v, B, X', hpost, hsteps⟩ | ⟨q, B, X', hpost, hsteps⟩
  · exact Or.inl ⟨v, vm₁, B, X₁.warmed, X', hpost, fun target h => hstep₁ _ fun acts => by rw [doInvoke_state]; exact hsteps.trans h⟩
  · exact Or.inr ⟨q, vm₁, B, X₁.warmed, X', hpost, hstep₁ _ fun acts => by rw [doInvoke_state]; exact hsteps⟩
end Calls
theorem vx_cls {s : State} {T : State} {vm₁ : Vm} {E : String} {k : ClassId} (hW : s.WarmedH vm₁) (h : (T.setVm vm₁).vm.findClass E = some k) : s.vm.findClass E = some k := by
  have h1 : vm₁.findClass E = some k := h
  rw [hW.alike.findClass] at h1
  exact h1
/-- the method's frame g, with q thrown over it -/
def vx_W (p : Program) (l : Launch) (e : Env) (R : Room) (s : State) (m : MethodId) (args : Array Value) (below : List Frame) (meth : Method) (c : Code) (H : Heap) (locs : List Loc) (cells slots : Nat) (Q : State → Prop) (g : JFrame) (q : Addr) : Prop :=
  ∀ T : State, T.heap = H → Stand p l e R s m args below meth c T locs cells slots → ∃ t, Steps p.tables e below ((T.setTop g).pushFrame (.throwing q)) t ∧ Q t
def vx_Run (p : Program) (l : Launch) (e : Env) (R : Room) (s : State) (m : MethodId) (args : Array Value) (below : List Frame) (meth : Method) (c : Code) (H : Heap) (locs : List Loc) (cells slots mc ms : Nat) (g : JFrame) (rest : List Value) (Qa : State → Outcome → State → Prop) (XC : String → State → State → Prop) (free : Addr → Prop) : Prop :=
  ∀ T : State, T.heap = H → Stand p l e R s m args below meth c T locs cells slots →
    (∃ (v : Option Value) (st₀ t T' : State) (L : List Loc), st₀.heap = H ∧ Stand p l e R s m args below meth c T' (locs ++ L) (cells + mc) (slots + ms) ∧ (∀ q ∈ L, free q.base) ∧ T'.heap = t.heap ∧ T'.vm = t.vm ∧ Qa st₀ (.returned v) t ∧
      Goes p e below T g T' { g with pc := g.pc + 3, stack := v.toList ++ rest }) ∨
    (∃ (q : Addr) (st₀ t T' : State) (L : List Loc) (E : String) (ce : Cell), st₀.heap = H ∧ Stand p l e R s m args below meth c T' (locs ++ L) (cells + mc) (slots + ms) ∧ (∀ z ∈ L, free z.base) ∧ T'.heap = t.heap ∧ T'.vm = t.vm ∧ XC E st₀ t ∧ t.heap[q]? = some ce ∧ ce.vm = .none ∧ s.vm.findClass E = some ce.cls ∧
      Steps p.tables e below (T.setTop g) ((T'.setTop { g with stack := rest }).pushFrame (.throwing q)))
def vx_X {S : Type} (px : S → Prop) (B : String → S → State → Prop) (A : Nat → Prop) : String → State → State → Prop := fun E st t => ∃ u : S, px u ∧ B E u t ∧ va_F A st t
section Runs
variable {p : Program} {l : Launch} {e : Env} {R : Room} {s : State} {m : MethodId} {args : Array Value} {below : List Frame} {meth : Method} {c : Code} {H : Heap} {locs : List Loc} {cells slots : Nat}
variable {y : MethodName} {bytes cc : ByteArray} {maxL nL mc ms n index : Nat} {ret : Option FieldType} {ws : List Cond} {rm : Room} {Pc : Array Value → State → Prop} {Qc : Array Value → State → Outcome → State → Prop} {XC : String → State → State → Prop} {free : Addr → Prop} {Ts : List Cond} {own C : String} {b : Addr} {As rest : List Value} {g : JFrame}
theorem vx_callBack (cb : CallB R s args own index y bytes maxL ret ws rm mc ms n) (hM : vx_Met l y ws rm Pc Qc XC mc ms free) (hbl : FrameBlind Pc) : vx_Back l R p e below s args y 3 8 (PreOf R mc ms Pc) (PostOf Qc mc ms free) (vx_Post XC mc ms free) := by
  obtain ⟨hrc, hrs, hfr, hlo, hws, hcw, -, hini, -⟩ := cb
  exact vx_back (bytes := bytes) (maxL := maxL) (ret := ret) hM hbl hrc hrs hfr hlo hws hcw (fun a' U hW => word_at hW (Or.inl (by first | rfl | simp [Cond.onTables, Cond.keeps, Cond.steady])) hini)
theorem vx_runV (S : CallFix p m c cc nL s args Ts own) (hM : vx_Met l y ws rm Pc Qc XC mc ms free) (cw : CallW R s args own C index y bytes maxL ret ws rm mc ms n) (hp : PreV s H C b Pc As)
    (hg : g.method = m) (hn : As.length = n) (hsize : g.locals.size = nL) (hstack : g.stack = As.reverse ++ .ref b :: rest) (hW : 2 * g.monitorRoom + (rest.map fun v => v.category).sum ≤ 8) (hdg : decode cc g.pc = .ok (.invokevirtual index, 3)) (hf : cells + mc ≤ R.cells ∧ slots + ms ≤ R.slots) :
    vx_Run p l e R s m args below meth c H locs cells slots mc ms g rest (Qc (Value.ref b :: As).toArray) XC free := by
  have hK : vx_Back l R p e below s args y 3 8 (PreOf R mc ms Pc) (PostOf Qc mc ms free) (vx_Post XC mc ms free) := vx_callBack cw.1 hM hp.1
  obtain ⟨⟨-, -, -, -, -, -, hcode, -, hy, hlen, hl⟩, hin, hse⟩ := cw
  obtain ⟨hx, hb, hml, ho, -⟩ := S
  obtain ⟨-, ⟨cellB, hcB, hoB, hclB⟩, hPc⟩ := hp
  intro T hT X
  rcases vx_callV X hx (C := C) (bytes := bytes) (maxL := maxL) (ret := ret) ho hl hin hse hcode hy hK (by rw [hT]; exact hcB) hoB hclB hg (hsize.trans hml.symm) (argsL := As) (rest := rest) (fun sig h => hn.trans (hlen sig h)) hstack hW (by rw [hb]; exact hdg)
    (fun vm₁ hW₁ => ⟨hf.1, hf.2, hPc (T.setVm vm₁) hT hW₁⟩) with ⟨v, vm₁, ⟨U', l2, c2, s2⟩, hW₁, X', ⟨g', mk, t, L, e1, e2, hq, h1, hL, h2, h3⟩, st⟩ | ⟨q, vm₁, ⟨U', l2, c2, s2⟩, hW₁, X', ⟨g', mk, t, L, E, ce, e1, e2, hq, hce, hcv, hcl, h1, hL, h2, h3⟩, st⟩
  · dsimp only [Pt.U, Pt.locs, Pt.cells, Pt.slots] at X' e1 e2 h1 h2 h3 st
    subst h1; subst h2; subst h3
    exact Or.inl ⟨v, (T.setVm vm₁).calling g' mk (Value.ref b :: As).toArray, t, U', L, hT, X', hL, e1, e2, hq, st⟩
  · dsimp only [Pt.U, Pt.locs, Pt.cells, Pt.slots] at X' e1 e2 h1 h2 h3 st hcl
    subst h1; subst h2; subst h3
    exact Or.inr ⟨q, (T.setVm vm₁).calling g' mk (Value.ref b :: As).toArray, t, U', L, E, ce, hT, X', hL, e1, e2, hq, hce, hcv, vx_cls hW₁ hcl, st⟩
theorem vx_runS (S : CallFix p m c cc nL s args Ts own) (hM : vx_Met l y ws rm Pc Qc XC mc ms free) (cw : CallB R s args own index y bytes maxL ret ws rm mc ms n ∧ (Cond.static y).before args s = true) (hp : PreS s H Pc As)
    (hg : g.method = m) (hn : As.length = n) (hsize : g.locals.size = nL) (hstack : g.stack = As.reverse ++ rest) (hW : 2 * g.monitorRoom + (rest.map fun v => v.category).sum ≤ 8) (hdg : decode cc g.pc = .ok (.invokestatic index, 3)) (hf : cells + mc ≤ R.cells ∧ slots + ms ≤ R.slots) :
    vx_Run p l e R s m args below meth c H locs cells slots mc ms g rest (Qc As.toArray) XC free := by
  have hK : vx_Back l R p e below s args y 3 8 (PreOf R mc ms Pc) (PostOf Qc mc ms free) (vx_Post XC mc ms free) := vx_callBack cw.1 hM hp.1
  obtain ⟨⟨-, -, -, -, -, -, hcode, hini, hy, hlen, hl⟩, hstt⟩ := cw
  obtain ⟨hx, hb, hml, ho, -⟩ := S
  intro T hT X
  rcases vx_callS X hx (bytes := bytes) (maxL := maxL) (ret := ret) ho hl hstt hini hcode hy hK hg (hsize.trans hml.symm) (argsL := As) (rest := rest) (fun sig h => hn.trans (hlen sig h)) hstack hW (by rw [hb]; exact hdg)
    (fun vm₁ hW₁ => ⟨hf.1, hf.2, hp.2 (T.setVm vm₁) hT hW₁⟩) with ⟨v, vm₁, ⟨U', l2, c2, s2⟩, hW₁, X', ⟨g', mk, t, L, e1, e2, hq, h1, hL, h2, h3⟩, st⟩ | ⟨q, vm₁, ⟨U', l2, c2, s2⟩, hW₁, X', ⟨g', mk, t, L, E, ce, e1, e2, hq, hce, hcv, hcl, h1, hL, h2, h3⟩, st⟩
  · dsimp only [Pt.U, Pt.locs, Pt.cells, Pt.slots] at X' e1 e2 h1 h2 h3 st
    subst h1; subst h2; subst h3
    exact Or.inl ⟨v, (T.setVm vm₁).calling g' mk As.toArray, t, U', L, hT, X', hL, e1, e2, hq, st⟩
  · dsimp only [Pt.U, Pt.locs, Pt.cells, Pt.slots] at X' e1 e2 h1 h2 h3 st hcl
    subst h1; subst h2; subst h3
    exact Or.inr ⟨q, (T.setVm vm₁).calling g' mk As.toArray, t, U', L, E, ce, hT, X', hL, e1, e2, hq, hce, hcv, vx_cls hW₁ hcl, st⟩
end Runs
section Rows
variable {p : Program} {l : Launch} {e : Env} {R : Room} {s : State} {m : MethodId} {args : Array Value} {below : List Frame} {meth : Method} {c : Code} {H : Heap} {locs : List Loc} {cells slots : Nat} {Q : State → Prop}
variable {mc ms : Nat} {free : Addr → Prop} {A0 A1 : Nat → Prop} {H0 : Heap} {a : Array Value} {pc : Nat} {ls : Array Slot} {st0 rest : List Value}
theorem vx_keep {st₀ t T' : State} {L : List Loc} (h0 : st₀.heap = H) (e1 : T'.heap = t.heap) (hS : va_S A0 H0 H locs) (hA : ∀ q, q < H.size → A1 q → A0 q) (hf : ∀ q, free q → A0 q) (hL : ∀ q ∈ L, free q.base) (hF : va_F A1 st₀ t) :
    H.size ≤ T'.heap.size ∧ (∀ q : Nat, q < H.size → ¬ A1 q → T'.heap[q]? = H[q]?) ∧ va_S A0 H0 T'.heap (locs ++ L) := by
  obtain ⟨hz, hk⟩ := hF
  rw [h0] at hz hk
  exact ⟨by rw [e1]; exact hz, fun q h1 h2 => by rw [e1]; exact hk q h1 h2,
    ⟨Nat.le_trans hS.1 (by rw [e1]; exact hz), fun q h1 h2 => by rw [e1, hk q (Nat.lt_of_lt_of_le h1 hS.1) (fun z => h2 (hA q (Nat.lt_of_lt_of_le h1 hS.1) z))]; exact hS.2.1 q h1 h2, fun q hq => by
      rcases List.mem_append.mp hq with h | h
      · exact hS.2.2 q h
      · exact hf _ (hL q h)⟩⟩
theorem vx_calli {S SX : Type} {post : Int32 → S → Prop} {px : SX → Prop} {B : S → State → Prop} {BX : String → SX → State → Prop} {AX : Nat → Prop} (hr : vx_Run p l e R s m args below meth c H locs cells slots mc ms (F0 m pc ls st0) rest (va_Qi post B A1 a) (vx_X px BX AX) free) (hS : va_S A0 H0 H locs) (hA : ∀ q, q < H.size → A1 q → A0 q) (hf : ∀ q, free q → A0 q) (hAX : ∀ q, q < H.size → AX q → A0 q)
    (kx : ∀ (E : String) (ce : Cell) (q9 : Addr) (u : SX) (t : State) (H1 : Heap) (locs1 : List Loc), t.heap = H1 → s.vm.Alike t.vm → px u → BX E u t → H.size ≤ H1.size → (∀ q : Nat, q < H.size → ¬ AX q → H1[q]? = H[q]?) → va_S A0 H0 H1 locs1 → H1[q9]? = some ce → ce.vm = .none → s.vm.findClass E = some ce.cls → vx_W p l e R s m args below meth c H1 locs1 (cells + mc) (slots + ms) Q (F0 m pc ls rest) q9)
    (kk : ∀ (r : Int32) (u : S) (t : State) (H1 : Heap) (locs1 : List Loc), t.heap = H1 → s.vm.Alike t.vm → post r u → B u t → H.size ≤ H1.size → (∀ q : Nat, q < H.size → ¬ A1 q → H1[q]? = H[q]?) → va_S A0 H0 H1 locs1 → W p l e R s m args below meth c H1 locs1 (cells + mc) (slots + ms) Q (F0 m (pc + 3) ls (.int r :: rest))) : W p l e R s m args below meth c H locs cells slots Q (F0 m pc ls st0) := by
  intro T hT X
  rcases hr T hT X with ⟨v, st₀, t, T', L, h0, X', hL, e1, e2, ⟨⟨r, u, hv, hp, hb⟩, hF⟩, st⟩ | ⟨q, st₀, t, T', L, E, ce, h0, X', hL, e1, e2, ⟨u, hp, hb, hF⟩, hce, hcv, hcl, st⟩
  · cases hv
    obtain ⟨k1, k2, k3⟩ := vx_keep h0 e1 hS hA hf hL hF
    obtain ⟨t2, a1, b1⟩ := kk r u t T'.heap (locs ++ L) e1.symm (by rw [← e2]; exact X'.warmed.alike) hp hb k1 k2 k3 T' rfl X'
    exact ⟨t2, st t2 a1, b1⟩
  · obtain ⟨k1, k2, k3⟩ := vx_keep h0 e1 hS hAX hf hL hF
    obtain ⟨t2, a1, b1⟩ := kx E ce q u t T'.heap (locs ++ L) e1.symm (by rw [← e2]; exact X'.warmed.alike) hp hb k1 k2 k3 (by rw [e1]; exact hce) hcv hcl T' rfl X'
    exact ⟨t2, st.trans a1, b1⟩
theorem vx_calll {S SX : Type} {post : Int64 → S → Prop} {px : SX → Prop} {B : S → State → Prop} {BX : String → SX → State → Prop} {AX : Nat → Prop} (hr : vx_Run p l e R s m args below meth c H locs cells slots mc ms (F0 m pc ls st0) rest (va_Ql post B A1 a) (vx_X px BX AX) free) (hS : va_S A0 H0 H locs) (hA : ∀ q, q < H.size → A1 q → A0 q) (hf : ∀ q, free q → A0 q) (hAX : ∀ q, q < H.size → AX q → A0 q)
    (kx : ∀ (E : String) (ce : Cell) (q9 : Addr) (u : SX) (t : State) (H1 : Heap) (locs1 : List Loc), t.heap = H1 → s.vm.Alike t.vm → px u → BX E u t → H.size ≤ H1.size → (∀ q : Nat, q < H.size → ¬ AX q → H1[q]? = H[q]?) → va_S A0 H0 H1 locs1 → H1[q9]? = some ce → ce.vm = .none → s.vm.findClass E = some ce.cls → vx_W p l e R s m args below meth c H1 locs1 (cells + mc) (slots + ms) Q (F0 m pc ls rest) q9)
    (kk : ∀ (r : Int64) (u : S) (t : State) (H1 : Heap) (locs1 : List Loc), t.heap = H1 → s.vm.Alike t.vm → post r u → B u t → H.size ≤ H1.size → (∀ q : Nat, q < H.size → ¬ A1 q → H1[q]? = H[q]?) → va_S A0 H0 H1 locs1 → W p l e R s m args below meth c H1 locs1 (cells + mc) (slots + ms) Q (F0 m (pc + 3) ls (.long r :: rest))) : W p l e R s m args below meth c H locs cells slots Q (F0 m pc ls st0) := by
  intro T hT X
  rcases hr T hT X with ⟨v, st₀, t, T', L, h0, X', hL, e1, e2, ⟨⟨r, u, hv, hp, hb⟩, hF⟩, st⟩ | ⟨q, st₀, t, T', L, E, ce, h0, X', hL, e1, e2, ⟨u, hp, hb, hF⟩, hce, hcv, hcl, st⟩
  · cases hv
    obtain ⟨k1, k2, k3⟩ := vx_keep h0 e1 hS hA hf hL hF
    obtain ⟨t2, a1, b1⟩ := kk r u t T'.heap (locs ++ L) e1.symm (by rw [← e2]; exact X'.warmed.alike) hp hb k1 k2 k3 T' rfl X'
    exact ⟨t2, st t2 a1, b1⟩
  · obtain ⟨k1, k2, k3⟩ := vx_keep h0 e1 hS hAX hf hL hF
    obtain ⟨t2, a1, b1⟩ := kx E ce q u t T'.heap (locs ++ L) e1.symm (by rw [← e2]; exact X'.warmed.alike) hp hb k1 k2 k3 (by rw [e1]; exact hce) hcv hcl T' rfl X'
    exact ⟨t2, st.trans a1, b1⟩
theorem vx_callf {S SX : Type} {post : UInt32 → S → Prop} {px : SX → Prop} {B : S → State → Prop} {BX : String → SX → State → Prop} {AX : Nat → Prop} (hr : vx_Run p l e R s m args below meth c H locs cells slots mc ms (F0 m pc ls st0) rest (va_Qf post B A1 a) (vx_X px BX AX) free) (hS : va_S A0 H0 H locs) (hA : ∀ q, q < H.size → A1 q → A0 q) (hf : ∀ q, free q → A0 q) (hAX : ∀ q, q < H.size → AX q → A0 q)
    (kx : ∀ (E : String) (ce : Cell) (q9 : Addr) (u : SX) (t : State) (H1 : Heap) (locs1 : List Loc), t.heap = H1 → s.vm.Alike t.vm → px u → BX E u t → H.size ≤ H1.size → (∀ q : Nat, q < H.size → ¬ AX q → H1[q]? = H[q]?) → va_S A0 H0 H1 locs1 → H1[q9]? = some ce → ce.vm = .none → s.vm.findClass E = some ce.cls → vx_W p l e R s m args below meth c H1 locs1 (cells + mc) (slots + ms) Q (F0 m pc ls rest) q9)
    (kk : ∀ (r : UInt32) (u : S) (t : State) (H1 : Heap) (locs1 : List Loc), t.heap = H1 → s.vm.Alike t.vm → post r u → B u t → H.size ≤ H1.size → (∀ q : Nat, q < H.size → ¬ A1 q → H1[q]? = H[q]?) → va_S A0 H0 H1 locs1 → W p l e R s m args below meth c H1 locs1 (cells + mc) (slots + ms) Q (F0 m (pc + 3) ls (.float r :: rest))) : W p l e R s m args below meth c H locs cells slots Q (F0 m pc ls st0) := by
  intro T hT X
  rcases hr T hT X with ⟨v, st₀, t, T', L, h0, X', hL, e1, e2, ⟨⟨r, u, hv, hp, hb⟩, hF⟩, st⟩ | ⟨q, st₀, t, T', L, E, ce, h0, X', hL, e1, e2, ⟨u, hp, hb, hF⟩, hce, hcv, hcl, st⟩
  · cases hv
    obtain ⟨k1, k2, k3⟩ := vx_keep h0 e1 hS hA hf hL hF
    obtain ⟨t2, a1, b1⟩ := kk r u t T'.heap (locs ++ L) e1.symm (by rw [← e2]; exact X'.warmed.alike) hp hb k1 k2 k3 T' rfl X'
    exact ⟨t2, st t2 a1, b1⟩
  · obtain ⟨k1, k2, k3⟩ := vx_keep h0 e1 hS hAX hf hL hF
    obtain ⟨t2, a1, b1⟩ := kx E ce q u t T'.heap (locs ++ L) e1.symm (by rw [← e2]; exact X'.warmed.alike) hp hb k1 k2 k3 (by rw [e1]; exact hce) hcv hcl T' rfl X'
    exact ⟨t2, st.trans a1, b1⟩
theorem vx_calld {S SX : Type} {post : UInt64 → S → Prop} {px : SX → Prop} {B : S → State → Prop} {BX : String → SX → State → Prop} {AX : Nat → Prop} (hr : vx_Run p l e R s m args below meth c H locs cells slots mc ms (F0 m pc ls st0) rest (va_Qd post B A1 a) (vx_X px BX AX) free) (hS : va_S A0 H0 H locs) (hA : ∀ q, q < H.size → A1 q → A0 q) (hf : ∀ q, free q → A0 q) (hAX : ∀ q, q < H.size → AX q → A0 q)
    (kx : ∀ (E : String) (ce : Cell) (q9 : Addr) (u : SX) (t : State) (H1 : Heap) (locs1 : List Loc), t.heap = H1 → s.vm.Alike t.vm → px u → BX E u t → H.size ≤ H1.size → (∀ q : Nat, q < H.size → ¬ AX q → H1[q]? = H[q]?) → va_S A0 H0 H1 locs1 → H1[q9]? = some ce → ce.vm = .none → s.vm.findClass E = some ce.cls → vx_W p l e R s m args below meth c H1 locs1 (cells + mc) (slots + ms) Q (F0 m pc ls rest) q9)
    (kk : ∀ (r : UInt64) (u : S) (t : State) (H1 : Heap) (locs1 : List Loc), t.heap = H1 → s.vm.Alike t.vm → post r u → B u t → H.size ≤ H1.size → (∀ q : Nat, q < H.size → ¬ A1 q → H1[q]? = H[q]?) → va_S A0 H0 H1 locs1 → W p l e R s m args below meth c H1 locs1 (cells + mc) (slots + ms) Q (F0 m (pc + 3) ls (.double r :: rest))) : W p l e R s m args below meth c H locs cells slots Q (F0 m pc ls st0) := by
  intro T hT X
  rcases hr T hT X with ⟨v, st₀, t, T', L, h0, X', hL, e1, e2, ⟨⟨r, u, hv, hp, hb⟩, hF⟩, st⟩ | ⟨q, st₀, t, T', L, E, ce, h0, X', hL, e1, e2, ⟨u, hp, hb, hF⟩, hce, hcv, hcl, st⟩
  · cases hv
    obtain ⟨k1, k2, k3⟩ := vx_keep h0 e1 hS hA hf hL hF
    obtain ⟨t2, a1, b1⟩ := kk r u t T'.heap (locs ++ L) e1.symm (by rw [← e2]; exact X'.warmed.alike) hp hb k1 k2 k3 T' rfl X'
    exact ⟨t2, st t2 a1, b1⟩
  · obtain ⟨k1, k2, k3⟩ := vx_keep h0 e1 hS hAX hf hL hF
    obtain ⟨t2, a1, b1⟩ := kx E ce q u t T'.heap (locs ++ L) e1.symm (by rw [← e2]; exact X'.warmed.alike) hp hb k1 k2 k3 (by rw [e1]; exact hce) hcv hcl T' rfl X'
    exact ⟨t2, st.trans a1, b1⟩
theorem vx_callv {S SX : Type} {post : S → Prop} {px : SX → Prop} {B : S → State → Prop} {BX : String → SX → State → Prop} {AX : Nat → Prop} (hr : vx_Run p l e R s m args below meth c H locs cells slots mc ms (F0 m pc ls st0) rest (va_Qv post B A1 a) (vx_X px BX AX) free) (hS : va_S A0 H0 H locs) (hA : ∀ q, q < H.size → A1 q → A0 q) (hf : ∀ q, free q → A0 q) (hAX : ∀ q, q < H.size → AX q → A0 q)
    (kx : ∀ (E : String) (ce : Cell) (q9 : Addr) (u : SX) (t : State) (H1 : Heap) (locs1 : List Loc), t.heap = H1 → s.vm.Alike t.vm → px u → BX E u t → H.size ≤ H1.size → (∀ q : Nat, q < H.size → ¬ AX q → H1[q]? = H[q]?) → va_S A0 H0 H1 locs1 → H1[q9]? = some ce → ce.vm = .none → s.vm.findClass E = some ce.cls → vx_W p l e R s m args below meth c H1 locs1 (cells + mc) (slots + ms) Q (F0 m pc ls rest) q9)
    (kk : ∀ (u : S) (t : State) (H1 : Heap) (locs1 : List Loc), t.heap = H1 → s.vm.Alike t.vm → post u → B u t → H.size ≤ H1.size → (∀ q : Nat, q < H.size → ¬ A1 q → H1[q]? = H[q]?) → va_S A0 H0 H1 locs1 → W p l e R s m args below meth c H1 locs1 (cells + mc) (slots + ms) Q (F0 m (pc + 3) ls (rest))) : W p l e R s m args below meth c H locs cells slots Q (F0 m pc ls st0) := by
  intro T hT X
  rcases hr T hT X with ⟨v, st₀, t, T', L, h0, X', hL, e1, e2, ⟨⟨u, hv, hp, hb⟩, hF⟩, st⟩ | ⟨q, st₀, t, T', L, E, ce, h0, X', hL, e1, e2, ⟨u, hp, hb, hF⟩, hce, hcv, hcl, st⟩
  · cases hv
    obtain ⟨k1, k2, k3⟩ := vx_keep h0 e1 hS hA hf hL hF
    obtain ⟨t2, a1, b1⟩ := kk u t T'.heap (locs ++ L) e1.symm (by rw [← e2]; exact X'.warmed.alike) hp hb k1 k2 k3 T' rfl X'
    exact ⟨t2, st t2 a1, b1⟩
  · obtain ⟨k1, k2, k3⟩ := vx_keep h0 e1 hS hAX hf hL hF
    obtain ⟨t2, a1, b1⟩ := kx E ce q u t T'.heap (locs ++ L) e1.symm (by rw [← e2]; exact X'.warmed.alike) hp hb k1 k2 k3 (by rw [e1]; exact hce) hcv hcl T' rfl X'
    exact ⟨t2, st.trans a1, b1⟩
/-- caught by the row x of this method's table; the rows ahead don't take it -/
theorem vx_catch {own name : String} {E : String} {ce : Cell} {q : Addr} (hown : s.vm.findClass own = some m.cls) (pre : List ExceptionTableEntry) (x : ExceptionTableEntry) (suf : List ExceptionTableEntry) (hsplit : c.exceptionTable.toList = pre ++ x :: suf)
    (hpass : ∀ z ∈ pre, covers z pc = false ∨ (z.catchType ≠ 0 ∧ ∃ nm : String, (Cond.classLink own z.catchType nm).before args s = true ∧ va_Nc E nm s)) (hx : covers x pc = true) (h0 : x.catchType ≠ 0)
    (hlink : (Cond.classLink own x.catchType name).before args s = true) (hcast : (Cond.castable E name).before args s = true) (hcell : H[q]? = some ce) (hv : ce.vm = .none) (hcl : s.vm.findClass E = some ce.cls)
    (kk : W p l e R s m args below meth c H locs cells slots Q (F0 m x.handlerPc ls [.ref q])) : vx_W p l e R s m args below meth c H locs cells slots Q (F0 m pc ls rest) q := by
  intro T hT X
  have hpl : e.platform.magicAccessors = ({} : Platform).magicAccessors := by rw [X.admits.platform]
  obtain ⟨c3, c4, hc3, hc4, hasg⟩ := Cond.castable_spec hcast
  cases Option.some.inj (hc3.symm.trans hcl)
  obtain ⟨c5, hc5, hcl5⟩ := Cond.classLink_spec hown hlink e.platform hpl
  cases Option.some.inj (hc4.symm.trans hc5)
  obtain ⟨vm', X', st⟩ := X.thenCaughtThrough q (g := F0 m pc ls rest) rfl (Steps.refl _) (by rw [hT]; exact hcell) (by rw [hv]; rfl) (by obtain ⟨k9, h9, -⟩ := Vm.findClass_spec hcl; exact ⟨k9, h9⟩) pre x suf hsplit
    (fun z hz => by
      rcases hpass z hz with h | ⟨hz0, nm, hl1, hn1⟩
      · exact Or.inl h
      · obtain ⟨c6, hc6, hcl6⟩ := Cond.classLink_spec hown hl1 e.platform hpl
        obtain ⟨a8, b8, h1, h2, h3⟩ := hn1
        cases Option.some.inj (h1.symm.trans hcl)
        cases Option.some.inj (h2.symm.trans hc6)
        exact Or.inr ⟨hz0, _, hcl6, h3⟩) hx (Or.inr ⟨h0, c4, hcl5, hasg⟩)
  obtain ⟨t, a1, b1⟩ := kk (T.setVm vm') hT X'
  exact ⟨t, st.trans a1, b1⟩
end Rows
section Ends
variable {p : Program} {l : Launch} {e : Env} {R : Room} {s : State} {m : MethodId} {args : Array Value} {below : List Frame} {meth : Method} {c : Code} {H : Heap} {locs : List Loc} {cells slots : Nat} {Q : State → Prop}
variable {mc ms : Nat} {free : Addr → Prop} {A0 A1 : Nat → Prop} {H0 : Heap} {a : Array Value} {ls : Array Slot} {st0 rest : List Value}
variable {Qc : Array Value → State → Outcome → State → Prop} {XC : String → State → State → Prop}
/-- what a body that may throw owes at its end -/
def vx_MQ (below : List Frame) (Qc : Array Value → State → Outcome → State → Prop) (XC : String → State → State → Prop) (a : Array Value) (s : State) (mc ms : Nat) (free : Addr → Prop) : State → Prop := fun t =>
  ∃ o, t.status = .running ∧ Ended t below o ∧ vx_Q Qc XC mc ms free a s o t
theorem vx_ret {g : JFrame} {mc ms : Nat} (k : W p l e R s m args below meth c H locs cells slots (MQ below Qc args s mc ms free) g) : W p l e R s m args below meth c H locs cells slots (vx_MQ below Qc XC args s mc ms free) g := by
  intro T hT X
  obtain ⟨t, a1, o, b1, b2, b3, b4⟩ := k T hT X
  exact ⟨t, a1, o, b1, b2, Or.inl ⟨b3, b4⟩⟩
/-- not caught here: it goes on to the caller -/
theorem vx_widen {g : JFrame} {q : Addr} {k n : Nat} (h1 : cells ≤ k) (h2 : slots ≤ n) (kk : vx_W p l e R s m args below meth c H locs k n Q g q) : vx_W p l e R s m args below meth c H locs cells slots Q g q := fun T hT X => kk T hT (stand_widen X h1 h2)
theorem vx_out {pc : Nat} {E : String} {ce : Cell} {q : Addr} {mc ms : Nat} (hout : ∀ x ∈ c.exceptionTable.toList, covers x pc = false) (hlocks : meth.locks = false) (hcell : H[q]? = some ce) (hv : ce.vm = .none) (hcl : s.vm.findClass E = some ce.cls)
    (hx : ∀ t : State, t.heap = H → s.vm.Alike t.vm → XC E s t) (hf : ∀ z ∈ locs, free z.base) (hc : cells ≤ mc) (hs : slots ≤ ms) :
    vx_W p l e R s m args below meth c H locs cells slots (vx_MQ below Qc XC args s mc ms free) (F0 m pc ls rest) q := by
  intro T hT X
  obtain ⟨st1, hrun, hend, hW, hsm⟩ := X.leaveThrown q (g := F0 m pc ls rest) rfl rfl rfl hout hlocks
  have hcell9 : (T.setFrames (.throwing q :: below)).heap[q]? = some ce := by
    show T.heap[q]? = some ce
    rw [hT]; exact hcell
  exact ⟨_, st1, .threw q, hrun, hend, Or.inr ⟨q, rfl, E, ce, locs, hx _ hT hW.alike, hcell9, hv, hcl, hW, hsm.mono hc hs, hf⟩⟩
theorem vx_frame {U : State} {k n : Nat} (h : s.sameButNew ({ U with vm := s.vm } : State) locs k n) : s.heap.size ≤ U.heap.size ∧ ∀ q : Nat, q < s.heap.size → (∀ z ∈ locs, z.base ≠ q) → U.heap[q]? = s.heap[q]? := by
  obtain ⟨-, h2, -, -, -, h6⟩ := h
  refine ⟨h2, fun q hq hz => ?_⟩
  obtain ⟨c9, e1, e2, e3, e4⟩ := h6 q _ (Array.getElem?_eq_getElem hq)
  have hs : c9.slots = (s.heap[q]).slots := Array.ext_getElem? fun i => e4 i fun hm => hz _ hm rfl
  have h9 : c9 = s.heap[q] := by
    rw [hs] at e2
    exact e2
  have e5 : U.heap[q]? = some c9 := e1
  rw [e5, h9, Array.getElem?_eq_getElem hq]
/-- the words of a throw but the four that speak of the heap -/
def vx_no (w : Cond) : Bool := decide (w ≠ .isRef (.static Bundle.tN "UNASSIGNED_STACK" Bundle.steD)) && decide (w ≠ .isRef (.static Bundle.tN "SUPPRESSED_SENTINEL" Bundle.listD)) && decide (w ≠ .laysStatic Bundle.tN "UNASSIGNED_STACK" Bundle.steD) && decide (w ≠ .laysStatic Bundle.tN "SUPPRESSED_SENTINEL" Bundle.listD)
def vx_at0 (own : String) (ic : Nat) (X : String) (names : List String) : List Cond := (Bundle.ownAtoms0 own ic X names).filter vx_no
def vx_atS (own : String) (ic : Nat) (X : String) (names : List String) : List Cond := (Bundle.ownAtoms own ic X names).filter vx_no
/-- a word that the tables alone decide, or a good one -/
def vx_ot (w : Cond) : Bool := w.onTables || goodWord w
theorem vx_ot_at {args a' : Array Value} {s U : State} {w : Cond} (hW : s.WarmedH U.vm) (hvm : s.vm = U.vm) (hg : vx_ot w = true) (h : w.before args s = true) : w.before a' U = true := by
  simp only [vx_ot, Bool.or_eq_true] at hg
  rcases hg with hg | hg
  · exact va_tabs hg hvm h
  · exact word_at hW (good_of_word hg) h
/-- a list's words: the good ones out of the method's own list, the others by premises of their own -/
theorem vx_hat {args : Array Value} {s : State} {L B : List Cond} (h1 : ∀ w ∈ L.filter goodWord, w.before args s = true) (h2 : ∀ w ∈ L.filter (fun w => !goodWord w), w ∈ B) (h3 : ∀ w ∈ B, w.before args s = true) : ∀ w ∈ L, w.before args s = true := by
  intro w hw
  by_cases g : goodWord w = true
  · exact h1 w (List.mem_filter.mpr ⟨hw, g⟩)
  · refine h3 w (h2 w (List.mem_filter.mpr ⟨hw, ?_⟩))
    show (!goodWord w) = true
    cases hgw : goodWord w
    · rfl
    · exact absurd hgw g
theorem vx_c {args : Array Value} {s : State} {w : Cond} {B : List Cond} (h : w.before args s = true) (t : ∀ w ∈ B, w.before args s = true) : ∀ w' ∈ w :: B, w'.before args s = true := fun w' h' => (List.mem_cons.mp h').elim (fun e => by rw [e]; exact h) (t w')
theorem vx_n {args : Array Value} {s : State} : ∀ w ∈ ([] : List Cond), w.before args s = true := fun _ h => nomatch h
theorem vx_own {args : Array Value} {s : State} {L : List Cond} (h1 : ∀ w ∈ L.filter vx_no, w.before args s = true)
    (hU : (Cond.isRef (.static Bundle.tN "UNASSIGNED_STACK" Bundle.steD)).before args s = true) (hN : (Cond.isRef (.static Bundle.tN "SUPPRESSED_SENTINEL" Bundle.listD)).before args s = true)
    (lU : (Cond.laysStatic Bundle.tN "UNASSIGNED_STACK" Bundle.steD).before args s = true) (lN : (Cond.laysStatic Bundle.tN "SUPPRESSED_SENTINEL" Bundle.listD).before args s = true) : ∀ w ∈ L, w.before args s = true := by
  intro w hw
  by_cases e1 : w = .isRef (.static Bundle.tN "UNASSIGNED_STACK" Bundle.steD)
  · rw [e1]; exact hU
  · by_cases e2 : w = .isRef (.static Bundle.tN "SUPPRESSED_SENTINEL" Bundle.listD)
    · rw [e2]; exact hN
    · by_cases e3 : w = .laysStatic Bundle.tN "UNASSIGNED_STACK" Bundle.steD
      · rw [e3]; exact lU
      · by_cases e4 : w = .laysStatic Bundle.tN "SUPPRESSED_SENTINEL" Bundle.listD
        · rw [e4]; exact lN
        · exact h1 w (List.mem_filter.mpr ⟨hw, by unfold vx_no; rw [decide_eq_true e1, decide_eq_true e2, decide_eq_true e3, decide_eq_true e4]; rfl⟩)
/-- where a static field lies, its class's statics cell in H -/
def vx_L (C n d : String) (A : Nat → Prop) (U : State) (H : Heap) : Prop := ∃ (c : ClassId) (k : Class) (i : Nat) (f : Field) (a : Nat) (cell : Cell), U.vm.findClass C = some c ∧ U.fieldFound? C n d = some (c, k, i, f) ∧ f.isStatic = true ∧ k.statics = some a ∧ H[a]? = some cell ∧ cell.vm.isStatics = true ∧ cell.cls = c ∧ f.slot < cell.slots.size ∧ k.staticTypes[f.slot]? = some f.type ∧ ¬ A a
theorem vx_L.moved {C n d : String} {A : Nat → Prop} {u U : State} {H : Heap} (hvm : u.vm.Alike U.vm) (h : vx_L C n d A u H) : vx_L C n d A U H := by
  obtain ⟨c, k, i, f, a, cell, h1, h2, h3, h4, h5, h6, h7, h8, h9, h10⟩ := h
  obtain ⟨k', hi', he⟩ := State.fieldFound?_setVm hvm h2
  exact ⟨c, k', i, f, a, cell, by rw [hvm.findClass]; exact h1, hi', h3, by rw [he]; exact h4, h5, h6, h7, h8, by rw [he]; exact h9, h10⟩
theorem vx_L.kept {C n d : String} {A : Nat → Prop} {U : State} {H H1 : Heap} (h : vx_L C n d A U H) (hq : ∀ a : Nat, a < H.size → ¬ A a → H1[a]? = H[a]?) : vx_L C n d A U H1 := by
  obtain ⟨c, k, i, f, a, cell, h1, h2, h3, h4, h5, h6, h7, h8, h9, h10⟩ := h
  exact ⟨c, k, i, f, a, cell, h1, h2, h3, h4, by rw [hq a (Array.getElem?_eq_some_iff.mp h5).1 h10]; exact h5, h6, h7, h8, h9, h10⟩
theorem vx_L.narrow {C n d : String} {A B : Nat → Prop} {U : State} {H : Heap} (h : vx_L C n d A U H) (hAB : ∀ q, B q → A q) : vx_L C n d B U H := by
  obtain ⟨c, k, i, f, a, cell, h1, h2, h3, h4, h5, h6, h7, h8, h9, h10⟩ := h
  exact ⟨c, k, i, f, a, cell, h1, h2, h3, h4, h5, h6, h7, h8, h9, fun z => h10 (hAB _ z)⟩
theorem vx_L.word {C n d : String} {A : Nat → Prop} {s : State} {args : Array Value} (h : vx_L C n d A s s.heap) : (Cond.laysStatic C n d).before args s = true := by
  obtain ⟨c, k, i, f, a, cell, h1, h2, h3, h4, h5, h6, h7, h8, h9, -⟩ := h
  show (Cond.laysStatic C n d).holds args s none s [] = true
  exact Cond.laysStatic_of h1 h2 h3 h4 h5 h6 h7 h8 h9
/-- .. and what it holds: null or some reference -/
def vx_Zq (C n d : String) (A : Nat → Prop) (U : State) (H : Heap) : Prop := va_Zq C n d A U H ∧ vx_L C n d A U H
theorem vx_Zq.moved {C n d : String} {A : Nat → Prop} {u U : State} {H : Heap} (hvm : u.vm.Alike U.vm) (h : vx_Zq C n d A u H) : vx_Zq C n d A U H := ⟨va_Zq.moved hvm h.1, vx_L.moved hvm h.2⟩
theorem vx_Zq.kept {C n d : String} {A : Nat → Prop} {U : State} {H H1 : Heap} (h : vx_Zq C n d A U H) (hq : ∀ a : Nat, a < H.size → ¬ A a → H1[a]? = H[a]?) : vx_Zq C n d A U H1 := ⟨va_Zq.kept h.1 hq, vx_L.kept h.2 hq⟩
theorem vx_Zq.narrow {C n d : String} {A B : Nat → Prop} {U : State} {H : Heap} (h : vx_Zq C n d A U H) (hAB : ∀ q, B q → A q) : vx_Zq C n d B U H := ⟨va_Zq.narrow h.1 hAB, vx_L.narrow h.2 hAB⟩
theorem vx_Zqof {args : Array Value} {s : State} {C n d : String} {A : Nat → Prop} (hl : (Cond.laysStatic C n d).before args s = true) (hini : (Cond.initialized C).before args s = true) (h : (Cond.isRef (.static C n d)).before args s = true) (hA : ∀ a : Nat, a < s.heap.size → ¬ A a) : vx_Zq C n d A s s.heap := by
  refine ⟨va_Zqof hl hini h hA, ?_⟩
  obtain ⟨c, k, i, f, a, cell, h1, h2, h3, h4, h5, h6, h7, h8, h9⟩ := Cond.laysStatic_spec hl
  exact ⟨c, k, i, f, a, cell, h1, h2, h3, h4, h5, h6, h7, h8, h9, hA a (Array.getElem?_eq_some_iff.mp h5).1⟩
theorem vx_isRef {C n d : String} {v : Value} {A : Nat → Prop} {s : State} {args : Array Value} (h : va_Z C n d v A s s.heap) (hv : v.isRef = true) : (Cond.isRef (.static C n d)).before args s = true := by
  obtain ⟨cf, kf, fi, f, a, cell, h1, h2, h3, h4, h5, h6, h7, -⟩ := h
  have he : (Term.static C n d).eval args s none [] s = some v := by
    simp [Term.eval, State.fieldNamed?, h1, h2, h4, h5, h6, h7]
  simp only [Cond.before, Cond.holds, Cond.value, he]
  cases v <;> simp_all [Value.isRef]
theorem vx_isRefq {C n d : String} {A : Nat → Prop} {s : State} {args : Array Value} (h : va_Zq C n d A s s.heap) : (Cond.isRef (.static C n d)).before args s = true := by
  rcases h with h | ⟨t, h⟩
  · exact vx_isRef h rfl
  · exact vx_isRef h rfl
/-- the same frame, seen from here: as if the method were called anew in this heap -/
theorem vx_rebase {T : State} (X : Stand p l e R s m args below meth c T locs cells slots) {R' : Room} (hf : R'.frames ≤ R.frames) (hl : R'.locals ≤ R.locals) (hc : cells + R'.cells ≤ R.cells) (hs : slots + R'.slots ≤ R.slots) :
    Stand p l e R' ((T.setVm s.vm).setFrames (.invoking m args :: below)) m args below meth c T [] 0 0 := by
  have htop : (T.setVm s.vm).topJava?.isSome := X.here.top
  have hF : ((T.setVm s.vm).setFrames (.invoking m args :: below)).frames = .invoking m args :: below := State.frames_setFrames _ (State.cur_lt_of_top htop)
  obtain ⟨g₀, hg0⟩ := Option.isSome_iff_exists.mp htop
  obtain ⟨r, hr⟩ := State.topJava?_eq_some.mp hg0
  have hl9 : e.platform.stackLimits (T.setVm s.vm).me = e.platform.stackLimits s.me := X.limits
  have hb9 : (T.setVm s.vm).me.stackBytes = s.me.stackBytes := X.bytes
  refine ⟨X.admits, X.cas, X.clock, hF, ?_, X.hears, X.method, X.code, X.here, X.tail, X.warmed, ?_, ?_, ?_⟩
  · have h := X.room
    have hU : ((T.setVm s.vm).setFrames (.invoking m args :: below)).localsInUse = s.localsInUse := by
      rw [State.localsInUse_invoking hF (meth := meth) (c := c) X.method X.code, State.localsInUse_invoking X.frames X.method X.code]
    simp only [State.hasRoom, Bool.and_eq_true, decide_eq_true_eq] at h ⊢
    obtain ⟨⟨⟨⟨h1, h2, h3, h4, h5, h6⟩, h7⟩, h8⟩, h9⟩ := h
    rw [X.frames, List.length_cons] at h2 h3
    have q1 := X.heapSize
    have q2 := X.used
    simp only [hF, hU, List.length_cons, State.stackLimits_setFrames, State.stackBytes_setFrames, hl9, hb9]
    refine ⟨⟨⟨⟨by omega, by omega, by omega, by omega, by omega, h6⟩, ?_⟩, ?_⟩, X.book⟩
    · show T.heap.size + R'.cells ≤ e.platform.maxCells
      omega
    · show T.slotsUsed + R'.slots ≤ e.platform.maxSlots
      omega
  · rw [State.stackLimits_setFrames]; rfl
  · rw [State.stackBytes_setFrames]; rfl
  · refine ⟨?_, Nat.le_refl _, Nat.le_refl _, ?_, ?_, fun a c9 h9 => ⟨c9, h9, rfl, rfl, fun _ _ => rfl⟩⟩
    · obtain ⟨t, ht, -⟩ := State.frames_cons hr
      show T.setVm s.vm = { ((T.setVm s.vm).setFrames (.invoking m args :: below)).setFrames (T.setVm s.vm).frames with heap := T.heap, slotsUsed := T.slotsUsed }
      rw [State.setFrames_setFrames, State.setFrames_self ht]
      rfl
    · show T.slotsUsed = T.slotsUsed + ((T.heap.toList.drop T.heap.size).map (·.slots.size)).sum
      rw [List.drop_eq_nil_of_le (Nat.le_of_eq Array.length_toList)]
      rfl
    · show ((T.heap.toList.drop T.heap.size).map (·.slots.size)).sum ≤ 0
      rw [List.drop_eq_nil_of_le (Nat.le_of_eq Array.length_toList)]
      exact Nat.le_refl _
/-- 'throw new E()': new; dup; invokespecial; athrow -/
theorem vx_throw0 {cc : ByteArray} {pc : Nat} (hexec : p.tables.exec = Jvm.exec) (hb : c.code = cc) (hl : l.stackTraces = false) {own cls : String} {names : List String} {ik ic mc ms : Nat} {A : Nat → Prop}
    (hown : s.vm.findClass own = some m.cls) (hcls : Bundle.fit cls = true) (hnames : ∀ n ∈ names, Bundle.fit n = true)
    (hk : (Cond.classLink own ik cls).before args s = true) (hini : (Cond.initialized cls).before args s = true) (hat : ∀ w ∈ vx_at0 own ic cls names, w.before args s = true)
    (hgood : ∀ w ∈ Cond.classLink own ik cls :: Cond.initialized cls :: vx_at0 own ic cls names, vx_ot w = true)
    (hU : vx_Zq Bundle.tN "UNASSIGNED_STACK" Bundle.steD A s s.heap) (hN : vx_Zq Bundle.tN "SUPPRESSED_SENTINEL" Bundle.listD A s s.heap) (hS : va_S A s.heap H locs) (hsize : ls.size = c.maxLocals)
    (d0 : decode cc pc = .ok (.new ik, 3)) (d3 : decode cc (pc + 3) = .ok (.dup, 1)) (d4 : decode cc (pc + 4) = .ok (.invokespecial ic, 3)) (d7 : decode cc (pc + 7) = .ok (.athrow, 1))
    (hout : ∀ x ∈ c.exceptionTable.toList, covers x (pc + 7) = false)
    (hRframes : names.length + 3 < R.frames) (hRlocals : (rest.map fun v => v.category).sum + (13 * (names.length + 1) + 42) ≤ R.locals) (hRcells : cells + 1 ≤ R.cells) (hRslots : slots + 6 ≤ R.slots) (hlocks : meth.locks = false)
    (hx : ∀ t : State, s.vm.Alike t.vm → H.size ≤ t.heap.size → (∀ q : Nat, q < H.size → t.heap[q]? = H[q]?) → XC cls s t)
    (hf : ∀ z ∈ locs, free z.base) (hc : cells + 1 ≤ mc) (hs : slots + 6 ≤ ms) :
    W p l e R s m args below meth c H locs cells slots (vx_MQ below Qc XC args s mc ms free) (F0 m pc ls rest) := by
  intro T hT X
  have htr : e.platform.stackTraces = false := (show e.platform.stackTraces = l.stackTraces by rw [X.admits.platform]).trans hl
  have Y := vx_rebase X (R' := { frames := R.frames, locals := R.locals, cells := 1, slots := 6 }) (Nat.le_refl _) (Nat.le_refl _) hRcells hRslots
  obtain ⟨s', hA⟩ : ∃ z, z = (T.setVm s.vm).setFrames (.invoking m args :: below) := ⟨_, rfl⟩
  rw [← hA] at Y
  have hvm : s'.vm = s.vm := by rw [hA]; rfl
  have hhp : s'.heap = H := by rw [hA]; exact hT
  have hW0 : s.WarmedH s'.vm := by rw [hvm]; exact State.WarmedH.refl s
  have hat' : ∀ w ∈ vx_at0 own ic cls names, w.before args s' = true := fun w hw => vx_ot_at hW0 hvm.symm (hgood w (List.mem_cons_of_mem _ (List.mem_cons_of_mem _ hw))) (hat w hw)
  have hk' : (Cond.classLink own ik cls).before args s' = true := vx_ot_at hW0 hvm.symm (hgood _ List.mem_cons_self) hk
  have hini' : (Cond.initialized cls).before args s' = true := vx_ot_at hW0 hvm.symm (hgood _ (List.mem_cons_of_mem _ List.mem_cons_self)) hini
  have hU' : vx_Zq Bundle.tN "UNASSIGNED_STACK" Bundle.steD A s' s'.heap := by rw [hhp]; exact vx_Zq.moved hW0.alike (hU.kept hS.2.1)
  have hN' : vx_Zq Bundle.tN "SUPPRESSED_SENTINEL" Bundle.listD A s' s'.heap := by rw [hhp]; exact vx_Zq.moved hW0.alike (hN.kept hS.2.1)
  have h : ∀ w ∈ Bundle.ownAtoms0 own ic cls names, w.before args s' = true := vx_own hat' (vx_isRefq hU'.1) (vx_isRefq hN'.1) hU'.2.word hN'.2.word
  have hown' : s'.vm.findClass own = some m.cls := by rw [hvm]; exact hown
  have hins : (Cond.instantiable cls 6).before args s' = true := h _ (by simp [Bundle.ownAtoms0])
  obtain ⟨vm₁, cX, kX, hfX, hkX, -, -, X₁, st1⟩ := Y.newCold hexec (own := own) (C := cls) (index := ik) (n := 6) hown' hk' hins hini'
    (g := F0 m pc ls rest) rfl (by rw [hb]; exact d0) (Nat.le_refl _) (Nat.le_refl _)
  generalize hT1 : (T.setVm vm₁).pushCell { cls := cX, slots := kX.instanceTypes.map defaultValue, vm := .none } = T1 at X₁ st1
  have hcat : (Value.ref T.heap.size).category = 1 := rfl
  have hcellA : T1.heap[T.heap.size]? = some (freshCell cX kX) := by rw [← hT1]; exact State.heap_pushCell_size _ _
  have d3' : decode c.code (pc + 3) = .ok (.dup, 1) := by rw [hb]; exact d3
  obtain ⟨U, hsteps, hrun, hend, hW, hsame, ce, hce, hO⟩ := X₁.ctorThrow0 hexec htr (own := own) (cls := cls) (names := names) (ic := ic) hown' hcls hnames h (fun x hx => nomatch hx) hfX hkX hcellA (by rw [hhp, hT]; exact Nat.le_refl _)
    (g := { method := m, pc := pc + 4, locals := ls, stack := .ref T.heap.size :: .ref T.heap.size :: rest, locked := none }) rfl hsize rfl rfl (rest := rest) rfl
    (by rw [hb]; exact d4) (by rw [hb]; exact d7) hout hRframes (by simp only [List.map_cons, List.sum_cons, hcat]; omega) hlocks
  obtain ⟨f1, f2⟩ := vx_frame hsame
  rw [hhp] at f1 f2
  have hWs : s.WarmedH U.vm := State.WarmedH.trans hW0 hW
  have hcl : s.vm.findClass cls = some ce.cls := by
    have h9 := hO.cls
    rw [hvm] at h9
    exact h9
  have hall : s.sameButNew ({ U with vm := s.vm } : State) locs mc ms := by
    subst hA
    obtain ⟨e1, e2⟩ := hsame
    rw [State.setFrames_setFrames] at e1
    have h2 : (T.setVm s.vm).sameButNew ({ U with vm := s.vm } : State) [] (0 + 1) (0 + 6) := ⟨e1, e2⟩
    have h3 := X.same.trans h2
    rw [List.append_nil] at h3
    exact h3.mono hc hs
  refine ⟨U, ?_, .threw T.heap.size, hrun, hend, Or.inr ⟨T.heap.size, rfl, cls, ce, locs, hx U hWs.alike f1 (fun q hq => f2 q hq (fun z hz => nomatch hz)), hce, hO.vm, hcl, hWs, hall, hf⟩⟩
  refine st1 _ ?_
  show Steps p.tables e below (T1.setTop { method := m, pc := pc + 3, locals := ls, stack := .ref T.heap.size :: rest, locked := none }) _
  jvm_step X₁.here [X₁.here.top, hexec, d3', Value.category]
  exact hsteps
/-- 'throw new E("text")': new; dup; ldc; invokespecial; athrow -/
theorem vx_throwS {cc : ByteArray} {pc : Nat} (hexec : p.tables.exec = Jvm.exec) (hb : c.code = cc) (hl : l.stackTraces = false) {own cls text : String} {names : List String} {ik is ic mc ms sa : Nat} {A : Nat → Prop}
    (hown : s.vm.findClass own = some m.cls) (hcls : Bundle.fit cls = true) (hnames : ∀ n ∈ names, Bundle.fit n = true)
    (hk : (Cond.classLink own ik cls).before args s = true) (hini : (Cond.initialized cls).before args s = true) (hstr : vk_R own is text sa s) (hat : ∀ w ∈ vx_atS own ic cls names, w.before args s = true)
    (hgood : ∀ w ∈ Cond.classLink own ik cls :: Cond.initialized cls :: vx_atS own ic cls names, vx_ot w = true)
    (hU : vx_Zq Bundle.tN "UNASSIGNED_STACK" Bundle.steD A s s.heap) (hN : vx_Zq Bundle.tN "SUPPRESSED_SENTINEL" Bundle.listD A s s.heap) (hS : va_S A s.heap H locs) (hsize : ls.size = c.maxLocals)
    (d0 : decode cc pc = .ok (.new ik, 3)) (d3 : decode cc (pc + 3) = .ok (.dup, 1)) (d4 : decode cc (pc + 4) = .ok (.ldc is, 2)) (d6 : decode cc (pc + 6) = .ok (.invokespecial ic, 3)) (d9 : decode cc (pc + 9) = .ok (.athrow, 1))
    (hout : ∀ x ∈ c.exceptionTable.toList, covers x (pc + 9) = false)
    (hRframes : names.length + 3 < R.frames) (hRlocals : (rest.map fun v => v.category).sum + (13 * (names.length + 1) + 43) ≤ R.locals) (hRcells : cells + 1 ≤ R.cells) (hRslots : slots + 6 ≤ R.slots) (hlocks : meth.locks = false)
    (hx : ∀ t : State, s.vm.Alike t.vm → H.size ≤ t.heap.size → (∀ q : Nat, q < H.size → t.heap[q]? = H[q]?) → XC cls s t)
    (hf : ∀ z ∈ locs, free z.base) (hc : cells + 1 ≤ mc) (hs : slots + 6 ≤ ms) :
    W p l e R s m args below meth c H locs cells slots (vx_MQ below Qc XC args s mc ms free) (F0 m pc ls rest) := by
  intro T hT X
  have htr : e.platform.stackTraces = false := (show e.platform.stackTraces = l.stackTraces by rw [X.admits.platform]).trans hl
  have Y := vx_rebase X (R' := { frames := R.frames, locals := R.locals, cells := 1, slots := 6 }) (Nat.le_refl _) (Nat.le_refl _) hRcells hRslots
  obtain ⟨s', hA⟩ : ∃ z, z = (T.setVm s.vm).setFrames (.invoking m args :: below) := ⟨_, rfl⟩
  rw [← hA] at Y
  have hvm : s'.vm = s.vm := by rw [hA]; rfl
  have hhp : s'.heap = H := by rw [hA]; exact hT
  have hW0 : s.WarmedH s'.vm := by rw [hvm]; exact State.WarmedH.refl s
  have hat' : ∀ w ∈ vx_atS own ic cls names, w.before args s' = true := fun w hw => vx_ot_at hW0 hvm.symm (hgood w (List.mem_cons_of_mem _ (List.mem_cons_of_mem _ hw))) (hat w hw)
  have hk' : (Cond.classLink own ik cls).before args s' = true := vx_ot_at hW0 hvm.symm (hgood _ List.mem_cons_self) hk
  have hini' : (Cond.initialized cls).before args s' = true := vx_ot_at hW0 hvm.symm (hgood _ (List.mem_cons_of_mem _ List.mem_cons_self)) hini
  have hU' : vx_Zq Bundle.tN "UNASSIGNED_STACK" Bundle.steD A s' s'.heap := by rw [hhp]; exact vx_Zq.moved hW0.alike (hU.kept hS.2.1)
  have hN' : vx_Zq Bundle.tN "SUPPRESSED_SENTINEL" Bundle.listD A s' s'.heap := by rw [hhp]; exact vx_Zq.moved hW0.alike (hN.kept hS.2.1)
  have h : ∀ w ∈ Bundle.ownAtoms own ic cls names, w.before args s' = true := vx_own hat' (vx_isRefq hU'.1) (vx_isRefq hN'.1) hU'.2.word hN'.2.word
  have hown' : s'.vm.findClass own = some m.cls := by rw [hvm]; exact hown
  have hins : (Cond.instantiable cls 6).before args s' = true := h _ (by simp [Bundle.ownAtoms])
  obtain ⟨vm₁, cX, kX, hfX, hkX, -, -, X₁, st1⟩ := Y.newCold hexec (own := own) (C := cls) (index := ik) (n := 6) hown' hk' hins hini'
    (g := F0 m pc ls rest) rfl (by rw [hb]; exact d0) (Nat.le_refl _) (Nat.le_refl _)
  generalize hT1 : (T.setVm vm₁).pushCell { cls := cX, slots := kX.instanceTypes.map defaultValue, vm := .none } = T1 at X₁ st1
  have hcat : (Value.ref T.heap.size).category = 1 := rfl
  have hcellA : T1.heap[T.heap.size]? = some (freshCell cX kX) := by rw [← hT1]; exact State.heap_pushCell_size _ _
  have d3' : decode c.code (pc + 3) = .ok (.dup, 1) := by rw [hb]; exact d3
  have d4' : decode c.code (pc + 4) = .ok (.ldc is, 2) := by rw [hb]; exact d4
  have hstr' : vk_R own is text sa s' := vk_R.warm hW0 hstr
  obtain ⟨U, hsteps, hrun, hend, hW, hsame, ce, hce, hO⟩ := X₁.ctorThrowS hexec htr (own := own) (cls := cls) (names := names) (ic := ic) hown' hcls hnames h (fun x hx => nomatch hx) hfX hkX hcellA (by rw [hhp, hT]; exact Nat.le_refl _) (msg := .ref sa) rfl
    (g := { method := m, pc := pc + 6, locals := ls, stack := .ref sa :: .ref T.heap.size :: .ref T.heap.size :: rest, locked := none }) rfl hsize rfl rfl (rest := rest) rfl
    (by rw [hb]; exact d6) (by rw [hb]; exact d9) hout hRframes (by simp only [List.map_cons, List.sum_cons, hcat]; omega) hlocks
  obtain ⟨f1, f2⟩ := vx_frame hsame
  rw [hhp] at f1 f2
  have hWs : s.WarmedH U.vm := State.WarmedH.trans hW0 hW
  have hcl : s.vm.findClass cls = some ce.cls := by
    have h9 := hO.cls
    rw [hvm] at h9
    exact h9
  have hall : s.sameButNew ({ U with vm := s.vm } : State) locs mc ms := by
    subst hA
    obtain ⟨e1, e2⟩ := hsame
    rw [State.setFrames_setFrames] at e1
    have h2 : (T.setVm s.vm).sameButNew ({ U with vm := s.vm } : State) [] (0 + 1) (0 + 6) := ⟨e1, e2⟩
    have h3 := X.same.trans h2
    rw [List.append_nil] at h3
    exact h3.mono hc hs
  refine ⟨U, ?_, .threw T.heap.size, hrun, hend, Or.inr ⟨T.heap.size, rfl, cls, ce, locs, hx U hWs.alike f1 (fun q hq => f2 q hq (fun z hz => nomatch hz)), hce, hO.vm, hcl, hWs, hall, hf⟩⟩
  refine st1 _ ?_
  show Steps p.tables e below (T1.setTop { method := m, pc := pc + 3, locals := ls, stack := .ref T.heap.size :: rest, locked := none }) _
  jvm_step X₁.here [X₁.here.top, hexec, d3', Value.category]
  exact X₁.ldcString hexec (own := own) (text := text) (index := is) (a := sa) hown' hstr'.1 hstr'.2
    (g := { method := m, pc := pc + 4, locals := ls, stack := .ref T.heap.size :: .ref T.heap.size :: rest, locked := none }) rfl d4' _ hsteps
/-- 'throw new E("text")', the text by a wide index -/
theorem vx_throwSW {cc : ByteArray} {pc : Nat} (hexec : p.tables.exec = Jvm.exec) (hb : c.code = cc) (hl : l.stackTraces = false) {own cls text : String} {names : List String} {ik is ic mc ms sa : Nat} {A : Nat → Prop}
    (hown : s.vm.findClass own = some m.cls) (hcls : Bundle.fit cls = true) (hnames : ∀ n ∈ names, Bundle.fit n = true)
    (hk : (Cond.classLink own ik cls).before args s = true) (hini : (Cond.initialized cls).before args s = true) (hstr : vk_R own is text sa s) (hat : ∀ w ∈ vx_atS own ic cls names, w.before args s = true)
    (hgood : ∀ w ∈ Cond.classLink own ik cls :: Cond.initialized cls :: vx_atS own ic cls names, vx_ot w = true)
    (hU : vx_Zq Bundle.tN "UNASSIGNED_STACK" Bundle.steD A s s.heap) (hN : vx_Zq Bundle.tN "SUPPRESSED_SENTINEL" Bundle.listD A s s.heap) (hS : va_S A s.heap H locs) (hsize : ls.size = c.maxLocals)
    (d0 : decode cc pc = .ok (.new ik, 3)) (d3 : decode cc (pc + 3) = .ok (.dup, 1)) (d4 : decode cc (pc + 4) = .ok (.ldc_w is, 3)) (d7 : decode cc (pc + 7) = .ok (.invokespecial ic, 3)) (d10 : decode cc (pc + 10) = .ok (.athrow, 1))
    (hout : ∀ x ∈ c.exceptionTable.toList, covers x (pc + 10) = false)
    (hRframes : names.length + 3 < R.frames) (hRlocals : (rest.map fun v => v.category).sum + (13 * (names.length + 1) + 43) ≤ R.locals) (hRcells : cells + 1 ≤ R.cells) (hRslots : slots + 6 ≤ R.slots) (hlocks : meth.locks = false)
    (hx : ∀ t : State, s.vm.Alike t.vm → H.size ≤ t.heap.size → (∀ q : Nat, q < H.size → t.heap[q]? = H[q]?) → XC cls s t)
    (hf : ∀ z ∈ locs, free z.base) (hc : cells + 1 ≤ mc) (hs : slots + 6 ≤ ms) :
    W p l e R s m args below meth c H locs cells slots (vx_MQ below Qc XC args s mc ms free) (F0 m pc ls rest) := by
  intro T hT X
  have htr : e.platform.stackTraces = false := (show e.platform.stackTraces = l.stackTraces by rw [X.admits.platform]).trans hl
  have Y := vx_rebase X (R' := { frames := R.frames, locals := R.locals, cells := 1, slots := 6 }) (Nat.le_refl _) (Nat.le_refl _) hRcells hRslots
  obtain ⟨s', hA⟩ : ∃ z, z = (T.setVm s.vm).setFrames (.invoking m args :: below) := ⟨_, rfl⟩
  rw [← hA] at Y
  have hvm : s'.vm = s.vm := by rw [hA]; rfl
  have hhp : s'.heap = H := by rw [hA]; exact hT
  have hW0 : s.WarmedH s'.vm := by rw [hvm]; exact State.WarmedH.refl s
  have hat' : ∀ w ∈ vx_atS own ic cls names, w.before args s' = true := fun w hw => vx_ot_at hW0 hvm.symm (hgood w (List.mem_cons_of_mem _ (List.mem_cons_of_mem _ hw))) (hat w hw)
  have hk' : (Cond.classLink own ik cls).before args s' = true := vx_ot_at hW0 hvm.symm (hgood _ List.mem_cons_self) hk
  have hini' : (Cond.initialized cls).before args s' = true := vx_ot_at hW0 hvm.symm (hgood _ (List.mem_cons_of_mem _ List.mem_cons_self)) hini
  have hU' : vx_Zq Bundle.tN "UNASSIGNED_STACK" Bundle.steD A s' s'.heap := by rw [hhp]; exact vx_Zq.moved hW0.alike (hU.kept hS.2.1)
  have hN' : vx_Zq Bundle.tN "SUPPRESSED_SENTINEL" Bundle.listD A s' s'.heap := by rw [hhp]; exact vx_Zq.moved hW0.alike (hN.kept hS.2.1)
  have h : ∀ w ∈ Bundle.ownAtoms own ic cls names, w.before args s' = true := vx_own hat' (vx_isRefq hU'.1) (vx_isRefq hN'.1) hU'.2.word hN'.2.word
  have hown' : s'.vm.findClass own = some m.cls := by rw [hvm]; exact hown
  have hins : (Cond.instantiable cls 6).before args s' = true := h _ (by simp [Bundle.ownAtoms])
  obtain ⟨vm₁, cX, kX, hfX, hkX, -, -, X₁, st1⟩ := Y.newCold hexec (own := own) (C := cls) (index := ik) (n := 6) hown' hk' hins hini'
    (g := F0 m pc ls rest) rfl (by rw [hb]; exact d0) (Nat.le_refl _) (Nat.le_refl _)
  generalize hT1 : (T.setVm vm₁).pushCell { cls := cX, slots := kX.instanceTypes.map defaultValue, vm := .none } = T1 at X₁ st1
  have hcat : (Value.ref T.heap.size).category = 1 := rfl
  have hcellA : T1.heap[T.heap.size]? = some (freshCell cX kX) := by rw [← hT1]; exact State.heap_pushCell_size _ _
  have d3' : decode c.code (pc + 3) = .ok (.dup, 1) := by rw [hb]; exact d3
  have d4' : decode c.code (pc + 4) = .ok (.ldc_w is, 3) := by rw [hb]; exact d4
  have hstr' : vk_R own is text sa s' := vk_R.warm hW0 hstr
  obtain ⟨U, hsteps, hrun, hend, hW, hsame, ce, hce, hO⟩ := X₁.ctorThrowS hexec htr (own := own) (cls := cls) (names := names) (ic := ic) hown' hcls hnames h (fun x hx => nomatch hx) hfX hkX hcellA (by rw [hhp, hT]; exact Nat.le_refl _) (msg := .ref sa) rfl
    (g := { method := m, pc := pc + 7, locals := ls, stack := .ref sa :: .ref T.heap.size :: .ref T.heap.size :: rest, locked := none }) rfl hsize rfl rfl (rest := rest) rfl
    (by rw [hb]; exact d7) (by rw [hb]; exact d10) hout hRframes (by simp only [List.map_cons, List.sum_cons, hcat]; omega) hlocks
  obtain ⟨f1, f2⟩ := vx_frame hsame
  rw [hhp] at f1 f2
  have hWs : s.WarmedH U.vm := State.WarmedH.trans hW0 hW
  have hcl : s.vm.findClass cls = some ce.cls := by
    have h9 := hO.cls
    rw [hvm] at h9
    exact h9
  have hall : s.sameButNew ({ U with vm := s.vm } : State) locs mc ms := by
    subst hA
    obtain ⟨e1, e2⟩ := hsame
    rw [State.setFrames_setFrames] at e1
    have h2 : (T.setVm s.vm).sameButNew ({ U with vm := s.vm } : State) [] (0 + 1) (0 + 6) := ⟨e1, e2⟩
    have h3 := X.same.trans h2
    rw [List.append_nil] at h3
    exact h3.mono hc hs
  refine ⟨U, ?_, .threw T.heap.size, hrun, hend, Or.inr ⟨T.heap.size, rfl, cls, ce, locs, hx U hWs.alike f1 (fun q hq => f2 q hq (fun z hz => nomatch hz)), hce, hO.vm, hcl, hWs, hall, hf⟩⟩
  refine st1 _ ?_
  show Steps p.tables e below (T1.setTop { method := m, pc := pc + 3, locals := ls, stack := .ref T.heap.size :: rest, locked := none }) _
  jvm_step X₁.here [X₁.here.top, hexec, d3', Value.category]
  exact X₁.ldcStringW hexec (own := own) (text := text) (index := is) (a := sa) hown' hstr'.1 hstr'.2
    (g := { method := m, pc := pc + 4, locals := ls, stack := .ref T.heap.size :: .ref T.heap.size :: rest, locked := none }) rfl d4' _ hsteps
end Ends
section Bodies
variable {l : Launch}
theorem vx_ofW {y : MethodName} {ws ws' : List Cond} {rm : Room} {Pc : Array Value → State → Prop} {Qc : Array Value → State → Outcome → State → Prop} {XC : String → State → State → Prop} {mc ms : Nat} {free : Addr → Prop} {cc : ByteArray} {maxL : Nat} {ret : Option FieldType}
    (hy : plainName y.cls = true) (hw : ws = Cond.code y cc maxL ret :: ws')
    (body : ∀ p e s m args below meth c s₁, BodyLoose p l y (headSpec ws rm) cc maxL ret e s m args below meth c s₁ → c.maxLocals = maxL → (∀ x ∈ c.exceptionTable.toList, False) → Pc args s →
      W p l e (headSpec ws rm).room s m args below meth c s.heap [] 0 0 (vx_MQ below Qc XC args s mc ms free) (entryFrame m args maxL)) : vx_Met l y ws rm Pc Qc XC mc ms free := by
  refine MetFree.of_bodyS (code := cc) (maxLocals := maxL) (ret := ret) hy ?_ ?_
  · intro args s m h hn
    obtain ⟨meth, c, h1, h2, h3, h4, h5, h6, -, -⟩ := Cond.code_spec hn (atoms_spec (ws := ws) h _ (by rw [hw]; exact List.mem_cons_self))
    exact ⟨meth, c, h1, h2, h3, h4, h5, h6⟩
  · intro p e s m args below meth c s₁ B hml hP _
    have hh0 : s₁.heap = s.heap := by rw [B.state]; rfl
    have ht : ∀ x ∈ c.exceptionTable.toList, False := by
      obtain ⟨meth9, c9, h1, h2, -, -, -, -, h7, -⟩ := Cond.code_spec B.named (atoms_spec (ws := ws) B.pre _ (by rw [hw]; exact List.mem_cons_self))
      cases Option.some.inj (h1.symm.trans B.method)
      cases Option.some.inj (h2.symm.trans (Stand.of_body B).code)
      intro x hx
      rw [Array.isEmpty_iff.mp h7] at hx
      cases hx
    obtain ⟨t, a1, o, b1, b2, b3⟩ := body p e s m args below meth c s₁ B hml ht hP s₁ hh0 (Stand.of_body B)
    exact ⟨t, o, a1, b1, b2, b3⟩
/-- the table of a body with handlers -/
theorem vx_table {p : Program} {x y : MethodName} {S : Spec} {cc bytes : ByteArray} {maxL maxL' : Nat} {ret ret' : Option FieldType} {e : Env} {s s₁ : State} {m : MethodId} {args : Array Value} {below : List Frame} {meth : Method} {c : Code} {hh : List (Nat × Nat × Nat × Nat)}
    (B : BodyLoose p l y S cc maxL ret e s m args below meth c s₁) (h : (Cond.codeWith y bytes maxL' ret' hh).before args s = true) : c.exceptionTable.toList = tableOf hh := by
  obtain ⟨m9, meth9, c9, hn9, h1, h2, -, -, h6, -⟩ := Cond.codeWith_spec h
  cases Option.some.inj (hn9.symm.trans B.named)
  cases Option.some.inj (h1.symm.trans B.method)
  cases Option.some.inj (h2.symm.trans (Stand.of_body B).code)
  rw [← h6, table_eq]
end Bodies
end VXA
/-! ===== END ===== -/
/-! ===== BEGIN a static call of a method with an exception table ===== -/
section VXS
variable {p : Program} {l : Launch} {e : Env} {R : Room} {s : State} {m : MethodId} {args : Array Value} {below : List Frame} {meth : Method} {c : Code} {T : State} {H : Heap} {locs : List Loc} {cells slots : Nat}
abbrev vx_CSW (R : Room) (s : State) (args : Array Value) (own : String) (index : Nat) (y : MethodName) (bytes : ByteArray) (maxL : Nat) (ret : Option FieldType) (hh : List (Nat × Nat × Nat × Nat)) (ws : List Cond) (rm : Room) (mc ms n : Nat) : Prop :=
  (rm.cells = mc ∧ rm.slots = ms ∧ rm.frames + 1 ≤ R.frames ∧ 8 + (maxL + 11) + rm.locals ≤ R.locals ∧ (∀ w ∈ ws, ∀ (a' : Array Value) (U : State), s.WarmedH U.vm → w.before a' U = true) ∧ Cond.codeWith y bytes maxL ret hh ∈ ws) ∧
  (Cond.codeWith y bytes maxL ret hh).before args s = true ∧ (Cond.initialized y.cls).before args s = true ∧ (y.cls ≠ "java/lang/invoke/MethodHandle" ∧ y.cls ≠ "java/lang/invoke/VarHandle") ∧
  (∀ sig, parseMethodDescriptor y.desc = some sig → n = sig.parameters.length) ∧ (Cond.methodLink own index y).before args s = true ∧ (Cond.static y).before args s = true
theorem vx_cwSW {own : String} {index maxL mc ms : Nat} {y : MethodName} {bytes : ByteArray} {ret : Option FieldType} {hh : List (Nat × Nat × Nat × Nat)} {Ts ws ws' : List Cond} {rm : Room} (n : Nat) (ht : ∀ w ∈ Ts, w.before args s = true) (hT : GoodIn Ts (va_wsS own index y ws)) (hw : ws = Cond.codeWith y bytes maxL ret hh :: ws') (hrc : rm.cells = mc) (hrs : rm.slots = ms)
    (hd : y.cls ≠ "java/lang/invoke/MethodHandle" ∧ y.cls ≠ "java/lang/invoke/VarHandle" ∧ (parseMethodDescriptor y.desc).map (fun d => d.parameters.length) = some n) (hR : rm.frames + 1 ≤ R.frames ∧ 8 + (maxL + 11) + rm.locals ≤ R.locals) :
    vx_CSW R s args own index y bytes maxL ret hh ws rm mc ms n := by
  have ok : ∀ w ∈ va_wsS own index y ws, w.before args s = true := fun w h => ht w (hT w h).1
  have hG : GoodIn Ts ws := fun w h => hT w (by unfold va_wsS; exact List.mem_append_right _ h)
  have hc : Cond.codeWith y bytes maxL ret hh ∈ ws := by rw [hw]; exact List.mem_cons_self
  refine ⟨⟨hrc, hrs, hR.1, hR.2, pay_in ht hG, hc⟩, ht _ (hG _ hc).1, ok _ (by simp [va_wsS]), ⟨hd.1, hd.2.1⟩, fun sig h => ?_, ok _ (by simp [va_wsS]), ok _ (by simp [va_wsS])⟩
  have h2 := hd.2.2
  rw [h] at h2
  exact (Option.some.inj h2).symm
theorem vx_callSW (X : Stand p l e R s m args below meth c T locs cells slots) (hexec : p.tables.exec = Jvm.exec) {own : String} {index : Nat} {y : MethodName} {bytes : ByteArray} {maxL : Nat} {ret : Option FieldType} {hh : List (Nat × Nat × Nat × Nat)}
    (hown : s.vm.findClass own = some m.cls) (hlink : (Cond.methodLink own index y).before args s = true) (hstat : (Cond.static y).before args s = true) (hinit : (Cond.initialized y.cls).before args s = true)
    (hcode : (Cond.codeWith y bytes maxL ret hh).before args s = true) (hy : y.cls ≠ "java/lang/invoke/MethodHandle" ∧ y.cls ≠ "java/lang/invoke/VarHandle")
    {W9 : Nat} {Pre : Pt → Array Value → Prop} {Post : Pt → Array Value → Option Value → Pt → Prop} (hK : Back l R p e below s args y 3 W9 Pre Post)
    {g : JFrame} (hg : g.method = m) (hsize : g.locals.size = c.maxLocals) {argsL rest : List Value} (hlen : ∀ sig, parseMethodDescriptor y.desc = some sig → argsL.length = sig.parameters.length)
    (hstack : g.stack = argsL.reverse ++ rest) (hW : 2 * g.monitorRoom + (rest.map fun v => v.category).sum ≤ W9) (hdg : decode c.code g.pc = .ok (.invokestatic index, 3))
    (hpre : ∀ vm₁, s.WarmedH vm₁ → Pre ⟨T.setVm vm₁, locs, cells, slots⟩ argsL.toArray) :
    ∃ (v : Option Value) (vm₁ : Vm) (B : Pt), s.WarmedH vm₁ ∧ Stand p l e R s m args below meth c B.U B.locs B.cells B.slots ∧ Post ⟨T.setVm vm₁, locs, cells, slots⟩ argsL.toArray v B ∧
      ∀ target, Steps p.tables e below (B.U.setTop { g with pc := g.pc + 3, stack := v.toList ++ rest }) target → Steps p.tables e below (T.setTop g) target := by
  obtain ⟨mk, methM, cM, hnamed, hmethM, -, -, -, -, -, -, hsigM⟩ := Cond.codeWith_spec hcode
  have hstatic : methM.isStatic = true := Cond.static_spec hnamed hmethM hstat
  obtain ⟨kP, hkP, -⟩ := className_of_methodNamed hnamed
  have hinitP : kP.init = .initialized := Cond.initialized_spec (findClass_of_methodNamed hnamed) hkP hinit
  obtain ⟨vm₁, X₁, hstep₁⟩ := X.invokestatic hexec hown hlink hnamed hmethM hstatic hkP hinitP hy (g := g) hg (argsL := argsL) (rest := rest) (hlen _ hsigM) hstack hdg
  obtain ⟨v, B, X', hpost, hsteps⟩ := hK m meth c ⟨T.setVm vm₁, locs, cells, slots⟩ { g with stack := rest } (.invokestatic index) mk argsL.toArray X₁ hg hsize hdg hW (X₁.named hnamed) (hpre vm₁ X₁.warmed)
  exact ⟨v, vm₁, B, X₁.warmed, X', hpost, fun target h => hstep₁ _ fun acts => by rw [doInvoke_state]; exact hsteps.trans h⟩
theorem vx_runSW {y : MethodName} {bytes cc : ByteArray} {maxL nL mc ms n index : Nat} {ret : Option FieldType} {hh : List (Nat × Nat × Nat × Nat)} {ws : List Cond} {rm : Room} {Pc : Array Value → State → Prop} {Qc : Array Value → State → Outcome → State → Prop} {free : Addr → Prop} {Ts : List Cond} {own : String} {As rest : List Value} {g : JFrame}
    (S : CallFix p m c cc nL s args Ts own) (hM : Met l y ws rm Pc Qc mc ms free) (cw : vx_CSW R s args own index y bytes maxL ret hh ws rm mc ms n) (hp : PreS s H Pc As)
    (hg : g.method = m) (hn : As.length = n) (hsize : g.locals.size = nL) (hstack : g.stack = As.reverse ++ rest) (hW : 2 * g.monitorRoom + (rest.map fun v => v.category).sum ≤ 8) (hdg : decode cc g.pc = .ok (.invokestatic index, 3)) (hf : cells + mc ≤ R.cells ∧ slots + ms ≤ R.slots) :
    va_Run p l e R s m args below meth c H locs cells slots mc ms g rest (Qc As.toArray) (free) := by
  obtain ⟨⟨hrc, hrs, hfr, hlo, hws, hcw⟩, hcode, hini, hy, hlen, hl, hstt⟩ := cw
  have hK : Back l R p e below s args y 3 8 (PreOf R mc ms Pc) (PostOf Qc mc ms free) := va_backW (hh := hh) (bytes := bytes) (maxL := maxL) (ret := ret) hM hp.1 hrc hrs hfr hlo hws hcw (fun a' U hW => word_at hW (Or.inl (by first | rfl | simp [Cond.onTables, Cond.keeps, Cond.steady])) hini)
  obtain ⟨hx, hb, hml, ho, -⟩ := S
  intro T hT X
  obtain ⟨v, vm₁, ⟨U', l2, c2, s2⟩, hW₁, X', ⟨g', mk, t, L, e1, e2, hq, h1, hL, h2, h3⟩, st⟩ := vx_callSW X hx (hh := hh) (bytes := bytes) (maxL := maxL) (ret := ret) ho hl hstt hini hcode hy hK hg (hsize.trans hml.symm) (argsL := As) (rest := rest) (fun sig h => hn.trans (hlen sig h)) hstack hW (by rw [hb]; exact hdg)
    (fun vm₁ hW₁ => ⟨hf.1, hf.2, hp.2 (T.setVm vm₁) hT hW₁⟩)
  dsimp only [Pt.U, Pt.locs, Pt.cells, Pt.slots] at X' e1 e2 h1 h2 h3 st
  subst h1; subst h2; subst h3
  exact ⟨v, (T.setVm vm₁).calling g' mk As.toArray, t, U', L, hT, X', hL, e1, e2, hq, st⟩
/-- not caught here, past rows that name other classes: it goes on to the caller -/
theorem vx_outP {p : Program} {l : Launch} {e : Env} {R : Room} {s : State} {m : MethodId} {args : Array Value} {below : List Frame} {meth : Method} {c : Code} {H : Heap} {locs : List Loc} {cells slots : Nat} {free : Addr → Prop} {ls : Array Slot} {rest : List Value} {Qc : Array Value → State → Outcome → State → Prop} {XC : String → State → State → Prop}
    {pc : Nat} {own E : String} {ce : Cell} {q : Addr} {mc ms : Nat} (hown : s.vm.findClass own = some m.cls) (hlocks : meth.locks = false)
    (hpass : ∀ z ∈ c.exceptionTable.toList, covers z pc = false ∨ (z.catchType ≠ 0 ∧ ∃ nm : String, (Cond.classLink own z.catchType nm).before args s = true ∧ va_Nc E nm s)) (hcell : H[q]? = some ce) (hv : ce.vm = .none) (hcl : s.vm.findClass E = some ce.cls)
    (hx : ∀ t : State, t.heap = H → s.vm.Alike t.vm → XC E s t) (hf : ∀ z ∈ locs, free z.base) (hc : cells ≤ mc) (hs : slots ≤ ms) :
    vx_W p l e R s m args below meth c H locs cells slots (vx_MQ below Qc XC args s mc ms free) (F0 m pc ls rest) q := by
  intro T hT X
  have hpl : e.platform.magicAccessors = ({} : Platform).magicAccessors := by rw [X.admits.platform]
  obtain ⟨vm', hW', X', st⟩ := X.outThrough hlocks q (g := F0 m pc ls rest) rfl rfl rfl (cell := ce) (by rw [hT]; exact hcell) (by rw [hv]; rfl)
    (by obtain ⟨k9, h9, -⟩ := Vm.findClass_spec hcl; exact ⟨k9, h9⟩) (fun z hz => by
      rcases hpass z hz with h | ⟨hz0, nm, hl1, hn1⟩
      · exact Or.inl h
      · obtain ⟨c6, hc6, hcl6⟩ := Cond.classLink_spec hown hl1 e.platform hpl
        obtain ⟨a8, b8, h1, h2, h3⟩ := hn1
        cases Option.some.inj (h1.symm.trans hcl)
        cases Option.some.inj (h2.symm.trans hc6)
        exact Or.inr ⟨hz0, _, hcl6, h3⟩)
  obtain ⟨g₀, hfr⟩ := X'.frames_eq
  have hcell9 : ((T.setVm vm').setFrames (.throwing q :: below)).heap[q]? = some ce := by
    show T.heap[q]? = some ce
    rw [hT]; exact hcell
  have hend : Ended ((T.setVm vm').setFrames (.throwing q :: below)) below (.threw q) := State.frames_setFrames _ (State.cur_lt_of_frames hfr)
  refine ⟨(T.setVm vm').setFrames (.throwing q :: below), ?_, .threw q, X'.here.running, hend, Or.inr ⟨q, rfl, E, ce, locs, hx _ hT (X'.ends _).1.alike, hcell9, hv, hcl, (X'.ends _).1, (X'.ends _).2.mono hc hs, hf⟩⟩
  rw [X.pushThrowing_eq]
  exact st
/-- a thing of a world lies in the heap -/
theorem vx_lt {D : va_G} {cl : List vw_C} {ws : va_W} {H1 : Heap} (h : va_P D cl ws H1) {k : Nat} {q : Nat × va_E} (hk : ws[k]? = some q) : q.1 < H1.size := (h k q hk).lt
end VXS
/-! ===== END ===== -/
/-! ===== BEGIN methods with a table of their own: called by a name, returning or throwing ===== -/
section VXH
/-! vx_backW, vx_callVX, vx_callSX, vx_callVW, vx_runVW, vx_runVX, vx_runSX, vx_ofWH follow the same proofs as their sisters above (Free/Laws.lean, Shelf42/LK1.lean); vx_outP calls Shelf42/NT130.lean (outThrough). -/
section
variable {l : Launch} {R : Room} {p : Program} {e : Env} {below : List Frame} {s : State} {sargs : Array Value} {y : MethodName} {len W9 : Nat}
theorem vx_backW {ws : List Cond} {rm : Room} {Pc : Array Value → State → Prop} {Qc : Array Value → State → Outcome → State → Prop} {XC : String → State → State → Prop} {mc ms : Nat} {free : Addr → Prop} {bytes : ByteArray} {maxL : Nat} {ret : Option FieldType} {hh : List (Nat × Nat × Nat × Nat)}
    (hM : vx_Met l y ws rm Pc Qc XC mc ms free) (hblind : FrameBlind Pc) (hrc : rm.cells = mc) (hrs : rm.slots = ms)
    (hframes : rm.frames + 1 ≤ R.frames) (hlocals : W9 + (maxL + 11) + rm.locals ≤ R.locals)
    (hws : ∀ w ∈ ws, ∀ a' U, s.WarmedH U.vm → w.before a' U = true) (hcode : Cond.codeWith y bytes maxL ret hh ∈ ws) (hinit : ∀ a' U, s.WarmedH U.vm → (Cond.initialized y.cls).before a' U = true) :
    vx_Back l R p e below s sargs y len W9 (PreOf R mc ms Pc) (PostOf Qc mc ms free) (vx_Post XC mc ms free) := by
  intro m meth c A g ig mk a X hg hsize hdg hW hn hp
  have h1 : (headSpec ws rm).pre.before a A.U = true := atoms_intro fun w hw => hws w hw _ _ X.warmed
  have h2 : (Cond.codeWith y bytes maxL ret hh).before a A.U = true := hws _ hcode _ _ X.warmed
  have h3 : (Cond.initialized y.cls).before a A.U = true := hinit _ _ X.warmed
  have h4 : A.cells + (headSpec ws rm).room.cells ≤ R.cells := by rw [show (headSpec ws rm).room.cells = mc from hrc]; exact hp.1
  have h5 : A.slots + (headSpec ws rm).room.slots ≤ R.slots := by rw [show (headSpec ws rm).room.slots = ms from hrs]; exact hp.2.1
  have hPc : Pc a (A.U.calling g mk a) := hblind _ _ _ _ hp.2.2
  obtain ⟨U, Ls, c0, s0⟩ := A
  dsimp only [Pt.U, Pt.locs, Pt.cells, Pt.slots] at h1 h2 h3 h4 h5 X hn hPc ⊢
  obtain ⟨m9, methY, cY, hn9, hmY, hcY, -, hlY, -⟩ := Cond.codeWith_spec h2
  cases Option.some.inj (hn9.symm.trans hn)
  obtain ⟨kY, hkY, -⟩ := className_of_methodNamed hn
  have hinitY : kY.init = .initialized := Cond.initialized_spec (findClass_of_methodNamed hn) hkY h3
  have h : At U g.method c below := by rw [hg]; exact X.here
  have hlocals9 : W9 + (maxL + 11) + (headSpec ws rm).room.locals ≤ R.locals := hlocals
  have happ : (headSpec ws rm).appliesLoose y e.platform (U.calling g mk a) = true :=
    Spec.appliesLoose_calling (g := g) h hdg hn hkY hinitY
      (X.room_calling (g := g) (R' := (headSpec ws rm).room) hsize hmY hcY hframes (by rw [hlY]; omega) h4 h5) h1
  obtain ⟨mid, hmid⟩ := h.above
  have hfr : (U.setTop g).frames = (.java g :: mid) ++ below := by rw [State.frames_setTop' g h.top, hmid]; rfl
  obtain ⟨o, s₂, hsteps, -, hend, hq⟩ := Steps.callFree hM p X.admits X.cas X.clock (acts := []) hfr happ hPc trivial
  have hq' : vx_Q Qc XC mc ms free a (U.calling g mk a) o s₂ := hq
  rw [State.frames_setTop' g h.top] at hend
  obtain ⟨g₀, hg0⟩ := Option.isSome_iff_exists.mp h.top
  obtain ⟨r, hr⟩ := State.topJava?_eq_some.mp hg0
  have hr' : (({ U with heap := s₂.heap, slotsUsed := s₂.slotsUsed } : State).setVm s₂.vm).frames = .java g₀ :: r := hr
  rcases hq' with ⟨hqc, L, hfe, hL⟩ | ⟨q, rfl, E, ce, L, hx, hce, hcv, hcl, hW₂, hsm, hL⟩
  · obtain ⟨⟨v, rfl⟩, hW₂, e2, q2, q3, q4, q5, q6⟩ := id hfe
    have e3 : s₂ = ({ (U.calling g mk a).setFrames s₂.frames with heap := s₂.heap, slotsUsed := s₂.slotsUsed } : State).setVm s₂.vm := by
      have : s₂ = ({ s₂ with vm := (U.calling g mk a).vm } : State).setVm s₂.vm := rfl
      rw [e2] at this
      exact this
    obtain ⟨c₂, i₂, len₂, hc₂, hd₂, hf₂⟩ := hend
    have hW' : U.WarmedH s₂.vm := hW₂
    have hcc : c₂ = c := by
      have h1 : s₂.code? g.method = U.code? g.method := by
        rw [State.code?_eq, State.code?_eq, hW'.alike.method?]
      exact Option.some.inj (hc₂.symm.trans (h1.trans h.code))
    subst hcc
    have hlen : len₂ = len := by rw [hdg] at hd₂; cases hd₂; rfl
    subst hlen
    have hs₂ : s₂ = (({ U with heap := s₂.heap, slotsUsed := s₂.slotsUsed } : State).setVm s₂.vm).setTop { g with pc := g.pc + len₂, stack := v.toList ++ g.stack } := by
      refine e3.trans ?_
      rw [hf₂, State.calling_eq h.top, State.setFrames_setFrames, State.setTop_of_frames _ hr', hr]
      rfl
    have hsame : U.sameButNew ({ U with heap := s₂.heap, slotsUsed := s₂.slotsUsed } : State) L mc ms := by
      refine ⟨?_, q2, q3, q4, q5, q6⟩
      obtain ⟨t, ht, -⟩ := State.frames_cons hr
      show ({ U with heap := s₂.heap, slotsUsed := s₂.slotsUsed } : State) = { U.setFrames U.frames with heap := s₂.heap, slotsUsed := s₂.slotsUsed }
      rw [State.setFrames_self ht]
    subst hg
    refine Or.inl ⟨v, ⟨(({ U with heap := s₂.heap, slotsUsed := s₂.slotsUsed } : State).setVm s₂.vm), Ls ++ L, c0 + mc, s0 + ms⟩,
      ⟨X.admits, X.cas, X.clock, X.frames, X.room, X.hears, X.method, X.code, (X.here.setHeapUsed s₂.heap s₂.slotsUsed).setVm hW'.alike, X.tail, State.WarmedH.trans X.warmed hW', X.limits, X.bytes, X.same.trans (hsame.setVm s.vm)⟩,
      ⟨g, mk, s₂, L, rfl, rfl, hqc, rfl, hL, rfl, rfl⟩, ?_⟩
    show Steps p.tables e below _ ((({ U with heap := s₂.heap, slotsUsed := s₂.slotsUsed } : State).setVm s₂.vm).setTop { g with pc := g.pc + len₂, stack := v.toList ++ g.stack })
    rw [← hs₂]
    exact hsteps
  · obtain ⟨e2, q2, q3, q4, q5, q6⟩ := id hsm
    have e3 : s₂ = ({ (U.calling g mk a).setFrames s₂.frames with heap := s₂.heap, slotsUsed := s₂.slotsUsed } : State).setVm s₂.vm := by
      have : s₂ = ({ s₂ with vm := (U.calling g mk a).vm } : State).setVm s₂.vm := rfl
      rw [e2] at this
      exact this
    have hf₂ : s₂.frames = .throwing q :: .java g :: U.frames.tail := hend
    have hW' : U.WarmedH s₂.vm := hW₂
    have hs₂ : s₂ = ((({ U with heap := s₂.heap, slotsUsed := s₂.slotsUsed } : State).setVm s₂.vm).setTop g).pushFrame (.throwing q) := by
      refine e3.trans ?_
      rw [hf₂, State.calling_eq h.top, State.setFrames_setFrames, State.pushFrame, State.frames_setTop _ hr', State.setTop_of_frames _ hr', State.setFrames_setFrames, hr]
      rfl
    have hsame : U.sameButNew ({ U with heap := s₂.heap, slotsUsed := s₂.slotsUsed } : State) L mc ms := by
      refine ⟨?_, q2, q3, q4, q5, q6⟩
      obtain ⟨t, ht, -⟩ := State.frames_cons hr
      show ({ U with heap := s₂.heap, slotsUsed := s₂.slotsUsed } : State) = { U.setFrames U.frames with heap := s₂.heap, slotsUsed := s₂.slotsUsed }
      rw [State.setFrames_self ht]
    subst hg
    refine Or.inr ⟨q, ⟨(({ U with heap := s₂.heap, slotsUsed := s₂.slotsUsed } : State).setVm s₂.vm), Ls ++ L, c0 + mc, s0 + ms⟩,
      ⟨X.admits, X.cas, X.clock, X.frames, X.room, X.hears, X.method, X.code, (X.here.setHeapUsed s₂.heap s₂.slotsUsed).setVm hW'.alike, X.tail, State.WarmedH.trans X.warmed hW', X.limits, X.bytes, X.same.trans (hsame.setVm s.vm)⟩,
      ⟨g, mk, s₂, L, E, ce, rfl, rfl, hx, hce, hcv, hcl, rfl, hL, rfl, rfl⟩, ?_⟩
    show Steps p.tables e below _ (((({ U with heap := s₂.heap, slotsUsed := s₂.slotsUsed } : State).setVm s₂.vm).setTop g).pushFrame (.throwing q))
    rw [← hs₂]
    exact hsteps
end
variable {p : Program} {l : Launch} {e : Env} {R : Room} {s : State} {m : MethodId} {args : Array Value} {below : List Frame} {meth : Method} {c : Code} {T : State} {H : Heap} {locs : List Loc} {cells slots : Nat}
theorem vx_callVX (X : Stand p l e R s m args below meth c T locs cells slots) (hexec : p.tables.exec = Jvm.exec) {own C : String} {index : Nat} {y : MethodName} {bytes : ByteArray} {maxL : Nat} {ret : Option FieldType} {hh : List (Nat × Nat × Nat × Nat)}
    (hown : s.vm.findClass own = some m.cls) (hlink : (Cond.methodLink own index y).before args s = true) (hinst : (Cond.instanceMethod y).before args s = true) (hsel : (Cond.selects C y y).before args s = true)
    (hcode : (Cond.codeWith y bytes maxL ret hh).before args s = true) (hy : y.cls ≠ "java/lang/invoke/MethodHandle" ∧ y.cls ≠ "java/lang/invoke/VarHandle")
    {W9 : Nat} {Pre : Pt → Array Value → Prop} {Post : Pt → Array Value → Option Value → Pt → Prop} {PostX : Pt → Array Value → Addr → Pt → Prop} (hK : vx_Back l R p e below s args y 3 W9 Pre Post PostX)
    {b : Addr} {cellB : Cell} (hcell : T.heap[b]? = some cellB) (hobj : cellB.vm.isStatics = false) (hcls : s.vm.findClass C = some cellB.cls)
    {g : JFrame} (hg : g.method = m) (hsize : g.locals.size = c.maxLocals) {argsL rest : List Value} (hlen : ∀ sig, parseMethodDescriptor y.desc = some sig → argsL.length = sig.parameters.length)
    (hstack : g.stack = argsL.reverse ++ .ref b :: rest) (hW : 2 * g.monitorRoom + (rest.map fun v => v.category).sum ≤ W9) (hdg : decode c.code g.pc = .ok (.invokevirtual index, 3))
    (hpre : ∀ vm₁, s.WarmedH vm₁ → Pre ⟨T.setVm vm₁, locs, cells, slots⟩ (Value.ref b :: argsL).toArray) :
    (∃ (v : Option Value) (vm₁ : Vm) (B : Pt), s.WarmedH vm₁ ∧ Stand p l e R s m args below meth c B.U B.locs B.cells B.slots ∧ Post ⟨T.setVm vm₁, locs, cells, slots⟩ (Value.ref b :: argsL).toArray v B ∧
      ∀ target, Steps p.tables e below (B.U.setTop { g with pc := g.pc + 3, stack := v.toList ++ rest }) target → Steps p.tables e below (T.setTop g) target) ∨
    (∃ (q : Addr) (vm₁ : Vm) (B : Pt), s.WarmedH vm₁ ∧ Stand p l e R s m args below meth c B.U B.locs B.cells B.slots ∧ PostX ⟨T.setVm vm₁, locs, cells, slots⟩ (Value.ref b :: argsL).toArray q B ∧
      Steps p.tables e below (T.setTop g) ((B.U.setTop { g with stack := rest }).pushFrame (.throwing q))) := by
  obtain ⟨mk, methM, hnamed, hmethM, hstM, habM⟩ := Cond.instanceMethod_spec hinst
  obtain ⟨m8, methM', cM, hn8, hmethM', -, -, -, -, -, -, hsigM⟩ := Cond.codeWith_spec hcode
  cases Option.some.inj (hn8.symm.trans hnamed)
  cases hmethM.symm.trans hmethM'
  obtain ⟨c2, r2, m2, q1, q2, q3, q4, kP, hkP, hkPi⟩ := Cond.selects_spec hsel
  cases hcls.symm.trans q1
  cases (State.methodFound?_of_named hnamed hy).symm.trans q2
  cases hnamed.symm.trans q3
  have hselP : selectMethod e.platform s.vm cellB.cls mk = .method mk := by rw [Launch.admits_selectMethod X.admits]; exact q4
  obtain ⟨vm₁, X₁, hstep₁⟩ := X.invokevirtual hexec hown hlink hnamed hmethM hstM hkP hkPi hy (a := b) (cell := cellB) hcell
    (fun z h => by rw [h] at hobj; cases hobj) hselP hmethM habM hkP hkPi (g := g) hg (argsL := argsL) (rest := rest) (hlen _ hsigM) hstack hdg
  rcases hK m meth c ⟨T.setVm vm₁, locs, cells, slots⟩ { g with stack := rest } (.invokevirtual index) mk (Value.ref b :: argsL).toArray X₁ hg hsize hdg hW (X₁.named hnamed) (hpre vm₁ X₁.warmed) with ⟨v, B, X', hpost, hsteps⟩ | ⟨q, B, X', hpost, hsteps⟩
  · exact Or.inl ⟨v, vm₁, B, X₁.warmed, X', hpost, fun target h => hstep₁ _ fun acts => by rw [doInvoke_state]; exact hsteps.trans h⟩
  · exact Or.inr ⟨q, vm₁, B, X₁.warmed, X', hpost, hstep₁ _ fun acts => by rw [doInvoke_state]; exact hsteps⟩
theorem vx_callSX (X : Stand p l e R s m args below meth c T locs cells slots) (hexec : p.tables.exec = Jvm.exec) {own : String} {index : Nat} {y : MethodName} {bytes : ByteArray} {maxL : Nat} {ret : Option FieldType} {hh : List (Nat × Nat × Nat × Nat)}
    (hown : s.vm.findClass own = some m.cls) (hlink : (Cond.methodLink own index y).before args s = true) (hstat : (Cond.static y).before args s = true) (hinit : (Cond.initialized y.cls).before args s = true)
    (hcode : (Cond.codeWith y bytes maxL ret hh).before args s = true) (hy : y.cls ≠ "java/lang/invoke/MethodHandle" ∧ y.cls ≠ "java/lang/invoke/VarHandle")
    {W9 : Nat} {Pre : Pt → Array Value → Prop} {Post : Pt → Array Value → Option Value → Pt → Prop} {PostX : Pt → Array Value → Addr → Pt → Prop} (hK : vx_Back l R p e below s args y 3 W9 Pre Post PostX)
    {g : JFrame} (hg : g.method = m) (hsize : g.locals.size = c.maxLocals) {argsL rest : List Value} (hlen : ∀ sig, parseMethodDescriptor y.desc = some sig → argsL.length = sig.parameters.length)
    (hstack : g.stack = argsL.reverse ++ rest) (hW : 2 * g.monitorRoom + (rest.map fun v => v.category).sum ≤ W9) (hdg : decode c.code g.pc = .ok (.invokestatic index, 3))
    (hpre : ∀ vm₁, s.WarmedH vm₁ → Pre ⟨T.setVm vm₁, locs, cells, slots⟩ argsL.toArray) :
    (∃ (v : Option Value) (vm₁ : Vm) (B : Pt), s.WarmedH vm₁ ∧ Stand p l e R s m args below meth c B.U B.locs B.cells B.slots ∧ Post ⟨T.setVm vm₁, locs, cells, slots⟩ argsL.toArray v B ∧
      ∀ target, Steps p.tables e below (B.U.setTop { g with pc := g.pc + 3, stack := v.toList ++ rest }) target → Steps p.tables e below (T.setTop g) target) ∨
    (∃ (q : Addr) (vm₁ : Vm) (B : Pt), s.WarmedH vm₁ ∧ Stand p l e R s m args below meth c B.U B.locs B.cells B.slots ∧ PostX ⟨T.setVm vm₁, locs, cells, slots⟩ argsL.toArray q B ∧
      Steps p.tables e below (T.setTop g) ((B.U.setTop { g with stack := rest }).pushFrame (.throwing q))) := by
  obtain ⟨mk, methM, cM, hnamed, hmethM, -, -, -, -, -, -, hsigM⟩ := Cond.codeWith_spec hcode
  have hstatic : methM.isStatic = true := Cond.static_spec hnamed hmethM hstat
  obtain ⟨kP, hkP, -⟩ := className_of_methodNamed hnamed
  have hinitP : kP.init = .initialized := Cond.initialized_spec (findClass_of_methodNamed hnamed) hkP hinit
  obtain ⟨vm₁, X₁, hstep₁⟩ := X.invokestatic hexec hown hlink hnamed hmethM hstatic hkP hinitP hy (g := g) hg (argsL := argsL) (rest := rest) (hlen _ hsigM) hstack hdg
  rcases hK m meth c ⟨T.setVm vm₁, locs, cells, slots⟩ { g with stack := rest } (.invokestatic index) mk argsL.toArray X₁ hg hsize hdg hW (X₁.named hnamed) (hpre vm₁ X₁.warmed) with ⟨v, B, X', hpost, hsteps⟩ | ⟨q, B, X', hpost, hsteps⟩
  · exact Or.inl ⟨v, vm₁, B, X₁.warmed, X', hpost, fun target h => hstep₁ _ fun acts => by rw [doInvoke_state]; exact hsteps.trans h⟩
  · exact Or.inr ⟨q, vm₁, B, X₁.warmed, X', hpost, hstep₁ _ fun acts => by rw [doInvoke_state]; exact hsteps⟩
theorem vx_callVW (X : Stand p l e R s m args below meth c T locs cells slots) (hexec : p.tables.exec = Jvm.exec) {own C : String} {index : Nat} {y : MethodName} {bytes : ByteArray} {maxL : Nat} {ret : Option FieldType} {hh : List (Nat × Nat × Nat × Nat)}
    (hown : s.vm.findClass own = some m.cls) (hlink : (Cond.methodLink own index y).before args s = true) (hinst : (Cond.instanceMethod y).before args s = true) (hsel : (Cond.selects C y y).before args s = true)
    (hcode : (Cond.codeWith y bytes maxL ret hh).before args s = true) (hy : y.cls ≠ "java/lang/invoke/MethodHandle" ∧ y.cls ≠ "java/lang/invoke/VarHandle")
    {W9 : Nat} {Pre : Pt → Array Value → Prop} {Post : Pt → Array Value → Option Value → Pt → Prop} (hK : Back l R p e below s args y 3 W9 Pre Post)
    {b : Addr} {cellB : Cell} (hcell : T.heap[b]? = some cellB) (hobj : cellB.vm.isStatics = false) (hcls : s.vm.findClass C = some cellB.cls)
    {g : JFrame} (hg : g.method = m) (hsize : g.locals.size = c.maxLocals) {argsL rest : List Value} (hlen : ∀ sig, parseMethodDescriptor y.desc = some sig → argsL.length = sig.parameters.length)
    (hstack : g.stack = argsL.reverse ++ .ref b :: rest) (hW : 2 * g.monitorRoom + (rest.map fun v => v.category).sum ≤ W9) (hdg : decode c.code g.pc = .ok (.invokevirtual index, 3))
    (hpre : ∀ vm₁, s.WarmedH vm₁ → Pre ⟨T.setVm vm₁, locs, cells, slots⟩ (Value.ref b :: argsL).toArray) :
    ∃ (v : Option Value) (vm₁ : Vm) (B : Pt), s.WarmedH vm₁ ∧ Stand p l e R s m args below meth c B.U B.locs B.cells B.slots ∧ Post ⟨T.setVm vm₁, locs, cells, slots⟩ (Value.ref b :: argsL).toArray v B ∧
      ∀ target, Steps p.tables e below (B.U.setTop { g with pc := g.pc + 3, stack := v.toList ++ rest }) target → Steps p.tables e below (T.setTop g) target := by
  obtain ⟨mk, methM, hnamed, hmethM, hstM, habM⟩ := Cond.instanceMethod_spec hinst
  obtain ⟨m8, methM', cM, hn8, hmethM', -, -, -, -, -, -, hsigM⟩ := Cond.codeWith_spec hcode
  cases Option.some.inj (hn8.symm.trans hnamed)
  cases hmethM.symm.trans hmethM'
  obtain ⟨c2, r2, m2, q1, q2, q3, q4, kP, hkP, hkPi⟩ := Cond.selects_spec hsel
  cases hcls.symm.trans q1
  cases (State.methodFound?_of_named hnamed hy).symm.trans q2
  cases hnamed.symm.trans q3
  have hselP : selectMethod e.platform s.vm cellB.cls mk = .method mk := by rw [Launch.admits_selectMethod X.admits]; exact q4
  obtain ⟨vm₁, X₁, hstep₁⟩ := X.invokevirtual hexec hown hlink hnamed hmethM hstM hkP hkPi hy (a := b) (cell := cellB) hcell
    (fun z h => by rw [h] at hobj; cases hobj) hselP hmethM habM hkP hkPi (g := g) hg (argsL := argsL) (rest := rest) (hlen _ hsigM) hstack hdg
  obtain ⟨v, B, X', hpost, hsteps⟩ := hK m meth c ⟨T.setVm vm₁, locs, cells, slots⟩ { g with stack := rest } (.invokevirtual index) mk (Value.ref b :: argsL).toArray X₁ hg hsize hdg hW (X₁.named hnamed) (hpre vm₁ X₁.warmed)
  exact ⟨v, vm₁, B, X₁.warmed, X', hpost, fun target h => hstep₁ _ fun acts => by rw [doInvoke_state]; exact hsteps.trans h⟩
abbrev vx_CVW (R : Room) (s : State) (args : Array Value) (own C : String) (index : Nat) (y : MethodName) (bytes : ByteArray) (maxL : Nat) (ret : Option FieldType) (hh : List (Nat × Nat × Nat × Nat)) (ws : List Cond) (rm : Room) (mc ms n : Nat) : Prop :=
  (rm.cells = mc ∧ rm.slots = ms ∧ rm.frames + 1 ≤ R.frames ∧ 8 + (maxL + 11) + rm.locals ≤ R.locals ∧ (∀ w ∈ ws, ∀ (a' : Array Value) (U : State), s.WarmedH U.vm → w.before a' U = true) ∧ Cond.codeWith y bytes maxL ret hh ∈ ws) ∧
  (Cond.codeWith y bytes maxL ret hh).before args s = true ∧ (Cond.initialized y.cls).before args s = true ∧ (y.cls ≠ "java/lang/invoke/MethodHandle" ∧ y.cls ≠ "java/lang/invoke/VarHandle") ∧
  (∀ sig, parseMethodDescriptor y.desc = some sig → n = sig.parameters.length) ∧ (Cond.methodLink own index y).before args s = true ∧ (Cond.instanceMethod y).before args s = true ∧ (Cond.selects C y y).before args s = true
theorem vx_cwVW {own C : String} {index maxL mc ms : Nat} {y : MethodName} {bytes : ByteArray} {ret : Option FieldType} {hh : List (Nat × Nat × Nat × Nat)} {Ts ws ws' : List Cond} {rm : Room} (n : Nat) (ht : ∀ w ∈ Ts, w.before args s = true) (hT : GoodIn Ts (wsV own index C y ws)) (hw : ws = Cond.codeWith y bytes maxL ret hh :: ws') (hrc : rm.cells = mc) (hrs : rm.slots = ms)
    (hd : y.cls = C ∧ y.cls ≠ "java/lang/invoke/MethodHandle" ∧ y.cls ≠ "java/lang/invoke/VarHandle" ∧ (parseMethodDescriptor y.desc).map (fun d => d.parameters.length) = some n) (hR : rm.frames + 1 ≤ R.frames ∧ 8 + (maxL + 11) + rm.locals ≤ R.locals) :
    vx_CVW R s args own C index y bytes maxL ret hh ws rm mc ms n := by
  obtain ⟨hC, hd⟩ := hd
  subst hC
  have ok : ∀ w ∈ wsV own index y.cls y ws, w.before args s = true := fun w h => ht w (hT w h).1
  have hG : GoodIn Ts ws := fun w h => hT w (by unfold wsV; exact List.mem_append_right _ h)
  have hc : Cond.codeWith y bytes maxL ret hh ∈ ws := by rw [hw]; exact List.mem_cons_self
  refine ⟨⟨hrc, hrs, hR.1, hR.2, pay_in ht hG, hc⟩, ht _ (hG _ hc).1, ok _ (by simp [wsV]), ⟨hd.1, hd.2.1⟩, fun sig h => ?_, ok _ (by simp [wsV]), ok _ (by simp [wsV]), ok _ (by simp [wsV])⟩
  have h2 := hd.2.2
  rw [h] at h2
  exact (Option.some.inj h2).symm
theorem vx_runVW {y : MethodName} {bytes cc : ByteArray} {maxL nL mc ms n index : Nat} {ret : Option FieldType} {hh : List (Nat × Nat × Nat × Nat)} {ws : List Cond} {rm : Room} {Pc : Array Value → State → Prop} {Qc : Array Value → State → Outcome → State → Prop} {free : Addr → Prop} {Ts : List Cond} {own C : String} {b : Addr} {As rest : List Value} {g : JFrame}
    (S : CallFix p m c cc nL s args Ts own) (hM : Met l y ws rm Pc Qc mc ms free) (cw : vx_CVW R s args own C index y bytes maxL ret hh ws rm mc ms n) (hp : PreV s H C b Pc As)
    (hg : g.method = m) (hn : As.length = n) (hsize : g.locals.size = nL) (hstack : g.stack = As.reverse ++ .ref b :: rest) (hW : 2 * g.monitorRoom + (rest.map fun v => v.category).sum ≤ 8) (hdg : decode cc g.pc = .ok (.invokevirtual index, 3)) (hf : cells + mc ≤ R.cells ∧ slots + ms ≤ R.slots) :
    va_Run p l e R s m args below meth c H locs cells slots mc ms g rest (Qc (Value.ref b :: As).toArray) free := by
  obtain ⟨⟨hrc, hrs, hfr, hlo, hws, hcw⟩, hcode, hini, hy, hlen, hl, hin, hse⟩ := cw
  have hK : Back l R p e below s args y 3 8 (PreOf R mc ms Pc) (PostOf Qc mc ms free) := va_backW (hh := hh) (bytes := bytes) (maxL := maxL) (ret := ret) hM hp.1 hrc hrs hfr hlo hws hcw (fun a' U hW => word_at hW (Or.inl (by first | rfl | simp [Cond.onTables, Cond.keeps, Cond.steady])) hini)
  obtain ⟨hx, hb, hml, ho, -⟩ := S
  obtain ⟨-, ⟨cellB, hcB, hoB, hclB⟩, hPc⟩ := hp
  intro T hT X
  obtain ⟨v, vm₁, ⟨U', l2, c2, s2⟩, hW₁, X', ⟨g', mk, t, L, e1, e2, hq, h1, hL, h2, h3⟩, st⟩ := vx_callVW X hx (C := C) (hh := hh) (bytes := bytes) (maxL := maxL) (ret := ret) ho hl hin hse hcode hy hK (by rw [hT]; exact hcB) hoB hclB hg (hsize.trans hml.symm) (argsL := As) (rest := rest) (fun sig h => hn.trans (hlen sig h)) hstack hW (by rw [hb]; exact hdg)
    (fun vm₁ hW₁ => ⟨hf.1, hf.2, hPc (T.setVm vm₁) hT hW₁⟩)
  dsimp only [Pt.U, Pt.locs, Pt.cells, Pt.slots] at X' e1 e2 h1 h2 h3 st
  subst h1; subst h2; subst h3
  exact ⟨v, (T.setVm vm₁).calling g' mk (Value.ref b :: As).toArray, t, U', L, hT, X', hL, e1, e2, hq, st⟩
section
variable {y : MethodName} {bytes cc : ByteArray} {maxL nL mc ms n index : Nat} {ret : Option FieldType} {ws : List Cond} {rm : Room} {Pc : Array Value → State → Prop} {Qc : Array Value → State → Outcome → State → Prop} {XC : String → State → State → Prop} {free : Addr → Prop} {Ts : List Cond} {own C : String} {b : Addr} {As rest : List Value} {g : JFrame}
theorem vx_runVX {hh : List (Nat × Nat × Nat × Nat)} (S : CallFix p m c cc nL s args Ts own) (hM : vx_Met l y ws rm Pc Qc XC mc ms free) (cw : vx_CVW R s args own C index y bytes maxL ret hh ws rm mc ms n) (hp : PreV s H C b Pc As)
    (hg : g.method = m) (hn : As.length = n) (hsize : g.locals.size = nL) (hstack : g.stack = As.reverse ++ .ref b :: rest) (hW : 2 * g.monitorRoom + (rest.map fun v => v.category).sum ≤ 8) (hdg : decode cc g.pc = .ok (.invokevirtual index, 3)) (hf : cells + mc ≤ R.cells ∧ slots + ms ≤ R.slots) :
    vx_Run p l e R s m args below meth c H locs cells slots mc ms g rest (Qc (Value.ref b :: As).toArray) XC free := by
  obtain ⟨⟨hrc, hrs, hfr, hlo, hws, hcw⟩, hcode, hini, hy, hlen, hl, hin, hse⟩ := cw
  have hK : vx_Back l R p e below s args y 3 8 (PreOf R mc ms Pc) (PostOf Qc mc ms free) (vx_Post XC mc ms free) := vx_backW (hh := hh) (bytes := bytes) (maxL := maxL) (ret := ret) hM hp.1 hrc hrs hfr hlo hws hcw (fun a' U hW => word_at hW (Or.inl (by first | rfl | simp [Cond.onTables, Cond.keeps, Cond.steady])) hini)
  obtain ⟨hx, hb, hml, ho, -⟩ := S
  obtain ⟨-, ⟨cellB, hcB, hoB, hclB⟩, hPc⟩ := hp
  intro T hT X
  rcases vx_callVX X hx (C := C) (hh := hh) (bytes := bytes) (maxL := maxL) (ret := ret) ho hl hin hse hcode hy hK (by rw [hT]; exact hcB) hoB hclB hg (hsize.trans hml.symm) (argsL := As) (rest := rest) (fun sig h => hn.trans (hlen sig h)) hstack hW (by rw [hb]; exact hdg)
    (fun vm₁ hW₁ => ⟨hf.1, hf.2, hPc (T.setVm vm₁) hT hW₁⟩) with ⟨v, vm₁, ⟨U', l2, c2, s2⟩, hW₁, X', ⟨g', mk, t, L, e1, e2, hq, h1, hL, h2, h3⟩, st⟩ | ⟨q, vm₁, ⟨U', l2, c2, s2⟩, hW₁, X', ⟨g', mk, t, L, E, ce, e1, e2, hq, hce, hcv, hcl, h1, hL, h2, h3⟩, st⟩
  · dsimp only [Pt.U, Pt.locs, Pt.cells, Pt.slots] at X' e1 e2 h1 h2 h3 st
    subst h1; subst h2; subst h3
    exact Or.inl ⟨v, (T.setVm vm₁).calling g' mk (Value.ref b :: As).toArray, t, U', L, hT, X', hL, e1, e2, hq, st⟩
  · dsimp only [Pt.U, Pt.locs, Pt.cells, Pt.slots] at X' e1 e2 h1 h2 h3 st hcl
    subst h1; subst h2; subst h3
    exact Or.inr ⟨q, (T.setVm vm₁).calling g' mk (Value.ref b :: As).toArray, t, U', L, E, ce, hT, X', hL, e1, e2, hq, hce, hcv, vx_cls hW₁ hcl, st⟩
theorem vx_runSX {hh : List (Nat × Nat × Nat × Nat)} (S : CallFix p m c cc nL s args Ts own) (hM : vx_Met l y ws rm Pc Qc XC mc ms free) (cw : vx_CSW R s args own index y bytes maxL ret hh ws rm mc ms n) (hp : PreS s H Pc As)
    (hg : g.method = m) (hn : As.length = n) (hsize : g.locals.size = nL) (hstack : g.stack = As.reverse ++ rest) (hW : 2 * g.monitorRoom + (rest.map fun v => v.category).sum ≤ 8) (hdg : decode cc g.pc = .ok (.invokestatic index, 3)) (hf : cells + mc ≤ R.cells ∧ slots + ms ≤ R.slots) :
    vx_Run p l e R s m args below meth c H locs cells slots mc ms g rest (Qc As.toArray) XC free := by
  obtain ⟨⟨hrc, hrs, hfr, hlo, hws, hcw⟩, hcode, hini, hy, hlen, hl, hstt⟩ := cw
  have hK : vx_Back l R p e below s args y 3 8 (PreOf R mc ms Pc) (PostOf Qc mc ms free) (vx_Post XC mc ms free) := vx_backW (hh := hh) (bytes := bytes) (maxL := maxL) (ret := ret) hM hp.1 hrc hrs hfr hlo hws hcw (fun a' U hW => word_at hW (Or.inl (by first | rfl | simp [Cond.onTables, Cond.keeps, Cond.steady])) hini)
  obtain ⟨hx, hb, hml, ho, -⟩ := S
  intro T hT X
  rcases vx_callSX X hx (hh := hh) (bytes := bytes) (maxL := maxL) (ret := ret) ho hl hstt hini hcode hy hK hg (hsize.trans hml.symm) (argsL := As) (rest := rest) (fun sig h => hn.trans (hlen sig h)) hstack hW (by rw [hb]; exact hdg)
    (fun vm₁ hW₁ => ⟨hf.1, hf.2, hp.2 (T.setVm vm₁) hT hW₁⟩) with ⟨v, vm₁, ⟨U', l2, c2, s2⟩, hW₁, X', ⟨g', mk, t, L, e1, e2, hq, h1, hL, h2, h3⟩, st⟩ | ⟨q, vm₁, ⟨U', l2, c2, s2⟩, hW₁, X', ⟨g', mk, t, L, E, ce, e1, e2, hq, hce, hcv, hcl, h1, hL, h2, h3⟩, st⟩
  · dsimp only [Pt.U, Pt.locs, Pt.cells, Pt.slots] at X' e1 e2 h1 h2 h3 st
    subst h1; subst h2; subst h3
    exact Or.inl ⟨v, (T.setVm vm₁).calling g' mk As.toArray, t, U', L, hT, X', hL, e1, e2, hq, st⟩
  · dsimp only [Pt.U, Pt.locs, Pt.cells, Pt.slots] at X' e1 e2 h1 h2 h3 st hcl
    subst h1; subst h2; subst h3
    exact Or.inr ⟨q, (T.setVm vm₁).calling g' mk As.toArray, t, U', L, E, ce, hT, X', hL, e1, e2, hq, hce, hcv, vx_cls hW₁ hcl, st⟩
end
end VXH
theorem vx_ofWH {l : Launch} {y : MethodName} {ws ws' : List Cond} {rm : Room} {Pc : Array Value → State → Prop} {Qc : Array Value → State → Outcome → State → Prop} {XC : String → State → State → Prop} {mc ms : Nat} {free : Addr → Prop} {cc : ByteArray} {maxL : Nat} {ret : Option FieldType} {hh : List (Nat × Nat × Nat × Nat)}
    (hy : plainName y.cls = true) (hw : ws = Cond.codeWith y cc maxL ret hh :: ws')
    (body : ∀ p e s m args below meth c s₁, BodyLoose p l y (headSpec ws rm) cc maxL ret e s m args below meth c s₁ → c.maxLocals = maxL → Pc args s →
      W p l e (headSpec ws rm).room s m args below meth c s.heap [] 0 0 (vx_MQ below Qc XC args s mc ms free) (entryFrame m args maxL)) : vx_Met l y ws rm Pc Qc XC mc ms free := by
  refine MetFree.of_bodyS (code := cc) (maxLocals := maxL) (ret := ret) hy ?_ ?_
  · intro args s m h hn
    obtain ⟨m9, meth, c, hn9, h1, h2, h3, h4, -, h5, h6, -⟩ := Cond.codeWith_spec (atoms_spec (ws := ws) h _ (by rw [hw]; exact List.mem_cons_self))
    cases hn.symm.trans hn9
    exact ⟨meth, c, h1, h2, h3, h4, h5, h6⟩
  · intro p e s m args below meth c s₁ B hml hP _
    have hh0 : s₁.heap = s.heap := by rw [B.state]; rfl
    obtain ⟨t, a1, o, b1, b2, b3⟩ := body p e s m args below meth c s₁ B hml hP s₁ hh0 (Stand.of_body B)
    exact ⟨t, o, a1, b1, b2, b3⟩
/-! ===== END ===== -/
end
section
def RX0 : String := "CoveSignals$Boat"
def TX0 : u_T := fun k => match k with
  | 0 => ("CoveSignals$Boat", "place", "I", false)
  | 1 => ("CoveSignals$Boat", "bales", "I", false)
  | 2 => ("CoveSignals$Boat", "goal", "I", false)
  | 3 => ("CoveSignals$Boat", "ledBy", "I", false)
  | 4 => ("CoveSignals$Boat", "minds", "Z", false)
  | 5 => ("CoveSignals$Boat", "fate", "I", false)
  | _ => ("CoveSignals$Boat", "unloaded", "I", false)
def tyX0 : Nat → FieldType := fun k => match k with
  | 0 => .int
  | 1 => .int
  | 2 => .int
  | 3 => .int
  | 4 => .boolean
  | 5 => .int
  | _ => .int
abbrev wsX00 : List Cond := u_ws RX0 TX0 7
theorem nmX0 : ∀ a, a < 7 → ∀ b, b < 7 → a ≠ b → (TX0 a).2.1 ≠ (TX0 b).2.1 := by decide +kernel
theorem tyX0_ok : ∀ k, k < 7 → parseFieldDescriptor (TX0 k).2.2.1 = some (tyX0 k) := by decide +kernel
abbrev cX0_init : ByteArray := prog_2_method_1_code
def yX0_init : MethodName := ⟨RX0, "<init>", "()V"⟩
abbrev cX0_begin : ByteArray := prog_2_method_2_code
def yX0_begin : MethodName := ⟨RX0, "begin", "(II)V"⟩
abbrev cX0_copyFrom : ByteArray := prog_2_method_3_code
def yX0_copyFrom : MethodName := ⟨RX0, "copyFrom", "(LCoveSignals$Boat;)V"⟩
abbrev cX0_sendTo : ByteArray := prog_2_method_4_code
def yX0_sendTo : MethodName := ⟨RX0, "sendTo", "(I)V"⟩
abbrev cX0_liesAtGoal : ByteArray := prog_2_method_5_code
def yX0_liesAtGoal : MethodName := ⟨RX0, "liesAtGoal", "()Z"⟩
abbrev cX0_sail : ByteArray := prog_2_method_6_code
def yX0_sail : MethodName := ⟨RX0, "sail", "()V"⟩
abbrev cX0_stage : ByteArray := prog_2_method_7_code
def yX0_stage : MethodName := ⟨RX0, "stage", "()I"⟩
abbrev cX0_tell : ByteArray := prog_2_method_8_code
def yX0_tell : MethodName := ⟨RX0, "tell", "(I)I"⟩
def RX1 : String := "CoveSignals$Coast"
def TX1 : u_T := fun k => match k with
  | 0 => ("CoveSignals$Coast", "room", "[I", true)
  | 1 => ("CoveSignals$Coast", "stored", "[I", true)
  | 2 => ("CoveSignals$Coast", "named", "[I", true)
  | 3 => ("CoveSignals$Coast", "seen", "[I", true)
  | 4 => ("CoveSignals$Coast", "lanterns", "[LCoveSignals$Lantern;", true)
  | 5 => ("CoveSignals$Coast", "watchmen", "[LCoveSignals$Watchman;", true)
  | 6 => ("CoveSignals$Coast", "boats", "[LCoveSignals$Boat;", true)
  | 7 => ("CoveSignals$Coast", "lanternCount", "I", false)
  | 8 => ("CoveSignals$Coast", "watchmanCount", "I", false)
  | 9 => ("CoveSignals$Coast", "boatCount", "I", false)
  | 10 => ("CoveSignals$Coast", "hour", "I", false)
  | 11 => ("CoveSignals$Coast", "balesSeized", "I", false)
  | _ => ("CoveSignals$Coast", "balesCarried", "I", false)
def tyX1 : Nat → FieldType := fun k => match k with
  | 0 => .array .int
  | 1 => .array .int
  | 2 => .array .int
  | 3 => .array .int
  | 4 => .array (.object "CoveSignals$Lantern")
  | 5 => .array (.object "CoveSignals$Watchman")
  | 6 => .array (.object "CoveSignals$Boat")
  | 7 => .int
  | 8 => .int
  | 9 => .int
  | 10 => .int
  | 11 => .int
  | _ => .int
abbrev wsX10 : List Cond := u_ws RX1 TX1 13
theorem nmX1 : ∀ a, a < 13 → ∀ b, b < 13 → a ≠ b → (TX1 a).2.1 ≠ (TX1 b).2.1 := by decide +kernel
theorem tyX1_ok : ∀ k, k < 13 → parseFieldDescriptor (TX1 k).2.2.1 = some (tyX1 k) := by decide +kernel
abbrev cX1_init : ByteArray := prog_3_method_1_code
def yX1_init : MethodName := ⟨RX1, "<init>", "()V"⟩
abbrev cX1_copyFrom : ByteArray := prog_3_method_2_code
def yX1_copyFrom : MethodName := ⟨RX1, "copyFrom", "(LCoveSignals$Coast;)V"⟩
abbrev cX1_moonNow : ByteArray := prog_3_method_3_code
def yX1_moonNow : MethodName := ⟨RX1, "moonNow", "()I"⟩
abbrev cX1_hourOfNight : ByteArray := prog_3_method_4_code
def yX1_hourOfNight : MethodName := ⟨RX1, "hourOfNight", "()I"⟩
abbrev cX1_isKnown : ByteArray := prog_3_method_5_code
def yX1_isKnown : MethodName := ⟨RX1, "isKnown", "(I)Z"⟩
abbrev cX1_hasLanternAt : ByteArray := prog_3_method_6_code
def yX1_hasLanternAt : MethodName := ⟨RX1, "hasLanternAt", "(I)Z"⟩
abbrev cX1_letGoBy : ByteArray := prog_3_method_7_code
def yX1_letGoBy : MethodName := ⟨RX1, "letGoBy", "(I)V"⟩
abbrev cX1_passHour : ByteArray := prog_3_method_8_code
def yX1_passHour : MethodName := ⟨RX1, "passHour", "()V"⟩
abbrev cX1_noteLanterns : ByteArray := prog_3_method_9_code
def yX1_noteLanterns : MethodName := ⟨RX1, "noteLanterns", "(II)V"⟩
abbrev cX1_moveBoats : ByteArray := prog_3_method_10_code
def yX1_moveBoats : MethodName := ⟨RX1, "moveBoats", "(II)V"⟩
abbrev cX1_unload : ByteArray := prog_3_method_11_code
def yX1_unload : MethodName := ⟨RX1, "unload", "(LCoveSignals$Boat;)V"⟩
abbrev cX1_followLantern : ByteArray := prog_3_method_12_code
def yX1_followLantern : MethodName := ⟨RX1, "followLantern", "(LCoveSignals$Boat;II)V"⟩
abbrev cX1_moveWatchmen : ByteArray := prog_3_method_13_code
def yX1_moveWatchmen : MethodName := ⟨RX1, "moveWatchmen", "(I)V"⟩
abbrev cX1_seizeFirst : ByteArray := prog_3_method_14_code
def yX1_seizeFirst : MethodName := ⟨RX1, "seizeFirst", "(LCoveSignals$Watchman;I)V"⟩
abbrev cX1_watchmenSeeingLantern : ByteArray := prog_3_method_15_code
def yX1_watchmenSeeingLantern : MethodName := ⟨RX1, "watchmenSeeingLantern", "(II)I"⟩
abbrev cX1_watchmenSeeingPlace : ByteArray := prog_3_method_16_code
def yX1_watchmenSeeingPlace : MethodName := ⟨RX1, "watchmenSeeingPlace", "(I)I"⟩
abbrev cX1_watchmenAt : ByteArray := prog_3_method_17_code
def yX1_watchmenAt : MethodName := ⟨RX1, "watchmenAt", "(I)I"⟩
abbrev cX1_boatsAtSeaAt : ByteArray := prog_3_method_18_code
def yX1_boatsAtSeaAt : MethodName := ⟨RX1, "boatsAtSeaAt", "(I)I"⟩
abbrev cX1_boatsAtSeaLedBy : ByteArray := prog_3_method_19_code
def yX1_boatsAtSeaLedBy : MethodName := ⟨RX1, "boatsAtSeaLedBy", "(I)I"⟩
abbrev cX1_boatsOfFate : ByteArray := prog_3_method_20_code
def yX1_boatsOfFate : MethodName := ⟨RX1, "boatsOfFate", "(I)I"⟩
abbrev cX1_balesAtSea : ByteArray := prog_3_method_21_code
def yX1_balesAtSea : MethodName := ⟨RX1, "balesAtSea", "()I"⟩
abbrev cX1_balesUnloaded : ByteArray := prog_3_method_22_code
def yX1_balesUnloaded : MethodName := ⟨RX1, "balesUnloaded", "()I"⟩
abbrev cX1_balesInCaves : ByteArray := prog_3_method_23_code
def yX1_balesInCaves : MethodName := ⟨RX1, "balesInCaves", "()I"⟩
abbrev cX1_knownCodes : ByteArray := prog_3_method_24_code
def yX1_knownCodes : MethodName := ⟨RX1, "knownCodes", "()I"⟩
abbrev cX1_tellLantern : ByteArray := prog_3_method_25_code
def yX1_tellLantern : MethodName := ⟨RX1, "tellLantern", "(LCoveSignals$Lantern;I)I"⟩
abbrev cX1_tellCode : ByteArray := prog_3_method_26_code
def yX1_tellCode : MethodName := ⟨RX1, "tellCode", "(II)I"⟩
abbrev cX1_tellPlace : ByteArray := prog_3_method_27_code
def yX1_tellPlace : MethodName := ⟨RX1, "tellPlace", "(II)I"⟩
abbrev cX1_tally : ByteArray := prog_3_method_28_code
def yX1_tally : MethodName := ⟨RX1, "tally", "(I)I"⟩
def RX2 : String := "CoveSignals$Lantern"
def TX2 : u_T := fun k => match k with
  | 0 => ("CoveSignals$Lantern", "table", "[I", true)
  | 1 => ("CoveSignals$Lantern", "place", "I", false)
  | _ => ("CoveSignals$Lantern", "timesSeen", "I", false)
def tyX2 : Nat → FieldType := fun k => match k with
  | 0 => .array .int
  | 1 => .int
  | _ => .int
abbrev wsX20 : List Cond := u_ws RX2 TX2 3
theorem nmX2 : ∀ a, a < 3 → ∀ b, b < 3 → a ≠ b → (TX2 a).2.1 ≠ (TX2 b).2.1 := by decide +kernel
theorem tyX2_ok : ∀ k, k < 3 → parseFieldDescriptor (TX2 k).2.2.1 = some (tyX2 k) := by decide +kernel
abbrev cX2_init : ByteArray := prog_4_method_1_code
def yX2_init : MethodName := ⟨RX2, "<init>", "()V"⟩
abbrev cX2_copyFrom : ByteArray := prog_4_method_2_code
def yX2_copyFrom : MethodName := ⟨RX2, "copyFrom", "(LCoveSignals$Lantern;)V"⟩
def RX3 : String := "CoveSignals$Watchman"
def TX3 : u_T := fun k => match k with
  | 0 => ("CoveSignals$Watchman", "from", "I", false)
  | 1 => ("CoveSignals$Watchman", "to", "I", false)
  | 2 => ("CoveSignals$Watchman", "eyes", "I", false)
  | 3 => ("CoveSignals$Watchman", "place", "I", false)
  | 4 => ("CoveSignals$Watchman", "way", "I", false)
  | _ => ("CoveSignals$Watchman", "boatsSeized", "I", false)
def tyX3 : Nat → FieldType := fun k => match k with
  | 0 => .int
  | 1 => .int
  | 2 => .int
  | 3 => .int
  | 4 => .int
  | _ => .int
abbrev wsX30 : List Cond := u_ws RX3 TX3 6
theorem nmX3 : ∀ a, a < 6 → ∀ b, b < 6 → a ≠ b → (TX3 a).2.1 ≠ (TX3 b).2.1 := by decide +kernel
theorem tyX3_ok : ∀ k, k < 6 → parseFieldDescriptor (TX3 k).2.2.1 = some (tyX3 k) := by decide +kernel
abbrev cX3_init : ByteArray := prog_5_method_1_code
def yX3_init : MethodName := ⟨RX3, "<init>", "()V"⟩
abbrev cX3_begin : ByteArray := prog_5_method_2_code
def yX3_begin : MethodName := ⟨RX3, "begin", "(III)V"⟩
abbrev cX3_copyFrom : ByteArray := prog_5_method_3_code
def yX3_copyFrom : MethodName := ⟨RX3, "copyFrom", "(LCoveSignals$Watchman;)V"⟩
abbrev cX3_sightOfPlaces : ByteArray := prog_5_method_4_code
def yX3_sightOfPlaces : MethodName := ⟨RX3, "sightOfPlaces", "(I)I"⟩
abbrev cX3_sightOfLanterns : ByteArray := prog_5_method_5_code
def yX3_sightOfLanterns : MethodName := ⟨RX3, "sightOfLanterns", "(I)I"⟩
abbrev cX3_walk : ByteArray := prog_5_method_6_code
def yX3_walk : MethodName := ⟨RX3, "walk", "()V"⟩
abbrev cX3_tell : ByteArray := prog_5_method_7_code
def yX3_tell : MethodName := ⟨RX3, "tell", "(II)I"⟩
def RX4 : String := "CoveSignals"
def TX4 : u_T := fun k => match k with
  | 0 => ("CoveSignals", "coast", "LCoveSignals$Coast;", true)
  | _ => ("CoveSignals", "trial", "LCoveSignals$Coast;", true)
def tyX4 : Nat → FieldType := fun k => match k with
  | 0 => .object "CoveSignals$Coast"
  | _ => .object "CoveSignals$Coast"
abbrev wsX40 : List Cond := u_ws RX4 TX4 2
theorem nmX4 : ∀ a, a < 2 → ∀ b, b < 2 → a ≠ b → (TX4 a).2.1 ≠ (TX4 b).2.1 := by decide +kernel
theorem tyX4_ok : ∀ k, k < 2 → parseFieldDescriptor (TX4 k).2.2.1 = some (tyX4 k) := by decide +kernel
abbrev cX4_init : ByteArray := prog_1_method_1_code
def yX4_init : MethodName := ⟨RX4, "<init>", "()V"⟩
abbrev cX4_setRoom : ByteArray := prog_1_method_2_code
def yX4_setRoom : MethodName := ⟨RX4, "setRoom", "(II)I"⟩
abbrev cX4_setCode : ByteArray := prog_1_method_3_code
def yX4_setCode : MethodName := ⟨RX4, "setCode", "(II)I"⟩
abbrev cX4_lantern : ByteArray := prog_1_method_4_code
def yX4_lantern : MethodName := ⟨RX4, "lantern", "(I)I"⟩
abbrev cX4_setShow : ByteArray := prog_1_method_5_code
def yX4_setShow : MethodName := ⟨RX4, "setShow", "(III)I"⟩
abbrev cX4_watchman : ByteArray := prog_1_method_6_code
def yX4_watchman : MethodName := ⟨RX4, "watchman", "(III)I"⟩
abbrev cX4_boat : ByteArray := prog_1_method_7_code
def yX4_boat : MethodName := ⟨RX4, "boat", "(II)I"⟩
abbrev cX4_send : ByteArray := prog_1_method_8_code
def yX4_send : MethodName := ⟨RX4, "send", "(II)I"⟩
abbrev cX4_carry : ByteArray := prog_1_method_9_code
def yX4_carry : MethodName := ⟨RX4, "carry", "(II)I"⟩
abbrev cX4_told : ByteArray := prog_1_method_10_code
def yX4_told : MethodName := ⟨RX4, "told", "(II)I"⟩
abbrev cX4_about : ByteArray := prog_1_method_11_code
def yX4_about : MethodName := ⟨RX4, "about", "(II)I"⟩
abbrev cX4_light : ByteArray := prog_1_method_12_code
def yX4_light : MethodName := ⟨RX4, "light", "(II)I"⟩
abbrev cX4_code : ByteArray := prog_1_method_13_code
def yX4_code : MethodName := ⟨RX4, "code", "(II)I"⟩
abbrev cX4_place : ByteArray := prog_1_method_14_code
def yX4_place : MethodName := ⟨RX4, "place", "(II)I"⟩
abbrev cX4_moon : ByteArray := prog_1_method_15_code
def yX4_moon : MethodName := ⟨RX4, "moon", "(I)I"⟩
abbrev cX4_count : ByteArray := prog_1_method_16_code
def yX4_count : MethodName := ⟨RX4, "count", "(I)I"⟩
abbrev cX4_pass : ByteArray := prog_1_method_17_code
def yX4_pass : MethodName := ⟨RX4, "pass", "(I)I"⟩
abbrev cX4_until : ByteArray := prog_1_method_18_code
def yX4_until : MethodName := ⟨RX4, "until", "(I)I"⟩
abbrev cX4_foresee : ByteArray := prog_1_method_19_code
def yX4_foresee : MethodName := ⟨RX4, "foresee", "(II)I"⟩
abbrev cX4_advise : ByteArray := prog_1_method_20_code
def yX4_advise : MethodName := ⟨RX4, "advise", "(I)I"⟩
abbrev cX4_quiet : ByteArray := prog_1_method_21_code
def yX4_quiet : MethodName := ⟨RX4, "quiet", "(I)I"⟩
abbrev cX4_mean : ByteArray := prog_1_method_22_code
def yX4_mean : MethodName := ⟨RX4, "mean", "()D"⟩
abbrev cX4_digest : ByteArray := prog_1_method_23_code
def yX4_digest : MethodName := ⟨RX4, "digest", "()J"⟩
abbrev cX4_digestOfLanterns : ByteArray := prog_1_method_24_code
def yX4_digestOfLanterns : MethodName := ⟨RX4, "digestOfLanterns", "(J)J"⟩
abbrev cX4_digestOfWatchmen : ByteArray := prog_1_method_25_code
def yX4_digestOfWatchmen : MethodName := ⟨RX4, "digestOfWatchmen", "(J)J"⟩
abbrev cX4_digestOfBoats : ByteArray := prog_1_method_26_code
def yX4_digestOfBoats : MethodName := ⟨RX4, "digestOfBoats", "(J)J"⟩
abbrev cX4_balesIfSent : ByteArray := prog_1_method_27_code
def yX4_balesIfSent : MethodName := ⟨RX4, "balesIfSent", "(II)I"⟩
abbrev cX4_requirePlace : ByteArray := prog_1_method_28_code
def yX4_requirePlace : MethodName := ⟨RX4, "requirePlace", "(I)V"⟩
abbrev cX4_requirePlaceOrNone : ByteArray := prog_1_method_29_code
def yX4_requirePlaceOrNone : MethodName := ⟨RX4, "requirePlaceOrNone", "(I)V"⟩
abbrev cX4_requireCode : ByteArray := prog_1_method_30_code
def yX4_requireCode : MethodName := ⟨RX4, "requireCode", "(I)V"⟩
abbrev cX4_requireWhat : ByteArray := prog_1_method_31_code
def yX4_requireWhat : MethodName := ⟨RX4, "requireWhat", "(III)V"⟩
abbrev cX4_requireHours : ByteArray := prog_1_method_32_code
def yX4_requireHours : MethodName := ⟨RX4, "requireHours", "(I)V"⟩
abbrev cX4_requireLantern : ByteArray := prog_1_method_33_code
def yX4_requireLantern : MethodName := ⟨RX4, "requireLantern", "(I)V"⟩
abbrev cX4_requireBoat : ByteArray := prog_1_method_34_code
def yX4_requireBoat : MethodName := ⟨RX4, "requireBoat", "(I)V"⟩
abbrev cX4_requireAtSea : ByteArray := prog_1_method_35_code
def yX4_requireAtSea : MethodName := ⟨RX4, "requireAtSea", "(I)V"⟩
abbrev cX4_moonOf : ByteArray := prog_1_method_36_code
def yX4_moonOf : MethodName := ⟨RX4, "moonOf", "(I)I"⟩
abbrev cX4_distance : ByteArray := prog_1_method_37_code
def yX4_distance : MethodName := ⟨RX4, "distance", "(II)I"⟩
def RX5 : String := "CoveSignalsModel$State"
def TX5 : u_T := fun k => match k with
  | 0 => ("CoveSignalsModel$State", "hour", "I", false)
  | 1 => ("CoveSignalsModel$State", "lanterns", "I", false)
  | 2 => ("CoveSignalsModel$State", "watchmen", "I", false)
  | 3 => ("CoveSignalsModel$State", "boats", "I", false)
  | 4 => ("CoveSignalsModel$State", "seized", "I", false)
  | 5 => ("CoveSignalsModel$State", "carried", "I", false)
  | 6 => ("CoveSignalsModel$State", "room", "[I", true)
  | 7 => ("CoveSignalsModel$State", "cave", "[I", true)
  | 8 => ("CoveSignalsModel$State", "names", "[I", true)
  | 9 => ("CoveSignalsModel$State", "seen", "[I", true)
  | 10 => ("CoveSignalsModel$State", "stands", "[I", true)
  | 11 => ("CoveSignalsModel$State", "shows", "[I", true)
  | 12 => ("CoveSignalsModel$State", "noted", "[I", true)
  | 13 => ("CoveSignalsModel$State", "low", "[I", true)
  | 14 => ("CoveSignalsModel$State", "high", "[I", true)
  | 15 => ("CoveSignalsModel$State", "eyes", "[I", true)
  | 16 => ("CoveSignalsModel$State", "walks", "[I", true)
  | 17 => ("CoveSignalsModel$State", "goes", "[I", true)
  | 18 => ("CoveSignalsModel$State", "caught", "[I", true)
  | 19 => ("CoveSignalsModel$State", "place", "[I", true)
  | 20 => ("CoveSignalsModel$State", "bales", "[I", true)
  | 21 => ("CoveSignalsModel$State", "goal", "[I", true)
  | 22 => ("CoveSignalsModel$State", "led", "[I", true)
  | 23 => ("CoveSignalsModel$State", "minds", "[I", true)
  | 24 => ("CoveSignalsModel$State", "is", "[I", true)
  | _ => ("CoveSignalsModel$State", "unloaded", "[I", true)
def tyX5 : Nat → FieldType := fun k => match k with
  | 0 => .int
  | 1 => .int
  | 2 => .int
  | 3 => .int
  | 4 => .int
  | 5 => .int
  | 6 => .array .int
  | 7 => .array .int
  | 8 => .array .int
  | 9 => .array .int
  | 10 => .array .int
  | 11 => .array .int
  | 12 => .array .int
  | 13 => .array .int
  | 14 => .array .int
  | 15 => .array .int
  | 16 => .array .int
  | 17 => .array .int
  | 18 => .array .int
  | 19 => .array .int
  | 20 => .array .int
  | 21 => .array .int
  | 22 => .array .int
  | 23 => .array .int
  | 24 => .array .int
  | _ => .array .int
abbrev wsX50 : List Cond := u_ws RX5 TX5 26
theorem nmX5 : ∀ a, a < 26 → ∀ b, b < 26 → a ≠ b → (TX5 a).2.1 ≠ (TX5 b).2.1 := by decide +kernel
theorem tyX5_ok : ∀ k, k < 26 → parseFieldDescriptor (TX5 k).2.2.1 = some (tyX5 k) := by decide +kernel
abbrev cX5_init : ByteArray := prog_8_method_1_code
def yX5_init : MethodName := ⟨RX5, "<init>", "()V"⟩
abbrev cX5_copy : ByteArray := prog_8_method_2_code
def yX5_copy : MethodName := ⟨RX5, "copy", "([I[I)V"⟩
abbrev cX5_become : ByteArray := prog_8_method_3_code
def yX5_become : MethodName := ⟨RX5, "become", "(LCoveSignalsModel$State;)V"⟩
abbrev cX5_moonOf : ByteArray := prog_8_method_4_code
def yX5_moonOf : MethodName := ⟨RX5, "moonOf", "(I)I"⟩
abbrev cX5_moon : ByteArray := prog_8_method_5_code
def yX5_moon : MethodName := ⟨RX5, "moon", "()I"⟩
abbrev cX5_shown : ByteArray := prog_8_method_6_code
def yX5_shown : MethodName := ⟨RX5, "shown", "(I)I"⟩
abbrev cX5_sight : ByteArray := prog_8_method_7_code
def yX5_sight : MethodName := ⟨RX5, "sight", "(I)I"⟩
abbrev cX5_farSight : ByteArray := prog_8_method_8_code
def yX5_farSight : MethodName := ⟨RX5, "farSight", "(I)I"⟩
abbrev cX5_watchersOfLight : ByteArray := prog_8_method_9_code
def yX5_watchersOfLight : MethodName := ⟨RX5, "watchersOfLight", "(I)I"⟩
abbrev cX5_watchersOf : ByteArray := prog_8_method_10_code
def yX5_watchersOf : MethodName := ⟨RX5, "watchersOf", "(I)I"⟩
abbrev cX5_isKnown : ByteArray := prog_8_method_11_code
def yX5_isKnown : MethodName := ⟨RX5, "isKnown", "(I)Z"⟩
abbrev cX5_isThere : ByteArray := prog_8_method_12_code
def yX5_isThere : MethodName := ⟨RX5, "isThere", "(I)Z"⟩
abbrev cX5_note : ByteArray := prog_8_method_13_code
def yX5_note : MethodName := ⟨RX5, "note", "()V"⟩
abbrev cX5_unload : ByteArray := prog_8_method_14_code
def yX5_unload : MethodName := ⟨RX5, "unload", "(I)I"⟩
abbrev cX5_read : ByteArray := prog_8_method_15_code
def yX5_read : MethodName := ⟨RX5, "read", "(I)V"⟩
abbrev cX5_sail : ByteArray := prog_8_method_16_code
def yX5_sail : MethodName := ⟨RX5, "sail", "(I)V"⟩
abbrev cX5_walk : ByteArray := prog_8_method_17_code
def yX5_walk : MethodName := ⟨RX5, "walk", "(I)V"⟩
abbrev cX5_seize : ByteArray := prog_8_method_18_code
def yX5_seize : MethodName := ⟨RX5, "seize", "(I)V"⟩
abbrev cX5_go : ByteArray := prog_8_method_19_code
def yX5_go : MethodName := ⟨RX5, "go", "()I"⟩
abbrev cX5_in : ByteArray := prog_8_method_20_code
def yX5_in : MethodName := ⟨RX5, "in", "(I)I"⟩
abbrev cX5_caves : ByteArray := prog_8_method_21_code
def yX5_caves : MethodName := ⟨RX5, "caves", "()I"⟩
abbrev cX5_known : ByteArray := prog_8_method_22_code
def yX5_known : MethodName := ⟨RX5, "known", "()I"⟩
abbrev cX5_counted : ByteArray := prog_8_method_23_code
def yX5_counted : MethodName := ⟨RX5, "counted", "(I)I"⟩
abbrev cX5_send : ByteArray := prog_8_method_24_code
def yX5_send : MethodName := ⟨RX5, "send", "(II)V"⟩
def RX6 : String := "CoveSignalsModel"
def TX6 : u_T := fun k => match k with
  | 0 => ("CoveSignalsModel", "thrown", "I", false)
  | 1 => ("CoveSignalsModel", "s", "LCoveSignalsModel$State;", true)
  | _ => ("CoveSignalsModel", "ahead", "LCoveSignalsModel$State;", true)
def tyX6 : Nat → FieldType := fun k => match k with
  | 0 => .int
  | 1 => .object "CoveSignalsModel$State"
  | _ => .object "CoveSignalsModel$State"
abbrev wsX60 : List Cond := u_ws RX6 TX6 3
theorem nmX6 : ∀ a, a < 3 → ∀ b, b < 3 → a ≠ b → (TX6 a).2.1 ≠ (TX6 b).2.1 := by decide +kernel
theorem tyX6_ok : ∀ k, k < 3 → parseFieldDescriptor (TX6 k).2.2.1 = some (tyX6 k) := by decide +kernel
abbrev cX6_init : ByteArray := prog_7_method_1_code
def yX6_init : MethodName := ⟨RX6, "<init>", "()V"⟩
abbrev cX6_thrown : ByteArray := prog_7_method_2_code
def yX6_thrown : MethodName := ⟨RX6, "thrown", "()I"⟩
abbrev cX6_no : ByteArray := prog_7_method_3_code
def yX6_no : MethodName := ⟨RX6, "no", "(I)I"⟩
abbrev cX6_isIn : ByteArray := prog_7_method_4_code
def yX6_isIn : MethodName := ⟨RX6, "isIn", "(III)Z"⟩
abbrev cX6_isPlace : ByteArray := prog_7_method_5_code
def yX6_isPlace : MethodName := ⟨RX6, "isPlace", "(I)Z"⟩
abbrev cX6_isCode : ByteArray := prog_7_method_6_code
def yX6_isCode : MethodName := ⟨RX6, "isCode", "(I)Z"⟩
abbrev cX6_isLantern : ByteArray := prog_7_method_7_code
def yX6_isLantern : MethodName := ⟨RX6, "isLantern", "(I)Z"⟩
abbrev cX6_isWatchman : ByteArray := prog_7_method_8_code
def yX6_isWatchman : MethodName := ⟨RX6, "isWatchman", "(I)Z"⟩
abbrev cX6_isBoat : ByteArray := prog_7_method_9_code
def yX6_isBoat : MethodName := ⟨RX6, "isBoat", "(I)Z"⟩
abbrev cX6_setRoom : ByteArray := prog_7_method_10_code
def yX6_setRoom : MethodName := ⟨RX6, "setRoom", "(II)I"⟩
abbrev cX6_setCode : ByteArray := prog_7_method_11_code
def yX6_setCode : MethodName := ⟨RX6, "setCode", "(II)I"⟩
abbrev cX6_lantern : ByteArray := prog_7_method_12_code
def yX6_lantern : MethodName := ⟨RX6, "lantern", "(I)I"⟩
abbrev cX6_setShow : ByteArray := prog_7_method_13_code
def yX6_setShow : MethodName := ⟨RX6, "setShow", "(III)I"⟩
abbrev cX6_watchman : ByteArray := prog_7_method_14_code
def yX6_watchman : MethodName := ⟨RX6, "watchman", "(III)I"⟩
abbrev cX6_boat : ByteArray := prog_7_method_15_code
def yX6_boat : MethodName := ⟨RX6, "boat", "(II)I"⟩
abbrev cX6_send : ByteArray := prog_7_method_16_code
def yX6_send : MethodName := ⟨RX6, "send", "(II)I"⟩
abbrev cX6_carry : ByteArray := prog_7_method_17_code
def yX6_carry : MethodName := ⟨RX6, "carry", "(II)I"⟩
abbrev cX6_state : ByteArray := prog_7_method_18_code
def yX6_state : MethodName := ⟨RX6, "state", "(I)I"⟩
abbrev cX6_boatTold : ByteArray := prog_7_method_19_code
def yX6_boatTold : MethodName := ⟨RX6, "boatTold", "(II)I"⟩
abbrev cX6_told : ByteArray := prog_7_method_20_code
def yX6_told : MethodName := ⟨RX6, "told", "(II)I"⟩
abbrev cX6_watchmanTold : ByteArray := prog_7_method_21_code
def yX6_watchmanTold : MethodName := ⟨RX6, "watchmanTold", "(II)I"⟩
abbrev cX6_about : ByteArray := prog_7_method_22_code
def yX6_about : MethodName := ⟨RX6, "about", "(II)I"⟩
abbrev cX6_lightTold : ByteArray := prog_7_method_23_code
def yX6_lightTold : MethodName := ⟨RX6, "lightTold", "(II)I"⟩
abbrev cX6_light : ByteArray := prog_7_method_24_code
def yX6_light : MethodName := ⟨RX6, "light", "(II)I"⟩
abbrev cX6_codeTold : ByteArray := prog_7_method_25_code
def yX6_codeTold : MethodName := ⟨RX6, "codeTold", "(II)I"⟩
abbrev cX6_code : ByteArray := prog_7_method_26_code
def yX6_code : MethodName := ⟨RX6, "code", "(II)I"⟩
abbrev cX6_placeTold : ByteArray := prog_7_method_27_code
def yX6_placeTold : MethodName := ⟨RX6, "placeTold", "(II)I"⟩
abbrev cX6_place : ByteArray := prog_7_method_28_code
def yX6_place : MethodName := ⟨RX6, "place", "(II)I"⟩
abbrev cX6_moon : ByteArray := prog_7_method_29_code
def yX6_moon : MethodName := ⟨RX6, "moon", "(I)I"⟩
abbrev cX6_count : ByteArray := prog_7_method_30_code
def yX6_count : MethodName := ⟨RX6, "count", "(I)I"⟩
abbrev cX6_goOn : ByteArray := prog_7_method_31_code
def yX6_goOn : MethodName := ⟨RX6, "goOn", "(LCoveSignalsModel$State;I)I"⟩
abbrev cX6_pass : ByteArray := prog_7_method_32_code
def yX6_pass : MethodName := ⟨RX6, "pass", "(I)I"⟩
abbrev cX6_until : ByteArray := prog_7_method_33_code
def yX6_until : MethodName := ⟨RX6, "until", "(I)I"⟩
abbrev cX6_foresee : ByteArray := prog_7_method_34_code
def yX6_foresee : MethodName := ⟨RX6, "foresee", "(II)I"⟩
abbrev cX6_advise : ByteArray := prog_7_method_35_code
def yX6_advise : MethodName := ⟨RX6, "advise", "(I)I"⟩
abbrev cX6_quiet : ByteArray := prog_7_method_36_code
def yX6_quiet : MethodName := ⟨RX6, "quiet", "(I)I"⟩
abbrev cX6_mean : ByteArray := prog_7_method_37_code
def yX6_mean : MethodName := ⟨RX6, "mean", "()D"⟩
abbrev cX6_digest : ByteArray := prog_7_method_38_code
def yX6_digest : MethodName := ⟨RX6, "digest", "()J"⟩
def RJ9 : String := "java/lang/Math"
def TJ9 : u_T := fun k => match k with
  | _ => ("", "", "", false)
def tyJ9 : Nat → FieldType := fun k => match k with
  | _ => .int
abbrev cJ9_floorMod_7cf53 : ByteArray := prog_13_method_50_code
def yJ9_floorMod_7cf53 : MethodName := ⟨RJ9, "floorMod", "(II)I"⟩
abbrev cJ9_abs_0f7a4 : ByteArray := prog_13_method_59_code
def yJ9_abs_0f7a4 : MethodName := ⟨RJ9, "abs", "(I)I"⟩
abbrev cJ9_max_7cf53 : ByteArray := prog_13_method_65_code
def yJ9_max_7cf53 : MethodName := ⟨RJ9, "max", "(II)I"⟩
abbrev cJ9_min_7cf53 : ByteArray := prog_13_method_69_code
def yJ9_min_7cf53 : MethodName := ⟨RJ9, "min", "(II)I"⟩
def RJ0 : String := "java/lang/String"
def TJ0 : u_T := fun k => match k with
  | _ => ("", "", "", false)
def tyJ0 : Nat → FieldType := fun k => match k with
  | _ => .int
def RJ10 : String := "java/lang/System"
def TJ10 : u_T := fun k => match k with
  | _ => ("", "", "", false)
def tyJ10 : Nat → FieldType := fun k => match k with
  | _ => .int
def RL : String := "CoveSignalsLaw"
abbrev cL_setRoom : ByteArray := method_3_code
def yL_setRoom : MethodName := ⟨RL, "setRoom", "(LCoveSignals;II[J)I"⟩
abbrev cL_setCode : ByteArray := method_4_code
def yL_setCode : MethodName := ⟨RL, "setCode", "(LCoveSignals;II[J)I"⟩
abbrev cL_lantern : ByteArray := method_5_code
def yL_lantern : MethodName := ⟨RL, "lantern", "(LCoveSignals;I[J)I"⟩
abbrev cL_setShow : ByteArray := method_6_code
def yL_setShow : MethodName := ⟨RL, "setShow", "(LCoveSignals;III[J)I"⟩
abbrev cL_watchman : ByteArray := method_7_code
def yL_watchman : MethodName := ⟨RL, "watchman", "(LCoveSignals;III[J)I"⟩
abbrev cL_boat : ByteArray := method_8_code
def yL_boat : MethodName := ⟨RL, "boat", "(LCoveSignals;II[J)I"⟩
abbrev cL_send : ByteArray := method_9_code
def yL_send : MethodName := ⟨RL, "send", "(LCoveSignals;II[J)I"⟩
abbrev cL_carry : ByteArray := method_10_code
def yL_carry : MethodName := ⟨RL, "carry", "(LCoveSignals;II[J)I"⟩
abbrev cL_told : ByteArray := method_11_code
def yL_told : MethodName := ⟨RL, "told", "(LCoveSignals;II[J)I"⟩
abbrev cL_about : ByteArray := method_12_code
def yL_about : MethodName := ⟨RL, "about", "(LCoveSignals;II[J)I"⟩
abbrev cL_light : ByteArray := method_13_code
def yL_light : MethodName := ⟨RL, "light", "(LCoveSignals;II[J)I"⟩
abbrev cL_code : ByteArray := method_14_code
def yL_code : MethodName := ⟨RL, "code", "(LCoveSignals;II[J)I"⟩
abbrev cL_place : ByteArray := method_15_code
def yL_place : MethodName := ⟨RL, "place", "(LCoveSignals;II[J)I"⟩
abbrev cL_moon : ByteArray := method_16_code
def yL_moon : MethodName := ⟨RL, "moon", "(LCoveSignals;I[J)I"⟩
abbrev cL_count : ByteArray := method_17_code
def yL_count : MethodName := ⟨RL, "count", "(LCoveSignals;I[J)I"⟩
abbrev cL_pass : ByteArray := method_18_code
def yL_pass : MethodName := ⟨RL, "pass", "(LCoveSignals;I[J)I"⟩
abbrev cL_until : ByteArray := method_19_code
def yL_until : MethodName := ⟨RL, "until", "(LCoveSignals;I[J)I"⟩
abbrev cL_foresee : ByteArray := method_20_code
def yL_foresee : MethodName := ⟨RL, "foresee", "(LCoveSignals;II[J)I"⟩
abbrev cL_advise : ByteArray := method_21_code
def yL_advise : MethodName := ⟨RL, "advise", "(LCoveSignals;I[J)I"⟩
abbrev cL_quiet : ByteArray := method_22_code
def yL_quiet : MethodName := ⟨RL, "quiet", "(LCoveSignals;I[J)I"⟩
abbrev cL_law : ByteArray := code
def yL_law : MethodName := ⟨RL, "law", "([I)Z"⟩
abbrev vwCl : List vw_C := [(RX0, TX0, 7), (RX1, TX1, 13), (RX2, TX2, 3), (RX3, TX3, 6), (RX4, TX4, 2), (RX5, TX5, 26), (RX6, TX6, 3)]
end
section
theorem dX0_init_0 : decode cX0_init 0 = .ok (.aload_n 0, 1) := by decide +kernel
theorem dX0_init_1 : decode cX0_init 1 = .ok (.invokespecial 3, 3) := by decide +kernel
theorem dX0_init_4 : decode cX0_init 4 = .ok (.return_, 1) := by decide +kernel
theorem dX0_begin_0 : decode cX0_begin 0 = .ok (.aload_n 0, 1) := by decide +kernel
theorem dX0_begin_1 : decode cX0_begin 1 = .ok (.iload_n 1, 1) := by decide +kernel
theorem dX0_begin_2 : decode cX0_begin 2 = .ok (.putfield 9, 3) := by decide +kernel
theorem dX0_begin_5 : decode cX0_begin 5 = .ok (.aload_n 0, 1) := by decide +kernel
theorem dX0_begin_6 : decode cX0_begin 6 = .ok (.iload_n 2, 1) := by decide +kernel
theorem dX0_begin_7 : decode cX0_begin 7 = .ok (.putfield 15, 3) := by decide +kernel
theorem dX0_begin_10 : decode cX0_begin 10 = .ok (.aload_n 0, 1) := by decide +kernel
theorem dX0_begin_11 : decode cX0_begin 11 = .ok (.iconst (-1), 1) := by decide +kernel
theorem dX0_begin_12 : decode cX0_begin 12 = .ok (.putfield 18, 3) := by decide +kernel
theorem dX0_begin_15 : decode cX0_begin 15 = .ok (.aload_n 0, 1) := by decide +kernel
theorem dX0_begin_16 : decode cX0_begin 16 = .ok (.iconst 0, 1) := by decide +kernel
theorem dX0_begin_17 : decode cX0_begin 17 = .ok (.putfield 21, 3) := by decide +kernel
theorem dX0_begin_20 : decode cX0_begin 20 = .ok (.aload_n 0, 1) := by decide +kernel
theorem dX0_begin_21 : decode cX0_begin 21 = .ok (.iconst 1, 1) := by decide +kernel
theorem dX0_begin_22 : decode cX0_begin 22 = .ok (.putfield 24, 3) := by decide +kernel
theorem dX0_begin_25 : decode cX0_begin 25 = .ok (.aload_n 0, 1) := by decide +kernel
theorem dX0_begin_26 : decode cX0_begin 26 = .ok (.iconst 0, 1) := by decide +kernel
theorem dX0_begin_27 : decode cX0_begin 27 = .ok (.putfield 28, 3) := by decide +kernel
theorem dX0_begin_30 : decode cX0_begin 30 = .ok (.aload_n 0, 1) := by decide +kernel
theorem dX0_begin_31 : decode cX0_begin 31 = .ok (.iconst 0, 1) := by decide +kernel
theorem dX0_begin_32 : decode cX0_begin 32 = .ok (.putfield 31, 3) := by decide +kernel
theorem dX0_begin_35 : decode cX0_begin 35 = .ok (.return_, 1) := by decide +kernel
theorem dX0_copyFrom_0 : decode cX0_copyFrom 0 = .ok (.aload_n 0, 1) := by decide +kernel
theorem dX0_copyFrom_1 : decode cX0_copyFrom 1 = .ok (.aload_n 1, 1) := by decide +kernel
theorem dX0_copyFrom_2 : decode cX0_copyFrom 2 = .ok (.getfield 9, 3) := by decide +kernel
theorem dX0_copyFrom_5 : decode cX0_copyFrom 5 = .ok (.putfield 9, 3) := by decide +kernel
theorem dX0_copyFrom_8 : decode cX0_copyFrom 8 = .ok (.aload_n 0, 1) := by decide +kernel
theorem dX0_copyFrom_9 : decode cX0_copyFrom 9 = .ok (.aload_n 1, 1) := by decide +kernel
theorem dX0_copyFrom_10 : decode cX0_copyFrom 10 = .ok (.getfield 15, 3) := by decide +kernel
theorem dX0_copyFrom_13 : decode cX0_copyFrom 13 = .ok (.putfield 15, 3) := by decide +kernel
theorem dX0_copyFrom_16 : decode cX0_copyFrom 16 = .ok (.aload_n 0, 1) := by decide +kernel
theorem dX0_copyFrom_17 : decode cX0_copyFrom 17 = .ok (.aload_n 1, 1) := by decide +kernel
theorem dX0_copyFrom_18 : decode cX0_copyFrom 18 = .ok (.getfield 18, 3) := by decide +kernel
theorem dX0_copyFrom_21 : decode cX0_copyFrom 21 = .ok (.putfield 18, 3) := by decide +kernel
theorem dX0_copyFrom_24 : decode cX0_copyFrom 24 = .ok (.aload_n 0, 1) := by decide +kernel
theorem dX0_copyFrom_25 : decode cX0_copyFrom 25 = .ok (.aload_n 1, 1) := by decide +kernel
theorem dX0_copyFrom_26 : decode cX0_copyFrom 26 = .ok (.getfield 21, 3) := by decide +kernel
theorem dX0_copyFrom_29 : decode cX0_copyFrom 29 = .ok (.putfield 21, 3) := by decide +kernel
theorem dX0_copyFrom_32 : decode cX0_copyFrom 32 = .ok (.aload_n 0, 1) := by decide +kernel
theorem dX0_copyFrom_33 : decode cX0_copyFrom 33 = .ok (.aload_n 1, 1) := by decide +kernel
theorem dX0_copyFrom_34 : decode cX0_copyFrom 34 = .ok (.getfield 24, 3) := by decide +kernel
theorem dX0_copyFrom_37 : decode cX0_copyFrom 37 = .ok (.putfield 24, 3) := by decide +kernel
theorem dX0_copyFrom_40 : decode cX0_copyFrom 40 = .ok (.aload_n 0, 1) := by decide +kernel
theorem dX0_copyFrom_41 : decode cX0_copyFrom 41 = .ok (.aload_n 1, 1) := by decide +kernel
theorem dX0_copyFrom_42 : decode cX0_copyFrom 42 = .ok (.getfield 28, 3) := by decide +kernel
theorem dX0_copyFrom_45 : decode cX0_copyFrom 45 = .ok (.putfield 28, 3) := by decide +kernel
theorem dX0_copyFrom_48 : decode cX0_copyFrom 48 = .ok (.aload_n 0, 1) := by decide +kernel
theorem dX0_copyFrom_49 : decode cX0_copyFrom 49 = .ok (.aload_n 1, 1) := by decide +kernel
theorem dX0_copyFrom_50 : decode cX0_copyFrom 50 = .ok (.getfield 31, 3) := by decide +kernel
theorem dX0_copyFrom_53 : decode cX0_copyFrom 53 = .ok (.putfield 31, 3) := by decide +kernel
theorem dX0_copyFrom_56 : decode cX0_copyFrom 56 = .ok (.return_, 1) := by decide +kernel
theorem dX0_sendTo_0 : decode cX0_sendTo 0 = .ok (.aload_n 0, 1) := by decide +kernel
theorem dX0_sendTo_1 : decode cX0_sendTo 1 = .ok (.iload_n 1, 1) := by decide +kernel
theorem dX0_sendTo_2 : decode cX0_sendTo 2 = .ok (.putfield 18, 3) := by decide +kernel
theorem dX0_sendTo_5 : decode cX0_sendTo 5 = .ok (.aload_n 0, 1) := by decide +kernel
theorem dX0_sendTo_6 : decode cX0_sendTo 6 = .ok (.iload_n 1, 1) := by decide +kernel
theorem dX0_sendTo_7 : decode cX0_sendTo 7 = .ok (.iconst (-1), 1) := by decide +kernel
theorem dX0_sendTo_8 : decode cX0_sendTo 8 = .ok (.if_icmp .ne 7, 3) := by decide +kernel
theorem dX0_sendTo_11 : decode cX0_sendTo 11 = .ok (.iconst 1, 1) := by decide +kernel
theorem dX0_sendTo_12 : decode cX0_sendTo 12 = .ok (.goto 4, 3) := by decide +kernel
theorem dX0_sendTo_15 : decode cX0_sendTo 15 = .ok (.iconst 0, 1) := by decide +kernel
theorem dX0_sendTo_16 : decode cX0_sendTo 16 = .ok (.putfield 24, 3) := by decide +kernel
theorem dX0_sendTo_19 : decode cX0_sendTo 19 = .ok (.aload_n 0, 1) := by decide +kernel
theorem dX0_sendTo_20 : decode cX0_sendTo 20 = .ok (.iconst 0, 1) := by decide +kernel
theorem dX0_sendTo_21 : decode cX0_sendTo 21 = .ok (.putfield 21, 3) := by decide +kernel
theorem dX0_sendTo_24 : decode cX0_sendTo 24 = .ok (.return_, 1) := by decide +kernel
theorem dX0_liesAtGoal_0 : decode cX0_liesAtGoal 0 = .ok (.aload_n 0, 1) := by decide +kernel
theorem dX0_liesAtGoal_1 : decode cX0_liesAtGoal 1 = .ok (.getfield 28, 3) := by decide +kernel
theorem dX0_liesAtGoal_4 : decode cX0_liesAtGoal 4 = .ok (.ifCond .ne 18, 3) := by decide +kernel
theorem dX0_liesAtGoal_7 : decode cX0_liesAtGoal 7 = .ok (.aload_n 0, 1) := by decide +kernel
theorem dX0_liesAtGoal_8 : decode cX0_liesAtGoal 8 = .ok (.getfield 18, 3) := by decide +kernel
theorem dX0_liesAtGoal_11 : decode cX0_liesAtGoal 11 = .ok (.aload_n 0, 1) := by decide +kernel
theorem dX0_liesAtGoal_12 : decode cX0_liesAtGoal 12 = .ok (.getfield 9, 3) := by decide +kernel
theorem dX0_liesAtGoal_15 : decode cX0_liesAtGoal 15 = .ok (.if_icmp .ne 7, 3) := by decide +kernel
theorem dX0_liesAtGoal_18 : decode cX0_liesAtGoal 18 = .ok (.iconst 1, 1) := by decide +kernel
theorem dX0_liesAtGoal_19 : decode cX0_liesAtGoal 19 = .ok (.goto 4, 3) := by decide +kernel
theorem dX0_liesAtGoal_22 : decode cX0_liesAtGoal 22 = .ok (.iconst 0, 1) := by decide +kernel
theorem dX0_liesAtGoal_23 : decode cX0_liesAtGoal 23 = .ok (.ireturn, 1) := by decide +kernel
theorem dX0_sail_0 : decode cX0_sail 0 = .ok (.aload_n 0, 1) := by decide +kernel
theorem dX0_sail_1 : decode cX0_sail 1 = .ok (.getfield 18, 3) := by decide +kernel
theorem dX0_sail_4 : decode cX0_sail 4 = .ok (.iconst (-1), 1) := by decide +kernel
theorem dX0_sail_5 : decode cX0_sail 5 = .ok (.if_icmp .ne 4, 3) := by decide +kernel
theorem dX0_sail_8 : decode cX0_sail 8 = .ok (.return_, 1) := by decide +kernel
theorem dX0_sail_9 : decode cX0_sail 9 = .ok (.aload_n 0, 1) := by decide +kernel
theorem dX0_sail_10 : decode cX0_sail 10 = .ok (.getfield 9, 3) := by decide +kernel
theorem dX0_sail_13 : decode cX0_sail 13 = .ok (.aload_n 0, 1) := by decide +kernel
theorem dX0_sail_14 : decode cX0_sail 14 = .ok (.getfield 18, 3) := by decide +kernel
theorem dX0_sail_17 : decode cX0_sail 17 = .ok (.invokestatic 34, 3) := by decide +kernel
theorem dX0_sail_20 : decode cX0_sail 20 = .ok (.istore_n 1, 1) := by decide +kernel
theorem dX0_sail_21 : decode cX0_sail 21 = .ok (.iload_n 1, 1) := by decide +kernel
theorem dX0_sail_22 : decode cX0_sail 22 = .ok (.iconst 2, 1) := by decide +kernel
theorem dX0_sail_23 : decode cX0_sail 23 = .ok (.if_icmp .ge 7, 3) := by decide +kernel
theorem dX0_sail_26 : decode cX0_sail 26 = .ok (.iload_n 1, 1) := by decide +kernel
theorem dX0_sail_27 : decode cX0_sail 27 = .ok (.goto 4, 3) := by decide +kernel
theorem dX0_sail_30 : decode cX0_sail 30 = .ok (.iconst 2, 1) := by decide +kernel
theorem dX0_sail_31 : decode cX0_sail 31 = .ok (.istore_n 2, 1) := by decide +kernel
theorem dX0_sail_32 : decode cX0_sail 32 = .ok (.aload_n 0, 1) := by decide +kernel
theorem dX0_sail_33 : decode cX0_sail 33 = .ok (.dup, 1) := by decide +kernel
theorem dX0_sail_34 : decode cX0_sail 34 = .ok (.getfield 9, 3) := by decide +kernel
theorem dX0_sail_37 : decode cX0_sail 37 = .ok (.aload_n 0, 1) := by decide +kernel
theorem dX0_sail_38 : decode cX0_sail 38 = .ok (.getfield 18, 3) := by decide +kernel
theorem dX0_sail_41 : decode cX0_sail 41 = .ok (.aload_n 0, 1) := by decide +kernel
theorem dX0_sail_42 : decode cX0_sail 42 = .ok (.getfield 9, 3) := by decide +kernel
theorem dX0_sail_45 : decode cX0_sail 45 = .ok (.if_icmp .ge 8, 3) := by decide +kernel
theorem dX0_sail_48 : decode cX0_sail 48 = .ok (.iload_n 2, 1) := by decide +kernel
theorem dX0_sail_49 : decode cX0_sail 49 = .ok (.ineg, 1) := by decide +kernel
theorem dX0_sail_50 : decode cX0_sail 50 = .ok (.goto 4, 3) := by decide +kernel
theorem dX0_sail_53 : decode cX0_sail 53 = .ok (.iload_n 2, 1) := by decide +kernel
theorem dX0_sail_54 : decode cX0_sail 54 = .ok (.iadd, 1) := by decide +kernel
theorem dX0_sail_55 : decode cX0_sail 55 = .ok (.putfield 9, 3) := by decide +kernel
theorem dX0_sail_58 : decode cX0_sail 58 = .ok (.return_, 1) := by decide +kernel
theorem dX0_stage_0 : decode cX0_stage 0 = .ok (.aload_n 0, 1) := by decide +kernel
theorem dX0_stage_1 : decode cX0_stage 1 = .ok (.getfield 28, 3) := by decide +kernel
theorem dX0_stage_4 : decode cX0_stage 4 = .ok (.iconst 1, 1) := by decide +kernel
theorem dX0_stage_5 : decode cX0_stage 5 = .ok (.if_icmp .ne 5, 3) := by decide +kernel
theorem dX0_stage_8 : decode cX0_stage 8 = .ok (.iconst 3, 1) := by decide +kernel
theorem dX0_stage_9 : decode cX0_stage 9 = .ok (.ireturn, 1) := by decide +kernel
theorem dX0_stage_10 : decode cX0_stage 10 = .ok (.aload_n 0, 1) := by decide +kernel
theorem dX0_stage_11 : decode cX0_stage 11 = .ok (.getfield 28, 3) := by decide +kernel
theorem dX0_stage_14 : decode cX0_stage 14 = .ok (.iconst 2, 1) := by decide +kernel
theorem dX0_stage_15 : decode cX0_stage 15 = .ok (.if_icmp .ne 5, 3) := by decide +kernel
theorem dX0_stage_18 : decode cX0_stage 18 = .ok (.iconst 4, 1) := by decide +kernel
theorem dX0_stage_19 : decode cX0_stage 19 = .ok (.ireturn, 1) := by decide +kernel
theorem dX0_stage_20 : decode cX0_stage 20 = .ok (.aload_n 0, 1) := by decide +kernel
theorem dX0_stage_21 : decode cX0_stage 21 = .ok (.getfield 18, 3) := by decide +kernel
theorem dX0_stage_24 : decode cX0_stage 24 = .ok (.iconst (-1), 1) := by decide +kernel
theorem dX0_stage_25 : decode cX0_stage 25 = .ok (.if_icmp .ne 5, 3) := by decide +kernel
theorem dX0_stage_28 : decode cX0_stage 28 = .ok (.iconst 0, 1) := by decide +kernel
theorem dX0_stage_29 : decode cX0_stage 29 = .ok (.ireturn, 1) := by decide +kernel
theorem dX0_stage_30 : decode cX0_stage 30 = .ok (.aload_n 0, 1) := by decide +kernel
theorem dX0_stage_31 : decode cX0_stage 31 = .ok (.getfield 18, 3) := by decide +kernel
theorem dX0_stage_34 : decode cX0_stage 34 = .ok (.aload_n 0, 1) := by decide +kernel
theorem dX0_stage_35 : decode cX0_stage 35 = .ok (.getfield 9, 3) := by decide +kernel
theorem dX0_stage_38 : decode cX0_stage 38 = .ok (.if_icmp .ne 7, 3) := by decide +kernel
theorem dX0_stage_41 : decode cX0_stage 41 = .ok (.iconst 2, 1) := by decide +kernel
theorem dX0_stage_42 : decode cX0_stage 42 = .ok (.goto 4, 3) := by decide +kernel
theorem dX0_stage_45 : decode cX0_stage 45 = .ok (.iconst 1, 1) := by decide +kernel
theorem dX0_stage_46 : decode cX0_stage 46 = .ok (.ireturn, 1) := by decide +kernel
theorem dX0_tell_0 : decode cX0_tell 0 = .ok (.iload_n 1, 1) := by decide +kernel
theorem dX0_tell_1 : decode cX0_tell 1 = .ok (.tableswitch 69 0 5 #[39, 44, 49, 54, 59, 64], 39) := by decide +kernel
theorem dX0_tell_40 : decode cX0_tell 40 = .ok (.aload_n 0, 1) := by decide +kernel
theorem dX0_tell_41 : decode cX0_tell 41 = .ok (.getfield 9, 3) := by decide +kernel
theorem dX0_tell_44 : decode cX0_tell 44 = .ok (.ireturn, 1) := by decide +kernel
theorem dX0_tell_45 : decode cX0_tell 45 = .ok (.aload_n 0, 1) := by decide +kernel
theorem dX0_tell_46 : decode cX0_tell 46 = .ok (.getfield 15, 3) := by decide +kernel
theorem dX0_tell_49 : decode cX0_tell 49 = .ok (.ireturn, 1) := by decide +kernel
theorem dX0_tell_50 : decode cX0_tell 50 = .ok (.aload_n 0, 1) := by decide +kernel
theorem dX0_tell_51 : decode cX0_tell 51 = .ok (.getfield 18, 3) := by decide +kernel
theorem dX0_tell_54 : decode cX0_tell 54 = .ok (.ireturn, 1) := by decide +kernel
theorem dX0_tell_55 : decode cX0_tell 55 = .ok (.aload_n 0, 1) := by decide +kernel
theorem dX0_tell_56 : decode cX0_tell 56 = .ok (.invokevirtual 38, 3) := by decide +kernel
theorem dX0_tell_59 : decode cX0_tell 59 = .ok (.ireturn, 1) := by decide +kernel
theorem dX0_tell_60 : decode cX0_tell 60 = .ok (.aload_n 0, 1) := by decide +kernel
theorem dX0_tell_61 : decode cX0_tell 61 = .ok (.getfield 31, 3) := by decide +kernel
theorem dX0_tell_64 : decode cX0_tell 64 = .ok (.ireturn, 1) := by decide +kernel
theorem dX0_tell_65 : decode cX0_tell 65 = .ok (.aload_n 0, 1) := by decide +kernel
theorem dX0_tell_66 : decode cX0_tell 66 = .ok (.getfield 21, 3) := by decide +kernel
theorem dX0_tell_69 : decode cX0_tell 69 = .ok (.ireturn, 1) := by decide +kernel
theorem dX0_tell_70 : decode cX0_tell 70 = .ok (.aload_n 0, 1) := by decide +kernel
theorem dX0_tell_71 : decode cX0_tell 71 = .ok (.getfield 24, 3) := by decide +kernel
theorem dX0_tell_74 : decode cX0_tell 74 = .ok (.ifCond .eq 7, 3) := by decide +kernel
theorem dX0_tell_77 : decode cX0_tell 77 = .ok (.iconst 1, 1) := by decide +kernel
theorem dX0_tell_78 : decode cX0_tell 78 = .ok (.goto 4, 3) := by decide +kernel
theorem dX0_tell_81 : decode cX0_tell 81 = .ok (.iconst 0, 1) := by decide +kernel
theorem dX0_tell_82 : decode cX0_tell 82 = .ok (.ireturn, 1) := by decide +kernel
theorem dX1_init_0 : decode cX1_init 0 = .ok (.aload_n 0, 1) := by decide +kernel
theorem dX1_init_1 : decode cX1_init 1 = .ok (.invokespecial 3, 3) := by decide +kernel
theorem dX1_init_4 : decode cX1_init 4 = .ok (.aload_n 0, 1) := by decide +kernel
theorem dX1_init_5 : decode cX1_init 5 = .ok (.bipush 16, 2) := by decide +kernel
theorem dX1_init_7 : decode cX1_init 7 = .ok (.newarray .int, 2) := by decide +kernel
theorem dX1_init_9 : decode cX1_init 9 = .ok (.putfield 9, 3) := by decide +kernel
theorem dX1_init_12 : decode cX1_init 12 = .ok (.aload_n 0, 1) := by decide +kernel
theorem dX1_init_13 : decode cX1_init 13 = .ok (.bipush 16, 2) := by decide +kernel
theorem dX1_init_15 : decode cX1_init 15 = .ok (.newarray .int, 2) := by decide +kernel
theorem dX1_init_17 : decode cX1_init 17 = .ok (.putfield 15, 3) := by decide +kernel
theorem dX1_init_20 : decode cX1_init 20 = .ok (.aload_n 0, 1) := by decide +kernel
theorem dX1_init_21 : decode cX1_init 21 = .ok (.bipush 8, 2) := by decide +kernel
theorem dX1_init_23 : decode cX1_init 23 = .ok (.newarray .int, 2) := by decide +kernel
theorem dX1_init_25 : decode cX1_init 25 = .ok (.putfield 18, 3) := by decide +kernel
theorem dX1_init_28 : decode cX1_init 28 = .ok (.aload_n 0, 1) := by decide +kernel
theorem dX1_init_29 : decode cX1_init 29 = .ok (.bipush 8, 2) := by decide +kernel
theorem dX1_init_31 : decode cX1_init 31 = .ok (.newarray .int, 2) := by decide +kernel
theorem dX1_init_33 : decode cX1_init 33 = .ok (.putfield 21, 3) := by decide +kernel
theorem dX1_init_36 : decode cX1_init 36 = .ok (.aload_n 0, 1) := by decide +kernel
theorem dX1_init_37 : decode cX1_init 37 = .ok (.iconst 5, 1) := by decide +kernel
theorem dX1_init_38 : decode cX1_init 38 = .ok (.anewarray 24, 3) := by decide +kernel
theorem dX1_init_41 : decode cX1_init 41 = .ok (.putfield 26, 3) := by decide +kernel
theorem dX1_init_44 : decode cX1_init 44 = .ok (.aload_n 0, 1) := by decide +kernel
theorem dX1_init_45 : decode cX1_init 45 = .ok (.iconst 4, 1) := by decide +kernel
theorem dX1_init_46 : decode cX1_init 46 = .ok (.anewarray 30, 3) := by decide +kernel
theorem dX1_init_49 : decode cX1_init 49 = .ok (.putfield 32, 3) := by decide +kernel
theorem dX1_init_52 : decode cX1_init 52 = .ok (.aload_n 0, 1) := by decide +kernel
theorem dX1_init_53 : decode cX1_init 53 = .ok (.bipush 6, 2) := by decide +kernel
theorem dX1_init_55 : decode cX1_init 55 = .ok (.anewarray 36, 3) := by decide +kernel
theorem dX1_init_58 : decode cX1_init 58 = .ok (.putfield 38, 3) := by decide +kernel
theorem dX1_init_61 : decode cX1_init 61 = .ok (.iconst 0, 1) := by decide +kernel
theorem dX1_init_62 : decode cX1_init 62 = .ok (.istore_n 1, 1) := by decide +kernel
theorem dX1_init_63 : decode cX1_init 63 = .ok (.iload_n 1, 1) := by decide +kernel
theorem dX1_init_64 : decode cX1_init 64 = .ok (.bipush 7, 2) := by decide +kernel
theorem dX1_init_66 : decode cX1_init 66 = .ok (.if_icmp .gt 16, 3) := by decide +kernel
theorem dX1_init_69 : decode cX1_init 69 = .ok (.aload_n 0, 1) := by decide +kernel
theorem dX1_init_70 : decode cX1_init 70 = .ok (.getfield 18, 3) := by decide +kernel
theorem dX1_init_73 : decode cX1_init 73 = .ok (.iload_n 1, 1) := by decide +kernel
theorem dX1_init_74 : decode cX1_init 74 = .ok (.iconst (-1), 1) := by decide +kernel
theorem dX1_init_75 : decode cX1_init 75 = .ok (.iastore, 1) := by decide +kernel
theorem dX1_init_76 : decode cX1_init 76 = .ok (.iinc 1 1, 3) := by decide +kernel
theorem dX1_init_79 : decode cX1_init 79 = .ok (.goto (-16), 3) := by decide +kernel
theorem dX1_init_82 : decode cX1_init 82 = .ok (.iconst 0, 1) := by decide +kernel
theorem dX1_init_83 : decode cX1_init 83 = .ok (.istore_n 1, 1) := by decide +kernel
theorem dX1_init_84 : decode cX1_init 84 = .ok (.iload_n 1, 1) := by decide +kernel
theorem dX1_init_85 : decode cX1_init 85 = .ok (.iconst 5, 1) := by decide +kernel
theorem dX1_init_86 : decode cX1_init 86 = .ok (.if_icmp .ge 22, 3) := by decide +kernel
theorem dX1_init_89 : decode cX1_init 89 = .ok (.aload_n 0, 1) := by decide +kernel
theorem dX1_init_90 : decode cX1_init 90 = .ok (.getfield 26, 3) := by decide +kernel
theorem dX1_init_93 : decode cX1_init 93 = .ok (.iload_n 1, 1) := by decide +kernel
theorem dX1_init_94 : decode cX1_init 94 = .ok (.new 24, 3) := by decide +kernel
theorem dX1_init_97 : decode cX1_init 97 = .ok (.dup, 1) := by decide +kernel
theorem dX1_init_98 : decode cX1_init 98 = .ok (.invokespecial 42, 3) := by decide +kernel
theorem dX1_init_101 : decode cX1_init 101 = .ok (.aastore, 1) := by decide +kernel
theorem dX1_init_102 : decode cX1_init 102 = .ok (.iinc 1 1, 3) := by decide +kernel
theorem dX1_init_105 : decode cX1_init 105 = .ok (.goto (-21), 3) := by decide +kernel
theorem dX1_init_108 : decode cX1_init 108 = .ok (.iconst 0, 1) := by decide +kernel
theorem dX1_init_109 : decode cX1_init 109 = .ok (.istore_n 1, 1) := by decide +kernel
theorem dX1_init_110 : decode cX1_init 110 = .ok (.iload_n 1, 1) := by decide +kernel
theorem dX1_init_111 : decode cX1_init 111 = .ok (.iconst 4, 1) := by decide +kernel
theorem dX1_init_112 : decode cX1_init 112 = .ok (.if_icmp .ge 22, 3) := by decide +kernel
theorem dX1_init_115 : decode cX1_init 115 = .ok (.aload_n 0, 1) := by decide +kernel
theorem dX1_init_116 : decode cX1_init 116 = .ok (.getfield 32, 3) := by decide +kernel
theorem dX1_init_119 : decode cX1_init 119 = .ok (.iload_n 1, 1) := by decide +kernel
theorem dX1_init_120 : decode cX1_init 120 = .ok (.new 30, 3) := by decide +kernel
theorem dX1_init_123 : decode cX1_init 123 = .ok (.dup, 1) := by decide +kernel
theorem dX1_init_124 : decode cX1_init 124 = .ok (.invokespecial 43, 3) := by decide +kernel
theorem dX1_init_127 : decode cX1_init 127 = .ok (.aastore, 1) := by decide +kernel
theorem dX1_init_128 : decode cX1_init 128 = .ok (.iinc 1 1, 3) := by decide +kernel
theorem dX1_init_131 : decode cX1_init 131 = .ok (.goto (-21), 3) := by decide +kernel
theorem dX1_init_134 : decode cX1_init 134 = .ok (.iconst 0, 1) := by decide +kernel
theorem dX1_init_135 : decode cX1_init 135 = .ok (.istore_n 1, 1) := by decide +kernel
theorem dX1_init_136 : decode cX1_init 136 = .ok (.iload_n 1, 1) := by decide +kernel
theorem dX1_init_137 : decode cX1_init 137 = .ok (.bipush 6, 2) := by decide +kernel
theorem dX1_init_139 : decode cX1_init 139 = .ok (.if_icmp .ge 22, 3) := by decide +kernel
theorem dX1_init_142 : decode cX1_init 142 = .ok (.aload_n 0, 1) := by decide +kernel
theorem dX1_init_143 : decode cX1_init 143 = .ok (.getfield 38, 3) := by decide +kernel
theorem dX1_init_146 : decode cX1_init 146 = .ok (.iload_n 1, 1) := by decide +kernel
theorem dX1_init_147 : decode cX1_init 147 = .ok (.new 36, 3) := by decide +kernel
theorem dX1_init_150 : decode cX1_init 150 = .ok (.dup, 1) := by decide +kernel
theorem dX1_init_151 : decode cX1_init 151 = .ok (.invokespecial 44, 3) := by decide +kernel
theorem dX1_init_154 : decode cX1_init 154 = .ok (.aastore, 1) := by decide +kernel
theorem dX1_init_155 : decode cX1_init 155 = .ok (.iinc 1 1, 3) := by decide +kernel
theorem dX1_init_158 : decode cX1_init 158 = .ok (.goto (-22), 3) := by decide +kernel
theorem dX1_init_161 : decode cX1_init 161 = .ok (.return_, 1) := by decide +kernel
theorem dX1_copyFrom_0 : decode cX1_copyFrom 0 = .ok (.aload_n 1, 1) := by decide +kernel
theorem dX1_copyFrom_1 : decode cX1_copyFrom 1 = .ok (.getfield 9, 3) := by decide +kernel
theorem dX1_copyFrom_4 : decode cX1_copyFrom 4 = .ok (.iconst 0, 1) := by decide +kernel
theorem dX1_copyFrom_5 : decode cX1_copyFrom 5 = .ok (.aload_n 0, 1) := by decide +kernel
theorem dX1_copyFrom_6 : decode cX1_copyFrom 6 = .ok (.getfield 9, 3) := by decide +kernel
theorem dX1_copyFrom_9 : decode cX1_copyFrom 9 = .ok (.iconst 0, 1) := by decide +kernel
theorem dX1_copyFrom_10 : decode cX1_copyFrom 10 = .ok (.bipush 16, 2) := by decide +kernel
theorem dX1_copyFrom_12 : decode cX1_copyFrom 12 = .ok (.invokestatic 45, 3) := by decide +kernel
theorem dX1_copyFrom_15 : decode cX1_copyFrom 15 = .ok (.aload_n 1, 1) := by decide +kernel
theorem dX1_copyFrom_16 : decode cX1_copyFrom 16 = .ok (.getfield 15, 3) := by decide +kernel
theorem dX1_copyFrom_19 : decode cX1_copyFrom 19 = .ok (.iconst 0, 1) := by decide +kernel
theorem dX1_copyFrom_20 : decode cX1_copyFrom 20 = .ok (.aload_n 0, 1) := by decide +kernel
theorem dX1_copyFrom_21 : decode cX1_copyFrom 21 = .ok (.getfield 15, 3) := by decide +kernel
theorem dX1_copyFrom_24 : decode cX1_copyFrom 24 = .ok (.iconst 0, 1) := by decide +kernel
theorem dX1_copyFrom_25 : decode cX1_copyFrom 25 = .ok (.bipush 16, 2) := by decide +kernel
theorem dX1_copyFrom_27 : decode cX1_copyFrom 27 = .ok (.invokestatic 45, 3) := by decide +kernel
theorem dX1_copyFrom_30 : decode cX1_copyFrom 30 = .ok (.aload_n 1, 1) := by decide +kernel
theorem dX1_copyFrom_31 : decode cX1_copyFrom 31 = .ok (.getfield 18, 3) := by decide +kernel
theorem dX1_copyFrom_34 : decode cX1_copyFrom 34 = .ok (.iconst 0, 1) := by decide +kernel
theorem dX1_copyFrom_35 : decode cX1_copyFrom 35 = .ok (.aload_n 0, 1) := by decide +kernel
theorem dX1_copyFrom_36 : decode cX1_copyFrom 36 = .ok (.getfield 18, 3) := by decide +kernel
theorem dX1_copyFrom_39 : decode cX1_copyFrom 39 = .ok (.iconst 0, 1) := by decide +kernel
theorem dX1_copyFrom_40 : decode cX1_copyFrom 40 = .ok (.bipush 8, 2) := by decide +kernel
theorem dX1_copyFrom_42 : decode cX1_copyFrom 42 = .ok (.invokestatic 45, 3) := by decide +kernel
theorem dX1_copyFrom_45 : decode cX1_copyFrom 45 = .ok (.aload_n 1, 1) := by decide +kernel
theorem dX1_copyFrom_46 : decode cX1_copyFrom 46 = .ok (.getfield 21, 3) := by decide +kernel
theorem dX1_copyFrom_49 : decode cX1_copyFrom 49 = .ok (.iconst 0, 1) := by decide +kernel
theorem dX1_copyFrom_50 : decode cX1_copyFrom 50 = .ok (.aload_n 0, 1) := by decide +kernel
theorem dX1_copyFrom_51 : decode cX1_copyFrom 51 = .ok (.getfield 21, 3) := by decide +kernel
theorem dX1_copyFrom_54 : decode cX1_copyFrom 54 = .ok (.iconst 0, 1) := by decide +kernel
theorem dX1_copyFrom_55 : decode cX1_copyFrom 55 = .ok (.bipush 8, 2) := by decide +kernel
theorem dX1_copyFrom_57 : decode cX1_copyFrom 57 = .ok (.invokestatic 45, 3) := by decide +kernel
theorem dX1_copyFrom_60 : decode cX1_copyFrom 60 = .ok (.aload_n 0, 1) := by decide +kernel
theorem dX1_copyFrom_61 : decode cX1_copyFrom 61 = .ok (.aload_n 1, 1) := by decide +kernel
theorem dX1_copyFrom_62 : decode cX1_copyFrom 62 = .ok (.getfield 51, 3) := by decide +kernel
theorem dX1_copyFrom_65 : decode cX1_copyFrom 65 = .ok (.putfield 51, 3) := by decide +kernel
theorem dX1_copyFrom_68 : decode cX1_copyFrom 68 = .ok (.aload_n 0, 1) := by decide +kernel
theorem dX1_copyFrom_69 : decode cX1_copyFrom 69 = .ok (.aload_n 1, 1) := by decide +kernel
theorem dX1_copyFrom_70 : decode cX1_copyFrom 70 = .ok (.getfield 55, 3) := by decide +kernel
theorem dX1_copyFrom_73 : decode cX1_copyFrom 73 = .ok (.putfield 55, 3) := by decide +kernel
theorem dX1_copyFrom_76 : decode cX1_copyFrom 76 = .ok (.aload_n 0, 1) := by decide +kernel
theorem dX1_copyFrom_77 : decode cX1_copyFrom 77 = .ok (.aload_n 1, 1) := by decide +kernel
theorem dX1_copyFrom_78 : decode cX1_copyFrom 78 = .ok (.getfield 58, 3) := by decide +kernel
theorem dX1_copyFrom_81 : decode cX1_copyFrom 81 = .ok (.putfield 58, 3) := by decide +kernel
theorem dX1_copyFrom_84 : decode cX1_copyFrom 84 = .ok (.iconst 0, 1) := by decide +kernel
theorem dX1_copyFrom_85 : decode cX1_copyFrom 85 = .ok (.istore_n 2, 1) := by decide +kernel
theorem dX1_copyFrom_86 : decode cX1_copyFrom 86 = .ok (.iload_n 2, 1) := by decide +kernel
theorem dX1_copyFrom_87 : decode cX1_copyFrom 87 = .ok (.aload_n 0, 1) := by decide +kernel
theorem dX1_copyFrom_88 : decode cX1_copyFrom 88 = .ok (.getfield 51, 3) := by decide +kernel
theorem dX1_copyFrom_91 : decode cX1_copyFrom 91 = .ok (.if_icmp .ge 24, 3) := by decide +kernel
theorem dX1_copyFrom_94 : decode cX1_copyFrom 94 = .ok (.aload_n 0, 1) := by decide +kernel
theorem dX1_copyFrom_95 : decode cX1_copyFrom 95 = .ok (.getfield 26, 3) := by decide +kernel
theorem dX1_copyFrom_98 : decode cX1_copyFrom 98 = .ok (.iload_n 2, 1) := by decide +kernel
theorem dX1_copyFrom_99 : decode cX1_copyFrom 99 = .ok (.aaload, 1) := by decide +kernel
theorem dX1_copyFrom_100 : decode cX1_copyFrom 100 = .ok (.aload_n 1, 1) := by decide +kernel
theorem dX1_copyFrom_101 : decode cX1_copyFrom 101 = .ok (.getfield 26, 3) := by decide +kernel
theorem dX1_copyFrom_104 : decode cX1_copyFrom 104 = .ok (.iload_n 2, 1) := by decide +kernel
theorem dX1_copyFrom_105 : decode cX1_copyFrom 105 = .ok (.aaload, 1) := by decide +kernel
theorem dX1_copyFrom_106 : decode cX1_copyFrom 106 = .ok (.invokevirtual 61, 3) := by decide +kernel
theorem dX1_copyFrom_109 : decode cX1_copyFrom 109 = .ok (.iinc 2 1, 3) := by decide +kernel
theorem dX1_copyFrom_112 : decode cX1_copyFrom 112 = .ok (.goto (-26), 3) := by decide +kernel
theorem dX1_copyFrom_115 : decode cX1_copyFrom 115 = .ok (.iconst 0, 1) := by decide +kernel
theorem dX1_copyFrom_116 : decode cX1_copyFrom 116 = .ok (.istore_n 2, 1) := by decide +kernel
theorem dX1_copyFrom_117 : decode cX1_copyFrom 117 = .ok (.iload_n 2, 1) := by decide +kernel
theorem dX1_copyFrom_118 : decode cX1_copyFrom 118 = .ok (.aload_n 0, 1) := by decide +kernel
theorem dX1_copyFrom_119 : decode cX1_copyFrom 119 = .ok (.getfield 55, 3) := by decide +kernel
theorem dX1_copyFrom_122 : decode cX1_copyFrom 122 = .ok (.if_icmp .ge 24, 3) := by decide +kernel
theorem dX1_copyFrom_125 : decode cX1_copyFrom 125 = .ok (.aload_n 0, 1) := by decide +kernel
theorem dX1_copyFrom_126 : decode cX1_copyFrom 126 = .ok (.getfield 32, 3) := by decide +kernel
theorem dX1_copyFrom_129 : decode cX1_copyFrom 129 = .ok (.iload_n 2, 1) := by decide +kernel
theorem dX1_copyFrom_130 : decode cX1_copyFrom 130 = .ok (.aaload, 1) := by decide +kernel
theorem dX1_copyFrom_131 : decode cX1_copyFrom 131 = .ok (.aload_n 1, 1) := by decide +kernel
theorem dX1_copyFrom_132 : decode cX1_copyFrom 132 = .ok (.getfield 32, 3) := by decide +kernel
theorem dX1_copyFrom_135 : decode cX1_copyFrom 135 = .ok (.iload_n 2, 1) := by decide +kernel
theorem dX1_copyFrom_136 : decode cX1_copyFrom 136 = .ok (.aaload, 1) := by decide +kernel
theorem dX1_copyFrom_137 : decode cX1_copyFrom 137 = .ok (.invokevirtual 65, 3) := by decide +kernel
theorem dX1_copyFrom_140 : decode cX1_copyFrom 140 = .ok (.iinc 2 1, 3) := by decide +kernel
theorem dX1_copyFrom_143 : decode cX1_copyFrom 143 = .ok (.goto (-26), 3) := by decide +kernel
theorem dX1_copyFrom_146 : decode cX1_copyFrom 146 = .ok (.iconst 0, 1) := by decide +kernel
theorem dX1_copyFrom_147 : decode cX1_copyFrom 147 = .ok (.istore_n 2, 1) := by decide +kernel
theorem dX1_copyFrom_148 : decode cX1_copyFrom 148 = .ok (.iload_n 2, 1) := by decide +kernel
theorem dX1_copyFrom_149 : decode cX1_copyFrom 149 = .ok (.aload_n 0, 1) := by decide +kernel
theorem dX1_copyFrom_150 : decode cX1_copyFrom 150 = .ok (.getfield 58, 3) := by decide +kernel
theorem dX1_copyFrom_153 : decode cX1_copyFrom 153 = .ok (.if_icmp .ge 24, 3) := by decide +kernel
theorem dX1_copyFrom_156 : decode cX1_copyFrom 156 = .ok (.aload_n 0, 1) := by decide +kernel
theorem dX1_copyFrom_157 : decode cX1_copyFrom 157 = .ok (.getfield 38, 3) := by decide +kernel
theorem dX1_copyFrom_160 : decode cX1_copyFrom 160 = .ok (.iload_n 2, 1) := by decide +kernel
theorem dX1_copyFrom_161 : decode cX1_copyFrom 161 = .ok (.aaload, 1) := by decide +kernel
theorem dX1_copyFrom_162 : decode cX1_copyFrom 162 = .ok (.aload_n 1, 1) := by decide +kernel
theorem dX1_copyFrom_163 : decode cX1_copyFrom 163 = .ok (.getfield 38, 3) := by decide +kernel
theorem dX1_copyFrom_166 : decode cX1_copyFrom 166 = .ok (.iload_n 2, 1) := by decide +kernel
theorem dX1_copyFrom_167 : decode cX1_copyFrom 167 = .ok (.aaload, 1) := by decide +kernel
theorem dX1_copyFrom_168 : decode cX1_copyFrom 168 = .ok (.invokevirtual 68, 3) := by decide +kernel
theorem dX1_copyFrom_171 : decode cX1_copyFrom 171 = .ok (.iinc 2 1, 3) := by decide +kernel
theorem dX1_copyFrom_174 : decode cX1_copyFrom 174 = .ok (.goto (-26), 3) := by decide +kernel
theorem dX1_copyFrom_177 : decode cX1_copyFrom 177 = .ok (.aload_n 0, 1) := by decide +kernel
theorem dX1_copyFrom_178 : decode cX1_copyFrom 178 = .ok (.aload_n 1, 1) := by decide +kernel
theorem dX1_copyFrom_179 : decode cX1_copyFrom 179 = .ok (.getfield 71, 3) := by decide +kernel
theorem dX1_copyFrom_182 : decode cX1_copyFrom 182 = .ok (.putfield 71, 3) := by decide +kernel
theorem dX1_copyFrom_185 : decode cX1_copyFrom 185 = .ok (.aload_n 0, 1) := by decide +kernel
theorem dX1_copyFrom_186 : decode cX1_copyFrom 186 = .ok (.aload_n 1, 1) := by decide +kernel
theorem dX1_copyFrom_187 : decode cX1_copyFrom 187 = .ok (.getfield 74, 3) := by decide +kernel
theorem dX1_copyFrom_190 : decode cX1_copyFrom 190 = .ok (.putfield 74, 3) := by decide +kernel
theorem dX1_copyFrom_193 : decode cX1_copyFrom 193 = .ok (.aload_n 0, 1) := by decide +kernel
theorem dX1_copyFrom_194 : decode cX1_copyFrom 194 = .ok (.aload_n 1, 1) := by decide +kernel
theorem dX1_copyFrom_195 : decode cX1_copyFrom 195 = .ok (.getfield 77, 3) := by decide +kernel
theorem dX1_copyFrom_198 : decode cX1_copyFrom 198 = .ok (.putfield 77, 3) := by decide +kernel
theorem dX1_copyFrom_201 : decode cX1_copyFrom 201 = .ok (.return_, 1) := by decide +kernel
theorem dX1_moonNow_0 : decode cX1_moonNow 0 = .ok (.aload_n 0, 1) := by decide +kernel
theorem dX1_moonNow_1 : decode cX1_moonNow 1 = .ok (.getfield 71, 3) := by decide +kernel
theorem dX1_moonNow_4 : decode cX1_moonNow 4 = .ok (.bipush 10, 2) := by decide +kernel
theorem dX1_moonNow_6 : decode cX1_moonNow 6 = .ok (.idiv, 1) := by decide +kernel
theorem dX1_moonNow_7 : decode cX1_moonNow 7 = .ok (.invokestatic 80, 3) := by decide +kernel
theorem dX1_moonNow_10 : decode cX1_moonNow 10 = .ok (.ireturn, 1) := by decide +kernel
theorem dX1_hourOfNight_0 : decode cX1_hourOfNight 0 = .ok (.aload_n 0, 1) := by decide +kernel
theorem dX1_hourOfNight_1 : decode cX1_hourOfNight 1 = .ok (.getfield 71, 3) := by decide +kernel
theorem dX1_hourOfNight_4 : decode cX1_hourOfNight 4 = .ok (.bipush 10, 2) := by decide +kernel
theorem dX1_hourOfNight_6 : decode cX1_hourOfNight 6 = .ok (.invokestatic 84, 3) := by decide +kernel
theorem dX1_hourOfNight_9 : decode cX1_hourOfNight 9 = .ok (.ireturn, 1) := by decide +kernel
theorem dX1_isKnown_0 : decode cX1_isKnown 0 = .ok (.aload_n 0, 1) := by decide +kernel
theorem dX1_isKnown_1 : decode cX1_isKnown 1 = .ok (.getfield 21, 3) := by decide +kernel
theorem dX1_isKnown_4 : decode cX1_isKnown 4 = .ok (.iload_n 1, 1) := by decide +kernel
theorem dX1_isKnown_5 : decode cX1_isKnown 5 = .ok (.iaload, 1) := by decide +kernel
theorem dX1_isKnown_6 : decode cX1_isKnown 6 = .ok (.iconst 3, 1) := by decide +kernel
theorem dX1_isKnown_7 : decode cX1_isKnown 7 = .ok (.if_icmp .lt 7, 3) := by decide +kernel
theorem dX1_isKnown_10 : decode cX1_isKnown 10 = .ok (.iconst 1, 1) := by decide +kernel
theorem dX1_isKnown_11 : decode cX1_isKnown 11 = .ok (.goto 4, 3) := by decide +kernel
theorem dX1_isKnown_14 : decode cX1_isKnown 14 = .ok (.iconst 0, 1) := by decide +kernel
theorem dX1_isKnown_15 : decode cX1_isKnown 15 = .ok (.ireturn, 1) := by decide +kernel
theorem dX1_hasLanternAt_0 : decode cX1_hasLanternAt 0 = .ok (.iconst 0, 1) := by decide +kernel
theorem dX1_hasLanternAt_1 : decode cX1_hasLanternAt 1 = .ok (.istore_n 2, 1) := by decide +kernel
theorem dX1_hasLanternAt_2 : decode cX1_hasLanternAt 2 = .ok (.iload_n 2, 1) := by decide +kernel
theorem dX1_hasLanternAt_3 : decode cX1_hasLanternAt 3 = .ok (.aload_n 0, 1) := by decide +kernel
theorem dX1_hasLanternAt_4 : decode cX1_hasLanternAt 4 = .ok (.getfield 51, 3) := by decide +kernel
theorem dX1_hasLanternAt_7 : decode cX1_hasLanternAt 7 = .ok (.if_icmp .ge 24, 3) := by decide +kernel
theorem dX1_hasLanternAt_10 : decode cX1_hasLanternAt 10 = .ok (.aload_n 0, 1) := by decide +kernel
theorem dX1_hasLanternAt_11 : decode cX1_hasLanternAt 11 = .ok (.getfield 26, 3) := by decide +kernel
theorem dX1_hasLanternAt_14 : decode cX1_hasLanternAt 14 = .ok (.iload_n 2, 1) := by decide +kernel
theorem dX1_hasLanternAt_15 : decode cX1_hasLanternAt 15 = .ok (.aaload, 1) := by decide +kernel
theorem dX1_hasLanternAt_16 : decode cX1_hasLanternAt 16 = .ok (.getfield 90, 3) := by decide +kernel
theorem dX1_hasLanternAt_19 : decode cX1_hasLanternAt 19 = .ok (.iload_n 1, 1) := by decide +kernel
theorem dX1_hasLanternAt_20 : decode cX1_hasLanternAt 20 = .ok (.if_icmp .ne 5, 3) := by decide +kernel
theorem dX1_hasLanternAt_23 : decode cX1_hasLanternAt 23 = .ok (.iconst 1, 1) := by decide +kernel
theorem dX1_hasLanternAt_24 : decode cX1_hasLanternAt 24 = .ok (.ireturn, 1) := by decide +kernel
theorem dX1_hasLanternAt_25 : decode cX1_hasLanternAt 25 = .ok (.iinc 2 1, 3) := by decide +kernel
theorem dX1_hasLanternAt_28 : decode cX1_hasLanternAt 28 = .ok (.goto (-26), 3) := by decide +kernel
theorem dX1_hasLanternAt_31 : decode cX1_hasLanternAt 31 = .ok (.iconst 0, 1) := by decide +kernel
theorem dX1_hasLanternAt_32 : decode cX1_hasLanternAt 32 = .ok (.ireturn, 1) := by decide +kernel
theorem dX1_letGoBy_0 : decode cX1_letGoBy 0 = .ok (.iconst 0, 1) := by decide +kernel
theorem dX1_letGoBy_1 : decode cX1_letGoBy 1 = .ok (.istore_n 2, 1) := by decide +kernel
theorem dX1_letGoBy_2 : decode cX1_letGoBy 2 = .ok (.iload_n 2, 1) := by decide +kernel
theorem dX1_letGoBy_3 : decode cX1_letGoBy 3 = .ok (.iload_n 1, 1) := by decide +kernel
theorem dX1_letGoBy_4 : decode cX1_letGoBy 4 = .ok (.if_icmp .ge 13, 3) := by decide +kernel
theorem dX1_letGoBy_7 : decode cX1_letGoBy 7 = .ok (.aload_n 0, 1) := by decide +kernel
theorem dX1_letGoBy_8 : decode cX1_letGoBy 8 = .ok (.invokevirtual 93, 3) := by decide +kernel
theorem dX1_letGoBy_11 : decode cX1_letGoBy 11 = .ok (.iinc 2 1, 3) := by decide +kernel
theorem dX1_letGoBy_14 : decode cX1_letGoBy 14 = .ok (.goto (-12), 3) := by decide +kernel
theorem dX1_letGoBy_17 : decode cX1_letGoBy 17 = .ok (.return_, 1) := by decide +kernel
theorem dX1_passHour_0 : decode cX1_passHour 0 = .ok (.aload_n 0, 1) := by decide +kernel
theorem dX1_passHour_1 : decode cX1_passHour 1 = .ok (.invokevirtual 96, 3) := by decide +kernel
theorem dX1_passHour_4 : decode cX1_passHour 4 = .ok (.istore_n 1, 1) := by decide +kernel
theorem dX1_passHour_5 : decode cX1_passHour 5 = .ok (.aload_n 0, 1) := by decide +kernel
theorem dX1_passHour_6 : decode cX1_passHour 6 = .ok (.invokevirtual 100, 3) := by decide +kernel
theorem dX1_passHour_9 : decode cX1_passHour 9 = .ok (.istore_n 2, 1) := by decide +kernel
theorem dX1_passHour_10 : decode cX1_passHour 10 = .ok (.aload_n 0, 1) := by decide +kernel
theorem dX1_passHour_11 : decode cX1_passHour 11 = .ok (.iload_n 2, 1) := by decide +kernel
theorem dX1_passHour_12 : decode cX1_passHour 12 = .ok (.iload_n 1, 1) := by decide +kernel
theorem dX1_passHour_13 : decode cX1_passHour 13 = .ok (.invokevirtual 103, 3) := by decide +kernel
theorem dX1_passHour_16 : decode cX1_passHour 16 = .ok (.aload_n 0, 1) := by decide +kernel
theorem dX1_passHour_17 : decode cX1_passHour 17 = .ok (.iload_n 2, 1) := by decide +kernel
theorem dX1_passHour_18 : decode cX1_passHour 18 = .ok (.iload_n 1, 1) := by decide +kernel
theorem dX1_passHour_19 : decode cX1_passHour 19 = .ok (.invokevirtual 107, 3) := by decide +kernel
theorem dX1_passHour_22 : decode cX1_passHour 22 = .ok (.aload_n 0, 1) := by decide +kernel
theorem dX1_passHour_23 : decode cX1_passHour 23 = .ok (.iload_n 1, 1) := by decide +kernel
theorem dX1_passHour_24 : decode cX1_passHour 24 = .ok (.invokevirtual 110, 3) := by decide +kernel
theorem dX1_passHour_27 : decode cX1_passHour 27 = .ok (.aload_n 0, 1) := by decide +kernel
theorem dX1_passHour_28 : decode cX1_passHour 28 = .ok (.dup, 1) := by decide +kernel
theorem dX1_passHour_29 : decode cX1_passHour 29 = .ok (.getfield 71, 3) := by decide +kernel
theorem dX1_passHour_32 : decode cX1_passHour 32 = .ok (.iconst 1, 1) := by decide +kernel
theorem dX1_passHour_33 : decode cX1_passHour 33 = .ok (.iadd, 1) := by decide +kernel
theorem dX1_passHour_34 : decode cX1_passHour 34 = .ok (.putfield 71, 3) := by decide +kernel
theorem dX1_passHour_37 : decode cX1_passHour 37 = .ok (.return_, 1) := by decide +kernel
theorem dX1_noteLanterns_0 : decode cX1_noteLanterns 0 = .ok (.iconst 0, 1) := by decide +kernel
theorem dX1_noteLanterns_1 : decode cX1_noteLanterns 1 = .ok (.istore_n 3, 1) := by decide +kernel
theorem dX1_noteLanterns_2 : decode cX1_noteLanterns 2 = .ok (.iload_n 3, 1) := by decide +kernel
theorem dX1_noteLanterns_3 : decode cX1_noteLanterns 3 = .ok (.aload_n 0, 1) := by decide +kernel
theorem dX1_noteLanterns_4 : decode cX1_noteLanterns 4 = .ok (.getfield 51, 3) := by decide +kernel
theorem dX1_noteLanterns_7 : decode cX1_noteLanterns 7 = .ok (.if_icmp .ge 66, 3) := by decide +kernel
theorem dX1_noteLanterns_10 : decode cX1_noteLanterns 10 = .ok (.aload_n 0, 1) := by decide +kernel
theorem dX1_noteLanterns_11 : decode cX1_noteLanterns 11 = .ok (.getfield 26, 3) := by decide +kernel
theorem dX1_noteLanterns_14 : decode cX1_noteLanterns 14 = .ok (.iload_n 3, 1) := by decide +kernel
theorem dX1_noteLanterns_15 : decode cX1_noteLanterns 15 = .ok (.aaload, 1) := by decide +kernel
theorem dX1_noteLanterns_16 : decode cX1_noteLanterns 16 = .ok (.astore 4, 2) := by decide +kernel
theorem dX1_noteLanterns_18 : decode cX1_noteLanterns 18 = .ok (.aload 4, 2) := by decide +kernel
theorem dX1_noteLanterns_20 : decode cX1_noteLanterns 20 = .ok (.getfield 114, 3) := by decide +kernel
theorem dX1_noteLanterns_23 : decode cX1_noteLanterns 23 = .ok (.iload_n 1, 1) := by decide +kernel
theorem dX1_noteLanterns_24 : decode cX1_noteLanterns 24 = .ok (.iaload, 1) := by decide +kernel
theorem dX1_noteLanterns_25 : decode cX1_noteLanterns 25 = .ok (.istore 5, 2) := by decide +kernel
theorem dX1_noteLanterns_27 : decode cX1_noteLanterns 27 = .ok (.iload 5, 2) := by decide +kernel
theorem dX1_noteLanterns_29 : decode cX1_noteLanterns 29 = .ok (.ifCond .eq 38, 3) := by decide +kernel
theorem dX1_noteLanterns_32 : decode cX1_noteLanterns 32 = .ok (.aload_n 0, 1) := by decide +kernel
theorem dX1_noteLanterns_33 : decode cX1_noteLanterns 33 = .ok (.aload 4, 2) := by decide +kernel
theorem dX1_noteLanterns_35 : decode cX1_noteLanterns 35 = .ok (.getfield 90, 3) := by decide +kernel
theorem dX1_noteLanterns_38 : decode cX1_noteLanterns 38 = .ok (.iload_n 2, 1) := by decide +kernel
theorem dX1_noteLanterns_39 : decode cX1_noteLanterns 39 = .ok (.invokevirtual 117, 3) := by decide +kernel
theorem dX1_noteLanterns_42 : decode cX1_noteLanterns 42 = .ok (.ifCond .le 25, 3) := by decide +kernel
theorem dX1_noteLanterns_45 : decode cX1_noteLanterns 45 = .ok (.aload_n 0, 1) := by decide +kernel
theorem dX1_noteLanterns_46 : decode cX1_noteLanterns 46 = .ok (.getfield 21, 3) := by decide +kernel
theorem dX1_noteLanterns_49 : decode cX1_noteLanterns 49 = .ok (.iload 5, 2) := by decide +kernel
theorem dX1_noteLanterns_51 : decode cX1_noteLanterns 51 = .ok (.dup2, 1) := by decide +kernel
theorem dX1_noteLanterns_52 : decode cX1_noteLanterns 52 = .ok (.iaload, 1) := by decide +kernel
theorem dX1_noteLanterns_53 : decode cX1_noteLanterns 53 = .ok (.iconst 1, 1) := by decide +kernel
theorem dX1_noteLanterns_54 : decode cX1_noteLanterns 54 = .ok (.iadd, 1) := by decide +kernel
theorem dX1_noteLanterns_55 : decode cX1_noteLanterns 55 = .ok (.iastore, 1) := by decide +kernel
theorem dX1_noteLanterns_56 : decode cX1_noteLanterns 56 = .ok (.aload 4, 2) := by decide +kernel
theorem dX1_noteLanterns_58 : decode cX1_noteLanterns 58 = .ok (.dup, 1) := by decide +kernel
theorem dX1_noteLanterns_59 : decode cX1_noteLanterns 59 = .ok (.getfield 120, 3) := by decide +kernel
theorem dX1_noteLanterns_62 : decode cX1_noteLanterns 62 = .ok (.iconst 1, 1) := by decide +kernel
theorem dX1_noteLanterns_63 : decode cX1_noteLanterns 63 = .ok (.iadd, 1) := by decide +kernel
theorem dX1_noteLanterns_64 : decode cX1_noteLanterns 64 = .ok (.putfield 120, 3) := by decide +kernel
theorem dX1_noteLanterns_67 : decode cX1_noteLanterns 67 = .ok (.iinc 3 1, 3) := by decide +kernel
theorem dX1_noteLanterns_70 : decode cX1_noteLanterns 70 = .ok (.goto (-68), 3) := by decide +kernel
theorem dX1_noteLanterns_73 : decode cX1_noteLanterns 73 = .ok (.return_, 1) := by decide +kernel
theorem dX1_moveBoats_0 : decode cX1_moveBoats 0 = .ok (.iconst 0, 1) := by decide +kernel
theorem dX1_moveBoats_1 : decode cX1_moveBoats 1 = .ok (.istore_n 3, 1) := by decide +kernel
theorem dX1_moveBoats_2 : decode cX1_moveBoats 2 = .ok (.iload_n 3, 1) := by decide +kernel
theorem dX1_moveBoats_3 : decode cX1_moveBoats 3 = .ok (.aload_n 0, 1) := by decide +kernel
theorem dX1_moveBoats_4 : decode cX1_moveBoats 4 = .ok (.getfield 58, 3) := by decide +kernel
theorem dX1_moveBoats_7 : decode cX1_moveBoats 7 = .ok (.if_icmp .ge 63, 3) := by decide +kernel
theorem dX1_moveBoats_10 : decode cX1_moveBoats 10 = .ok (.aload_n 0, 1) := by decide +kernel
theorem dX1_moveBoats_11 : decode cX1_moveBoats 11 = .ok (.getfield 38, 3) := by decide +kernel
theorem dX1_moveBoats_14 : decode cX1_moveBoats 14 = .ok (.iload_n 3, 1) := by decide +kernel
theorem dX1_moveBoats_15 : decode cX1_moveBoats 15 = .ok (.aaload, 1) := by decide +kernel
theorem dX1_moveBoats_16 : decode cX1_moveBoats 16 = .ok (.astore 4, 2) := by decide +kernel
theorem dX1_moveBoats_18 : decode cX1_moveBoats 18 = .ok (.aload 4, 2) := by decide +kernel
theorem dX1_moveBoats_20 : decode cX1_moveBoats 20 = .ok (.invokevirtual 123, 3) := by decide +kernel
theorem dX1_moveBoats_23 : decode cX1_moveBoats 23 = .ok (.ifCond .eq 12, 3) := by decide +kernel
theorem dX1_moveBoats_26 : decode cX1_moveBoats 26 = .ok (.aload_n 0, 1) := by decide +kernel
theorem dX1_moveBoats_27 : decode cX1_moveBoats 27 = .ok (.aload 4, 2) := by decide +kernel
theorem dX1_moveBoats_29 : decode cX1_moveBoats 29 = .ok (.invokevirtual 127, 3) := by decide +kernel
theorem dX1_moveBoats_32 : decode cX1_moveBoats 32 = .ok (.goto 32, 3) := by decide +kernel
theorem dX1_moveBoats_35 : decode cX1_moveBoats 35 = .ok (.aload 4, 2) := by decide +kernel
theorem dX1_moveBoats_37 : decode cX1_moveBoats 37 = .ok (.getfield 130, 3) := by decide +kernel
theorem dX1_moveBoats_40 : decode cX1_moveBoats 40 = .ok (.ifCond .ne 24, 3) := by decide +kernel
theorem dX1_moveBoats_43 : decode cX1_moveBoats 43 = .ok (.aload 4, 2) := by decide +kernel
theorem dX1_moveBoats_45 : decode cX1_moveBoats 45 = .ok (.getfield 133, 3) := by decide +kernel
theorem dX1_moveBoats_48 : decode cX1_moveBoats 48 = .ok (.ifCond .eq 11, 3) := by decide +kernel
theorem dX1_moveBoats_51 : decode cX1_moveBoats 51 = .ok (.aload_n 0, 1) := by decide +kernel
theorem dX1_moveBoats_52 : decode cX1_moveBoats 52 = .ok (.aload 4, 2) := by decide +kernel
theorem dX1_moveBoats_54 : decode cX1_moveBoats 54 = .ok (.iload_n 1, 1) := by decide +kernel
theorem dX1_moveBoats_55 : decode cX1_moveBoats 55 = .ok (.iload_n 2, 1) := by decide +kernel
theorem dX1_moveBoats_56 : decode cX1_moveBoats 56 = .ok (.invokevirtual 137, 3) := by decide +kernel
theorem dX1_moveBoats_59 : decode cX1_moveBoats 59 = .ok (.aload 4, 2) := by decide +kernel
theorem dX1_moveBoats_61 : decode cX1_moveBoats 61 = .ok (.invokevirtual 141, 3) := by decide +kernel
theorem dX1_moveBoats_64 : decode cX1_moveBoats 64 = .ok (.iinc 3 1, 3) := by decide +kernel
theorem dX1_moveBoats_67 : decode cX1_moveBoats 67 = .ok (.goto (-65), 3) := by decide +kernel
theorem dX1_moveBoats_70 : decode cX1_moveBoats 70 = .ok (.return_, 1) := by decide +kernel
theorem dX1_unload_0 : decode cX1_unload 0 = .ok (.aload_n 0, 1) := by decide +kernel
theorem dX1_unload_1 : decode cX1_unload 1 = .ok (.getfield 9, 3) := by decide +kernel
theorem dX1_unload_4 : decode cX1_unload 4 = .ok (.aload_n 1, 1) := by decide +kernel
theorem dX1_unload_5 : decode cX1_unload 5 = .ok (.getfield 144, 3) := by decide +kernel
theorem dX1_unload_8 : decode cX1_unload 8 = .ok (.iaload, 1) := by decide +kernel
theorem dX1_unload_9 : decode cX1_unload 9 = .ok (.aload_n 0, 1) := by decide +kernel
theorem dX1_unload_10 : decode cX1_unload 10 = .ok (.getfield 15, 3) := by decide +kernel
theorem dX1_unload_13 : decode cX1_unload 13 = .ok (.aload_n 1, 1) := by decide +kernel
theorem dX1_unload_14 : decode cX1_unload 14 = .ok (.getfield 144, 3) := by decide +kernel
theorem dX1_unload_17 : decode cX1_unload 17 = .ok (.iaload, 1) := by decide +kernel
theorem dX1_unload_18 : decode cX1_unload 18 = .ok (.isub, 1) := by decide +kernel
theorem dX1_unload_19 : decode cX1_unload 19 = .ok (.istore_n 2, 1) := by decide +kernel
theorem dX1_unload_20 : decode cX1_unload 20 = .ok (.iload_n 2, 1) := by decide +kernel
theorem dX1_unload_21 : decode cX1_unload 21 = .ok (.iconst 4, 1) := by decide +kernel
theorem dX1_unload_22 : decode cX1_unload 22 = .ok (.if_icmp .ge 7, 3) := by decide +kernel
theorem dX1_unload_25 : decode cX1_unload 25 = .ok (.iload_n 2, 1) := by decide +kernel
theorem dX1_unload_26 : decode cX1_unload 26 = .ok (.goto 4, 3) := by decide +kernel
theorem dX1_unload_29 : decode cX1_unload 29 = .ok (.iconst 4, 1) := by decide +kernel
theorem dX1_unload_30 : decode cX1_unload 30 = .ok (.istore_n 3, 1) := by decide +kernel
theorem dX1_unload_31 : decode cX1_unload 31 = .ok (.aload_n 1, 1) := by decide +kernel
theorem dX1_unload_32 : decode cX1_unload 32 = .ok (.getfield 145, 3) := by decide +kernel
theorem dX1_unload_35 : decode cX1_unload 35 = .ok (.iload_n 3, 1) := by decide +kernel
theorem dX1_unload_36 : decode cX1_unload 36 = .ok (.if_icmp .ge 10, 3) := by decide +kernel
theorem dX1_unload_39 : decode cX1_unload 39 = .ok (.aload_n 1, 1) := by decide +kernel
theorem dX1_unload_40 : decode cX1_unload 40 = .ok (.getfield 145, 3) := by decide +kernel
theorem dX1_unload_43 : decode cX1_unload 43 = .ok (.goto 4, 3) := by decide +kernel
theorem dX1_unload_46 : decode cX1_unload 46 = .ok (.iload_n 3, 1) := by decide +kernel
theorem dX1_unload_47 : decode cX1_unload 47 = .ok (.istore 4, 2) := by decide +kernel
theorem dX1_unload_49 : decode cX1_unload 49 = .ok (.aload_n 0, 1) := by decide +kernel
theorem dX1_unload_50 : decode cX1_unload 50 = .ok (.getfield 15, 3) := by decide +kernel
theorem dX1_unload_53 : decode cX1_unload 53 = .ok (.aload_n 1, 1) := by decide +kernel
theorem dX1_unload_54 : decode cX1_unload 54 = .ok (.getfield 144, 3) := by decide +kernel
theorem dX1_unload_57 : decode cX1_unload 57 = .ok (.dup2, 1) := by decide +kernel
theorem dX1_unload_58 : decode cX1_unload 58 = .ok (.iaload, 1) := by decide +kernel
theorem dX1_unload_59 : decode cX1_unload 59 = .ok (.iload 4, 2) := by decide +kernel
theorem dX1_unload_61 : decode cX1_unload 61 = .ok (.iadd, 1) := by decide +kernel
theorem dX1_unload_62 : decode cX1_unload 62 = .ok (.iastore, 1) := by decide +kernel
theorem dX1_unload_63 : decode cX1_unload 63 = .ok (.aload_n 1, 1) := by decide +kernel
theorem dX1_unload_64 : decode cX1_unload 64 = .ok (.dup, 1) := by decide +kernel
theorem dX1_unload_65 : decode cX1_unload 65 = .ok (.getfield 145, 3) := by decide +kernel
theorem dX1_unload_68 : decode cX1_unload 68 = .ok (.iload 4, 2) := by decide +kernel
theorem dX1_unload_70 : decode cX1_unload 70 = .ok (.isub, 1) := by decide +kernel
theorem dX1_unload_71 : decode cX1_unload 71 = .ok (.putfield 145, 3) := by decide +kernel
theorem dX1_unload_74 : decode cX1_unload 74 = .ok (.aload_n 1, 1) := by decide +kernel
theorem dX1_unload_75 : decode cX1_unload 75 = .ok (.dup, 1) := by decide +kernel
theorem dX1_unload_76 : decode cX1_unload 76 = .ok (.getfield 148, 3) := by decide +kernel
theorem dX1_unload_79 : decode cX1_unload 79 = .ok (.iload 4, 2) := by decide +kernel
theorem dX1_unload_81 : decode cX1_unload 81 = .ok (.iadd, 1) := by decide +kernel
theorem dX1_unload_82 : decode cX1_unload 82 = .ok (.putfield 148, 3) := by decide +kernel
theorem dX1_unload_85 : decode cX1_unload 85 = .ok (.aload_n 1, 1) := by decide +kernel
theorem dX1_unload_86 : decode cX1_unload 86 = .ok (.getfield 145, 3) := by decide +kernel
theorem dX1_unload_89 : decode cX1_unload 89 = .ok (.ifCond .ne 8, 3) := by decide +kernel
theorem dX1_unload_92 : decode cX1_unload 92 = .ok (.aload_n 1, 1) := by decide +kernel
theorem dX1_unload_93 : decode cX1_unload 93 = .ok (.iconst 1, 1) := by decide +kernel
theorem dX1_unload_94 : decode cX1_unload 94 = .ok (.putfield 130, 3) := by decide +kernel
theorem dX1_unload_97 : decode cX1_unload 97 = .ok (.return_, 1) := by decide +kernel
theorem dX1_followLantern_0 : decode cX1_followLantern 0 = .ok (.bipush 9, 2) := by decide +kernel
theorem dX1_followLantern_2 : decode cX1_followLantern 2 = .ok (.iload_n 3, 1) := by decide +kernel
theorem dX1_followLantern_3 : decode cX1_followLantern 3 = .ok (.isub, 1) := by decide +kernel
theorem dX1_followLantern_4 : decode cX1_followLantern 4 = .ok (.iconst 1, 1) := by decide +kernel
theorem dX1_followLantern_5 : decode cX1_followLantern 5 = .ok (.iadd, 1) := by decide +kernel
theorem dX1_followLantern_6 : decode cX1_followLantern 6 = .ok (.istore 4, 2) := by decide +kernel
theorem dX1_followLantern_8 : decode cX1_followLantern 8 = .ok (.iconst 0, 1) := by decide +kernel
theorem dX1_followLantern_9 : decode cX1_followLantern 9 = .ok (.istore 5, 2) := by decide +kernel
theorem dX1_followLantern_11 : decode cX1_followLantern 11 = .ok (.iconst 0, 1) := by decide +kernel
theorem dX1_followLantern_12 : decode cX1_followLantern 12 = .ok (.istore 6, 2) := by decide +kernel
theorem dX1_followLantern_14 : decode cX1_followLantern 14 = .ok (.iload 6, 2) := by decide +kernel
theorem dX1_followLantern_16 : decode cX1_followLantern 16 = .ok (.aload_n 0, 1) := by decide +kernel
theorem dX1_followLantern_17 : decode cX1_followLantern 17 = .ok (.getfield 51, 3) := by decide +kernel
theorem dX1_followLantern_20 : decode cX1_followLantern 20 = .ok (.if_icmp .ge 73, 3) := by decide +kernel
theorem dX1_followLantern_23 : decode cX1_followLantern 23 = .ok (.aload_n 0, 1) := by decide +kernel
theorem dX1_followLantern_24 : decode cX1_followLantern 24 = .ok (.getfield 26, 3) := by decide +kernel
theorem dX1_followLantern_27 : decode cX1_followLantern 27 = .ok (.iload 6, 2) := by decide +kernel
theorem dX1_followLantern_29 : decode cX1_followLantern 29 = .ok (.aaload, 1) := by decide +kernel
theorem dX1_followLantern_30 : decode cX1_followLantern 30 = .ok (.getfield 114, 3) := by decide +kernel
theorem dX1_followLantern_33 : decode cX1_followLantern 33 = .ok (.iload_n 2, 1) := by decide +kernel
theorem dX1_followLantern_34 : decode cX1_followLantern 34 = .ok (.iaload, 1) := by decide +kernel
theorem dX1_followLantern_35 : decode cX1_followLantern 35 = .ok (.istore 7, 2) := by decide +kernel
theorem dX1_followLantern_37 : decode cX1_followLantern 37 = .ok (.aload_n 0, 1) := by decide +kernel
theorem dX1_followLantern_38 : decode cX1_followLantern 38 = .ok (.getfield 26, 3) := by decide +kernel
theorem dX1_followLantern_41 : decode cX1_followLantern 41 = .ok (.iload 6, 2) := by decide +kernel
theorem dX1_followLantern_43 : decode cX1_followLantern 43 = .ok (.aaload, 1) := by decide +kernel
theorem dX1_followLantern_44 : decode cX1_followLantern 44 = .ok (.getfield 90, 3) := by decide +kernel
theorem dX1_followLantern_47 : decode cX1_followLantern 47 = .ok (.aload_n 1, 1) := by decide +kernel
theorem dX1_followLantern_48 : decode cX1_followLantern 48 = .ok (.getfield 144, 3) := by decide +kernel
theorem dX1_followLantern_51 : decode cX1_followLantern 51 = .ok (.invokestatic 151, 3) := by decide +kernel
theorem dX1_followLantern_54 : decode cX1_followLantern 54 = .ok (.istore 8, 2) := by decide +kernel
theorem dX1_followLantern_56 : decode cX1_followLantern 56 = .ok (.iload 7, 2) := by decide +kernel
theorem dX1_followLantern_58 : decode cX1_followLantern 58 = .ok (.ifCond .eq 29, 3) := by decide +kernel
theorem dX1_followLantern_61 : decode cX1_followLantern 61 = .ok (.aload_n 0, 1) := by decide +kernel
theorem dX1_followLantern_62 : decode cX1_followLantern 62 = .ok (.getfield 18, 3) := by decide +kernel
theorem dX1_followLantern_65 : decode cX1_followLantern 65 = .ok (.iload 7, 2) := by decide +kernel
theorem dX1_followLantern_67 : decode cX1_followLantern 67 = .ok (.iaload, 1) := by decide +kernel
theorem dX1_followLantern_68 : decode cX1_followLantern 68 = .ok (.iconst (-1), 1) := by decide +kernel
theorem dX1_followLantern_69 : decode cX1_followLantern 69 = .ok (.if_icmp .eq 18, 3) := by decide +kernel
theorem dX1_followLantern_72 : decode cX1_followLantern 72 = .ok (.iload 8, 2) := by decide +kernel
theorem dX1_followLantern_74 : decode cX1_followLantern 74 = .ok (.iload 4, 2) := by decide +kernel
theorem dX1_followLantern_76 : decode cX1_followLantern 76 = .ok (.if_icmp .ge 11, 3) := by decide +kernel
theorem dX1_followLantern_79 : decode cX1_followLantern 79 = .ok (.iload 8, 2) := by decide +kernel
theorem dX1_followLantern_81 : decode cX1_followLantern 81 = .ok (.istore 4, 2) := by decide +kernel
theorem dX1_followLantern_83 : decode cX1_followLantern 83 = .ok (.iload 7, 2) := by decide +kernel
theorem dX1_followLantern_85 : decode cX1_followLantern 85 = .ok (.istore 5, 2) := by decide +kernel
theorem dX1_followLantern_87 : decode cX1_followLantern 87 = .ok (.iinc 6 1, 3) := by decide +kernel
theorem dX1_followLantern_90 : decode cX1_followLantern 90 = .ok (.goto (-76), 3) := by decide +kernel
theorem dX1_followLantern_93 : decode cX1_followLantern 93 = .ok (.iload 5, 2) := by decide +kernel
theorem dX1_followLantern_95 : decode cX1_followLantern 95 = .ok (.ifCond .eq 20, 3) := by decide +kernel
theorem dX1_followLantern_98 : decode cX1_followLantern 98 = .ok (.aload_n 1, 1) := by decide +kernel
theorem dX1_followLantern_99 : decode cX1_followLantern 99 = .ok (.aload_n 0, 1) := by decide +kernel
theorem dX1_followLantern_100 : decode cX1_followLantern 100 = .ok (.getfield 18, 3) := by decide +kernel
theorem dX1_followLantern_103 : decode cX1_followLantern 103 = .ok (.iload 5, 2) := by decide +kernel
theorem dX1_followLantern_105 : decode cX1_followLantern 105 = .ok (.iaload, 1) := by decide +kernel
theorem dX1_followLantern_106 : decode cX1_followLantern 106 = .ok (.putfield 154, 3) := by decide +kernel
theorem dX1_followLantern_109 : decode cX1_followLantern 109 = .ok (.aload_n 1, 1) := by decide +kernel
theorem dX1_followLantern_110 : decode cX1_followLantern 110 = .ok (.iload 5, 2) := by decide +kernel
theorem dX1_followLantern_112 : decode cX1_followLantern 112 = .ok (.putfield 157, 3) := by decide +kernel
theorem dX1_followLantern_115 : decode cX1_followLantern 115 = .ok (.return_, 1) := by decide +kernel
theorem dX1_moveWatchmen_0 : decode cX1_moveWatchmen 0 = .ok (.iconst 0, 1) := by decide +kernel
theorem dX1_moveWatchmen_1 : decode cX1_moveWatchmen 1 = .ok (.istore_n 2, 1) := by decide +kernel
theorem dX1_moveWatchmen_2 : decode cX1_moveWatchmen 2 = .ok (.iload_n 2, 1) := by decide +kernel
theorem dX1_moveWatchmen_3 : decode cX1_moveWatchmen 3 = .ok (.aload_n 0, 1) := by decide +kernel
theorem dX1_moveWatchmen_4 : decode cX1_moveWatchmen 4 = .ok (.getfield 55, 3) := by decide +kernel
theorem dX1_moveWatchmen_7 : decode cX1_moveWatchmen 7 = .ok (.if_icmp .ge 29, 3) := by decide +kernel
theorem dX1_moveWatchmen_10 : decode cX1_moveWatchmen 10 = .ok (.aload_n 0, 1) := by decide +kernel
theorem dX1_moveWatchmen_11 : decode cX1_moveWatchmen 11 = .ok (.getfield 32, 3) := by decide +kernel
theorem dX1_moveWatchmen_14 : decode cX1_moveWatchmen 14 = .ok (.iload_n 2, 1) := by decide +kernel
theorem dX1_moveWatchmen_15 : decode cX1_moveWatchmen 15 = .ok (.aaload, 1) := by decide +kernel
theorem dX1_moveWatchmen_16 : decode cX1_moveWatchmen 16 = .ok (.invokevirtual 160, 3) := by decide +kernel
theorem dX1_moveWatchmen_19 : decode cX1_moveWatchmen 19 = .ok (.aload_n 0, 1) := by decide +kernel
theorem dX1_moveWatchmen_20 : decode cX1_moveWatchmen 20 = .ok (.aload_n 0, 1) := by decide +kernel
theorem dX1_moveWatchmen_21 : decode cX1_moveWatchmen 21 = .ok (.getfield 32, 3) := by decide +kernel
theorem dX1_moveWatchmen_24 : decode cX1_moveWatchmen 24 = .ok (.iload_n 2, 1) := by decide +kernel
theorem dX1_moveWatchmen_25 : decode cX1_moveWatchmen 25 = .ok (.aaload, 1) := by decide +kernel
theorem dX1_moveWatchmen_26 : decode cX1_moveWatchmen 26 = .ok (.iload_n 1, 1) := by decide +kernel
theorem dX1_moveWatchmen_27 : decode cX1_moveWatchmen 27 = .ok (.invokevirtual 163, 3) := by decide +kernel
theorem dX1_moveWatchmen_30 : decode cX1_moveWatchmen 30 = .ok (.iinc 2 1, 3) := by decide +kernel
theorem dX1_moveWatchmen_33 : decode cX1_moveWatchmen 33 = .ok (.goto (-31), 3) := by decide +kernel
theorem dX1_moveWatchmen_36 : decode cX1_moveWatchmen 36 = .ok (.return_, 1) := by decide +kernel
theorem dX1_seizeFirst_0 : decode cX1_seizeFirst 0 = .ok (.aload_n 1, 1) := by decide +kernel
theorem dX1_seizeFirst_1 : decode cX1_seizeFirst 1 = .ok (.iload_n 2, 1) := by decide +kernel
theorem dX1_seizeFirst_2 : decode cX1_seizeFirst 2 = .ok (.invokevirtual 167, 3) := by decide +kernel
theorem dX1_seizeFirst_5 : decode cX1_seizeFirst 5 = .ok (.istore_n 3, 1) := by decide +kernel
theorem dX1_seizeFirst_6 : decode cX1_seizeFirst 6 = .ok (.iconst 0, 1) := by decide +kernel
theorem dX1_seizeFirst_7 : decode cX1_seizeFirst 7 = .ok (.istore 4, 2) := by decide +kernel
theorem dX1_seizeFirst_9 : decode cX1_seizeFirst 9 = .ok (.iload 4, 2) := by decide +kernel
theorem dX1_seizeFirst_11 : decode cX1_seizeFirst 11 = .ok (.aload_n 0, 1) := by decide +kernel
theorem dX1_seizeFirst_12 : decode cX1_seizeFirst 12 = .ok (.getfield 58, 3) := by decide +kernel
theorem dX1_seizeFirst_15 : decode cX1_seizeFirst 15 = .ok (.if_icmp .ge 101, 3) := by decide +kernel
theorem dX1_seizeFirst_18 : decode cX1_seizeFirst 18 = .ok (.aload_n 0, 1) := by decide +kernel
theorem dX1_seizeFirst_19 : decode cX1_seizeFirst 19 = .ok (.getfield 38, 3) := by decide +kernel
theorem dX1_seizeFirst_22 : decode cX1_seizeFirst 22 = .ok (.iload 4, 2) := by decide +kernel
theorem dX1_seizeFirst_24 : decode cX1_seizeFirst 24 = .ok (.aaload, 1) := by decide +kernel
theorem dX1_seizeFirst_25 : decode cX1_seizeFirst 25 = .ok (.astore 5, 2) := by decide +kernel
theorem dX1_seizeFirst_27 : decode cX1_seizeFirst 27 = .ok (.aload_n 0, 1) := by decide +kernel
theorem dX1_seizeFirst_28 : decode cX1_seizeFirst 28 = .ok (.aload 5, 2) := by decide +kernel
theorem dX1_seizeFirst_30 : decode cX1_seizeFirst 30 = .ok (.getfield 157, 3) := by decide +kernel
theorem dX1_seizeFirst_33 : decode cX1_seizeFirst 33 = .ok (.invokevirtual 170, 3) := by decide +kernel
theorem dX1_seizeFirst_36 : decode cX1_seizeFirst 36 = .ok (.ifCond .eq 7, 3) := by decide +kernel
theorem dX1_seizeFirst_39 : decode cX1_seizeFirst 39 = .ok (.iconst 3, 1) := by decide +kernel
theorem dX1_seizeFirst_40 : decode cX1_seizeFirst 40 = .ok (.goto 4, 3) := by decide +kernel
theorem dX1_seizeFirst_43 : decode cX1_seizeFirst 43 = .ok (.iconst 0, 1) := by decide +kernel
theorem dX1_seizeFirst_44 : decode cX1_seizeFirst 44 = .ok (.istore 6, 2) := by decide +kernel
theorem dX1_seizeFirst_46 : decode cX1_seizeFirst 46 = .ok (.aload 5, 2) := by decide +kernel
theorem dX1_seizeFirst_48 : decode cX1_seizeFirst 48 = .ok (.invokevirtual 123, 3) := by decide +kernel
theorem dX1_seizeFirst_51 : decode cX1_seizeFirst 51 = .ok (.ifCond .eq 59, 3) := by decide +kernel
theorem dX1_seizeFirst_54 : decode cX1_seizeFirst 54 = .ok (.aload_n 1, 1) := by decide +kernel
theorem dX1_seizeFirst_55 : decode cX1_seizeFirst 55 = .ok (.getfield 174, 3) := by decide +kernel
theorem dX1_seizeFirst_58 : decode cX1_seizeFirst 58 = .ok (.aload 5, 2) := by decide +kernel
theorem dX1_seizeFirst_60 : decode cX1_seizeFirst 60 = .ok (.getfield 144, 3) := by decide +kernel
theorem dX1_seizeFirst_63 : decode cX1_seizeFirst 63 = .ok (.invokestatic 151, 3) := by decide +kernel
theorem dX1_seizeFirst_66 : decode cX1_seizeFirst 66 = .ok (.iload_n 3, 1) := by decide +kernel
theorem dX1_seizeFirst_67 : decode cX1_seizeFirst 67 = .ok (.iload 6, 2) := by decide +kernel
theorem dX1_seizeFirst_69 : decode cX1_seizeFirst 69 = .ok (.iadd, 1) := by decide +kernel
theorem dX1_seizeFirst_70 : decode cX1_seizeFirst 70 = .ok (.if_icmp .gt 40, 3) := by decide +kernel
theorem dX1_seizeFirst_73 : decode cX1_seizeFirst 73 = .ok (.aload_n 0, 1) := by decide +kernel
theorem dX1_seizeFirst_74 : decode cX1_seizeFirst 74 = .ok (.dup, 1) := by decide +kernel
theorem dX1_seizeFirst_75 : decode cX1_seizeFirst 75 = .ok (.getfield 74, 3) := by decide +kernel
theorem dX1_seizeFirst_78 : decode cX1_seizeFirst 78 = .ok (.aload 5, 2) := by decide +kernel
theorem dX1_seizeFirst_80 : decode cX1_seizeFirst 80 = .ok (.getfield 145, 3) := by decide +kernel
theorem dX1_seizeFirst_83 : decode cX1_seizeFirst 83 = .ok (.iadd, 1) := by decide +kernel
theorem dX1_seizeFirst_84 : decode cX1_seizeFirst 84 = .ok (.putfield 74, 3) := by decide +kernel
theorem dX1_seizeFirst_87 : decode cX1_seizeFirst 87 = .ok (.aload 5, 2) := by decide +kernel
theorem dX1_seizeFirst_89 : decode cX1_seizeFirst 89 = .ok (.iconst 0, 1) := by decide +kernel
theorem dX1_seizeFirst_90 : decode cX1_seizeFirst 90 = .ok (.putfield 145, 3) := by decide +kernel
theorem dX1_seizeFirst_93 : decode cX1_seizeFirst 93 = .ok (.aload 5, 2) := by decide +kernel
theorem dX1_seizeFirst_95 : decode cX1_seizeFirst 95 = .ok (.iconst 2, 1) := by decide +kernel
theorem dX1_seizeFirst_96 : decode cX1_seizeFirst 96 = .ok (.putfield 130, 3) := by decide +kernel
theorem dX1_seizeFirst_99 : decode cX1_seizeFirst 99 = .ok (.aload_n 1, 1) := by decide +kernel
theorem dX1_seizeFirst_100 : decode cX1_seizeFirst 100 = .ok (.dup, 1) := by decide +kernel
theorem dX1_seizeFirst_101 : decode cX1_seizeFirst 101 = .ok (.getfield 175, 3) := by decide +kernel
theorem dX1_seizeFirst_104 : decode cX1_seizeFirst 104 = .ok (.iconst 1, 1) := by decide +kernel
theorem dX1_seizeFirst_105 : decode cX1_seizeFirst 105 = .ok (.iadd, 1) := by decide +kernel
theorem dX1_seizeFirst_106 : decode cX1_seizeFirst 106 = .ok (.putfield 175, 3) := by decide +kernel
theorem dX1_seizeFirst_109 : decode cX1_seizeFirst 109 = .ok (.return_, 1) := by decide +kernel
theorem dX1_seizeFirst_110 : decode cX1_seizeFirst 110 = .ok (.iinc 4 1, 3) := by decide +kernel
theorem dX1_seizeFirst_113 : decode cX1_seizeFirst 113 = .ok (.goto (-104), 3) := by decide +kernel
theorem dX1_seizeFirst_116 : decode cX1_seizeFirst 116 = .ok (.return_, 1) := by decide +kernel
theorem dX1_watchmenSeeingLantern_0 : decode cX1_watchmenSeeingLantern 0 = .ok (.iconst 0, 1) := by decide +kernel
theorem dX1_watchmenSeeingLantern_1 : decode cX1_watchmenSeeingLantern 1 = .ok (.istore_n 3, 1) := by decide +kernel
theorem dX1_watchmenSeeingLantern_2 : decode cX1_watchmenSeeingLantern 2 = .ok (.iconst 0, 1) := by decide +kernel
theorem dX1_watchmenSeeingLantern_3 : decode cX1_watchmenSeeingLantern 3 = .ok (.istore 4, 2) := by decide +kernel
theorem dX1_watchmenSeeingLantern_5 : decode cX1_watchmenSeeingLantern 5 = .ok (.iload 4, 2) := by decide +kernel
theorem dX1_watchmenSeeingLantern_7 : decode cX1_watchmenSeeingLantern 7 = .ok (.aload_n 0, 1) := by decide +kernel
theorem dX1_watchmenSeeingLantern_8 : decode cX1_watchmenSeeingLantern 8 = .ok (.getfield 55, 3) := by decide +kernel
theorem dX1_watchmenSeeingLantern_11 : decode cX1_watchmenSeeingLantern 11 = .ok (.if_icmp .ge 40, 3) := by decide +kernel
theorem dX1_watchmenSeeingLantern_14 : decode cX1_watchmenSeeingLantern 14 = .ok (.aload_n 0, 1) := by decide +kernel
theorem dX1_watchmenSeeingLantern_15 : decode cX1_watchmenSeeingLantern 15 = .ok (.getfield 32, 3) := by decide +kernel
theorem dX1_watchmenSeeingLantern_18 : decode cX1_watchmenSeeingLantern 18 = .ok (.iload 4, 2) := by decide +kernel
theorem dX1_watchmenSeeingLantern_20 : decode cX1_watchmenSeeingLantern 20 = .ok (.aaload, 1) := by decide +kernel
theorem dX1_watchmenSeeingLantern_21 : decode cX1_watchmenSeeingLantern 21 = .ok (.getfield 174, 3) := by decide +kernel
theorem dX1_watchmenSeeingLantern_24 : decode cX1_watchmenSeeingLantern 24 = .ok (.iload_n 1, 1) := by decide +kernel
theorem dX1_watchmenSeeingLantern_25 : decode cX1_watchmenSeeingLantern 25 = .ok (.invokestatic 151, 3) := by decide +kernel
theorem dX1_watchmenSeeingLantern_28 : decode cX1_watchmenSeeingLantern 28 = .ok (.aload_n 0, 1) := by decide +kernel
theorem dX1_watchmenSeeingLantern_29 : decode cX1_watchmenSeeingLantern 29 = .ok (.getfield 32, 3) := by decide +kernel
theorem dX1_watchmenSeeingLantern_32 : decode cX1_watchmenSeeingLantern 32 = .ok (.iload 4, 2) := by decide +kernel
theorem dX1_watchmenSeeingLantern_34 : decode cX1_watchmenSeeingLantern 34 = .ok (.aaload, 1) := by decide +kernel
theorem dX1_watchmenSeeingLantern_35 : decode cX1_watchmenSeeingLantern 35 = .ok (.iload_n 2, 1) := by decide +kernel
theorem dX1_watchmenSeeingLantern_36 : decode cX1_watchmenSeeingLantern 36 = .ok (.invokevirtual 178, 3) := by decide +kernel
theorem dX1_watchmenSeeingLantern_39 : decode cX1_watchmenSeeingLantern 39 = .ok (.if_icmp .gt 6, 3) := by decide +kernel
theorem dX1_watchmenSeeingLantern_42 : decode cX1_watchmenSeeingLantern 42 = .ok (.iinc 3 1, 3) := by decide +kernel
theorem dX1_watchmenSeeingLantern_45 : decode cX1_watchmenSeeingLantern 45 = .ok (.iinc 4 1, 3) := by decide +kernel
theorem dX1_watchmenSeeingLantern_48 : decode cX1_watchmenSeeingLantern 48 = .ok (.goto (-43), 3) := by decide +kernel
theorem dX1_watchmenSeeingLantern_51 : decode cX1_watchmenSeeingLantern 51 = .ok (.iload_n 3, 1) := by decide +kernel
theorem dX1_watchmenSeeingLantern_52 : decode cX1_watchmenSeeingLantern 52 = .ok (.ireturn, 1) := by decide +kernel
theorem dX1_watchmenSeeingPlace_0 : decode cX1_watchmenSeeingPlace 0 = .ok (.aload_n 0, 1) := by decide +kernel
theorem dX1_watchmenSeeingPlace_1 : decode cX1_watchmenSeeingPlace 1 = .ok (.invokevirtual 96, 3) := by decide +kernel
theorem dX1_watchmenSeeingPlace_4 : decode cX1_watchmenSeeingPlace 4 = .ok (.istore_n 2, 1) := by decide +kernel
theorem dX1_watchmenSeeingPlace_5 : decode cX1_watchmenSeeingPlace 5 = .ok (.iconst 0, 1) := by decide +kernel
theorem dX1_watchmenSeeingPlace_6 : decode cX1_watchmenSeeingPlace 6 = .ok (.istore_n 3, 1) := by decide +kernel
theorem dX1_watchmenSeeingPlace_7 : decode cX1_watchmenSeeingPlace 7 = .ok (.iconst 0, 1) := by decide +kernel
theorem dX1_watchmenSeeingPlace_8 : decode cX1_watchmenSeeingPlace 8 = .ok (.istore 4, 2) := by decide +kernel
theorem dX1_watchmenSeeingPlace_10 : decode cX1_watchmenSeeingPlace 10 = .ok (.iload 4, 2) := by decide +kernel
theorem dX1_watchmenSeeingPlace_12 : decode cX1_watchmenSeeingPlace 12 = .ok (.aload_n 0, 1) := by decide +kernel
theorem dX1_watchmenSeeingPlace_13 : decode cX1_watchmenSeeingPlace 13 = .ok (.getfield 55, 3) := by decide +kernel
theorem dX1_watchmenSeeingPlace_16 : decode cX1_watchmenSeeingPlace 16 = .ok (.if_icmp .ge 40, 3) := by decide +kernel
theorem dX1_watchmenSeeingPlace_19 : decode cX1_watchmenSeeingPlace 19 = .ok (.aload_n 0, 1) := by decide +kernel
theorem dX1_watchmenSeeingPlace_20 : decode cX1_watchmenSeeingPlace 20 = .ok (.getfield 32, 3) := by decide +kernel
theorem dX1_watchmenSeeingPlace_23 : decode cX1_watchmenSeeingPlace 23 = .ok (.iload 4, 2) := by decide +kernel
theorem dX1_watchmenSeeingPlace_25 : decode cX1_watchmenSeeingPlace 25 = .ok (.aaload, 1) := by decide +kernel
theorem dX1_watchmenSeeingPlace_26 : decode cX1_watchmenSeeingPlace 26 = .ok (.getfield 174, 3) := by decide +kernel
theorem dX1_watchmenSeeingPlace_29 : decode cX1_watchmenSeeingPlace 29 = .ok (.iload_n 1, 1) := by decide +kernel
theorem dX1_watchmenSeeingPlace_30 : decode cX1_watchmenSeeingPlace 30 = .ok (.invokestatic 151, 3) := by decide +kernel
theorem dX1_watchmenSeeingPlace_33 : decode cX1_watchmenSeeingPlace 33 = .ok (.aload_n 0, 1) := by decide +kernel
theorem dX1_watchmenSeeingPlace_34 : decode cX1_watchmenSeeingPlace 34 = .ok (.getfield 32, 3) := by decide +kernel
theorem dX1_watchmenSeeingPlace_37 : decode cX1_watchmenSeeingPlace 37 = .ok (.iload 4, 2) := by decide +kernel
theorem dX1_watchmenSeeingPlace_39 : decode cX1_watchmenSeeingPlace 39 = .ok (.aaload, 1) := by decide +kernel
theorem dX1_watchmenSeeingPlace_40 : decode cX1_watchmenSeeingPlace 40 = .ok (.iload_n 2, 1) := by decide +kernel
theorem dX1_watchmenSeeingPlace_41 : decode cX1_watchmenSeeingPlace 41 = .ok (.invokevirtual 167, 3) := by decide +kernel
theorem dX1_watchmenSeeingPlace_44 : decode cX1_watchmenSeeingPlace 44 = .ok (.if_icmp .gt 6, 3) := by decide +kernel
theorem dX1_watchmenSeeingPlace_47 : decode cX1_watchmenSeeingPlace 47 = .ok (.iinc 3 1, 3) := by decide +kernel
theorem dX1_watchmenSeeingPlace_50 : decode cX1_watchmenSeeingPlace 50 = .ok (.iinc 4 1, 3) := by decide +kernel
theorem dX1_watchmenSeeingPlace_53 : decode cX1_watchmenSeeingPlace 53 = .ok (.goto (-43), 3) := by decide +kernel
theorem dX1_watchmenSeeingPlace_56 : decode cX1_watchmenSeeingPlace 56 = .ok (.iload_n 3, 1) := by decide +kernel
theorem dX1_watchmenSeeingPlace_57 : decode cX1_watchmenSeeingPlace 57 = .ok (.ireturn, 1) := by decide +kernel
theorem dX1_watchmenAt_0 : decode cX1_watchmenAt 0 = .ok (.iconst 0, 1) := by decide +kernel
theorem dX1_watchmenAt_1 : decode cX1_watchmenAt 1 = .ok (.istore_n 2, 1) := by decide +kernel
theorem dX1_watchmenAt_2 : decode cX1_watchmenAt 2 = .ok (.iconst 0, 1) := by decide +kernel
theorem dX1_watchmenAt_3 : decode cX1_watchmenAt 3 = .ok (.istore_n 3, 1) := by decide +kernel
theorem dX1_watchmenAt_4 : decode cX1_watchmenAt 4 = .ok (.iload_n 3, 1) := by decide +kernel
theorem dX1_watchmenAt_5 : decode cX1_watchmenAt 5 = .ok (.aload_n 0, 1) := by decide +kernel
theorem dX1_watchmenAt_6 : decode cX1_watchmenAt 6 = .ok (.getfield 55, 3) := by decide +kernel
theorem dX1_watchmenAt_9 : decode cX1_watchmenAt 9 = .ok (.if_icmp .ge 25, 3) := by decide +kernel
theorem dX1_watchmenAt_12 : decode cX1_watchmenAt 12 = .ok (.aload_n 0, 1) := by decide +kernel
theorem dX1_watchmenAt_13 : decode cX1_watchmenAt 13 = .ok (.getfield 32, 3) := by decide +kernel
theorem dX1_watchmenAt_16 : decode cX1_watchmenAt 16 = .ok (.iload_n 3, 1) := by decide +kernel
theorem dX1_watchmenAt_17 : decode cX1_watchmenAt 17 = .ok (.aaload, 1) := by decide +kernel
theorem dX1_watchmenAt_18 : decode cX1_watchmenAt 18 = .ok (.getfield 174, 3) := by decide +kernel
theorem dX1_watchmenAt_21 : decode cX1_watchmenAt 21 = .ok (.iload_n 1, 1) := by decide +kernel
theorem dX1_watchmenAt_22 : decode cX1_watchmenAt 22 = .ok (.if_icmp .ne 6, 3) := by decide +kernel
theorem dX1_watchmenAt_25 : decode cX1_watchmenAt 25 = .ok (.iinc 2 1, 3) := by decide +kernel
theorem dX1_watchmenAt_28 : decode cX1_watchmenAt 28 = .ok (.iinc 3 1, 3) := by decide +kernel
theorem dX1_watchmenAt_31 : decode cX1_watchmenAt 31 = .ok (.goto (-27), 3) := by decide +kernel
theorem dX1_watchmenAt_34 : decode cX1_watchmenAt 34 = .ok (.iload_n 2, 1) := by decide +kernel
theorem dX1_watchmenAt_35 : decode cX1_watchmenAt 35 = .ok (.ireturn, 1) := by decide +kernel
theorem dX1_boatsAtSeaAt_0 : decode cX1_boatsAtSeaAt 0 = .ok (.iconst 0, 1) := by decide +kernel
theorem dX1_boatsAtSeaAt_1 : decode cX1_boatsAtSeaAt 1 = .ok (.istore_n 2, 1) := by decide +kernel
theorem dX1_boatsAtSeaAt_2 : decode cX1_boatsAtSeaAt 2 = .ok (.iconst 0, 1) := by decide +kernel
theorem dX1_boatsAtSeaAt_3 : decode cX1_boatsAtSeaAt 3 = .ok (.istore_n 3, 1) := by decide +kernel
theorem dX1_boatsAtSeaAt_4 : decode cX1_boatsAtSeaAt 4 = .ok (.iload_n 3, 1) := by decide +kernel
theorem dX1_boatsAtSeaAt_5 : decode cX1_boatsAtSeaAt 5 = .ok (.aload_n 0, 1) := by decide +kernel
theorem dX1_boatsAtSeaAt_6 : decode cX1_boatsAtSeaAt 6 = .ok (.getfield 58, 3) := by decide +kernel
theorem dX1_boatsAtSeaAt_9 : decode cX1_boatsAtSeaAt 9 = .ok (.if_icmp .ge 37, 3) := by decide +kernel
theorem dX1_boatsAtSeaAt_12 : decode cX1_boatsAtSeaAt 12 = .ok (.aload_n 0, 1) := by decide +kernel
theorem dX1_boatsAtSeaAt_13 : decode cX1_boatsAtSeaAt 13 = .ok (.getfield 38, 3) := by decide +kernel
theorem dX1_boatsAtSeaAt_16 : decode cX1_boatsAtSeaAt 16 = .ok (.iload_n 3, 1) := by decide +kernel
theorem dX1_boatsAtSeaAt_17 : decode cX1_boatsAtSeaAt 17 = .ok (.aaload, 1) := by decide +kernel
theorem dX1_boatsAtSeaAt_18 : decode cX1_boatsAtSeaAt 18 = .ok (.getfield 130, 3) := by decide +kernel
theorem dX1_boatsAtSeaAt_21 : decode cX1_boatsAtSeaAt 21 = .ok (.ifCond .ne 19, 3) := by decide +kernel
theorem dX1_boatsAtSeaAt_24 : decode cX1_boatsAtSeaAt 24 = .ok (.aload_n 0, 1) := by decide +kernel
theorem dX1_boatsAtSeaAt_25 : decode cX1_boatsAtSeaAt 25 = .ok (.getfield 38, 3) := by decide +kernel
theorem dX1_boatsAtSeaAt_28 : decode cX1_boatsAtSeaAt 28 = .ok (.iload_n 3, 1) := by decide +kernel
theorem dX1_boatsAtSeaAt_29 : decode cX1_boatsAtSeaAt 29 = .ok (.aaload, 1) := by decide +kernel
theorem dX1_boatsAtSeaAt_30 : decode cX1_boatsAtSeaAt 30 = .ok (.getfield 144, 3) := by decide +kernel
theorem dX1_boatsAtSeaAt_33 : decode cX1_boatsAtSeaAt 33 = .ok (.iload_n 1, 1) := by decide +kernel
theorem dX1_boatsAtSeaAt_34 : decode cX1_boatsAtSeaAt 34 = .ok (.if_icmp .ne 6, 3) := by decide +kernel
theorem dX1_boatsAtSeaAt_37 : decode cX1_boatsAtSeaAt 37 = .ok (.iinc 2 1, 3) := by decide +kernel
theorem dX1_boatsAtSeaAt_40 : decode cX1_boatsAtSeaAt 40 = .ok (.iinc 3 1, 3) := by decide +kernel
theorem dX1_boatsAtSeaAt_43 : decode cX1_boatsAtSeaAt 43 = .ok (.goto (-39), 3) := by decide +kernel
theorem dX1_boatsAtSeaAt_46 : decode cX1_boatsAtSeaAt 46 = .ok (.iload_n 2, 1) := by decide +kernel
theorem dX1_boatsAtSeaAt_47 : decode cX1_boatsAtSeaAt 47 = .ok (.ireturn, 1) := by decide +kernel
theorem dX1_boatsAtSeaLedBy_0 : decode cX1_boatsAtSeaLedBy 0 = .ok (.iconst 0, 1) := by decide +kernel
theorem dX1_boatsAtSeaLedBy_1 : decode cX1_boatsAtSeaLedBy 1 = .ok (.istore_n 2, 1) := by decide +kernel
theorem dX1_boatsAtSeaLedBy_2 : decode cX1_boatsAtSeaLedBy 2 = .ok (.iconst 0, 1) := by decide +kernel
theorem dX1_boatsAtSeaLedBy_3 : decode cX1_boatsAtSeaLedBy 3 = .ok (.istore_n 3, 1) := by decide +kernel
theorem dX1_boatsAtSeaLedBy_4 : decode cX1_boatsAtSeaLedBy 4 = .ok (.iload_n 3, 1) := by decide +kernel
theorem dX1_boatsAtSeaLedBy_5 : decode cX1_boatsAtSeaLedBy 5 = .ok (.aload_n 0, 1) := by decide +kernel
theorem dX1_boatsAtSeaLedBy_6 : decode cX1_boatsAtSeaLedBy 6 = .ok (.getfield 58, 3) := by decide +kernel
theorem dX1_boatsAtSeaLedBy_9 : decode cX1_boatsAtSeaLedBy 9 = .ok (.if_icmp .ge 37, 3) := by decide +kernel
theorem dX1_boatsAtSeaLedBy_12 : decode cX1_boatsAtSeaLedBy 12 = .ok (.aload_n 0, 1) := by decide +kernel
theorem dX1_boatsAtSeaLedBy_13 : decode cX1_boatsAtSeaLedBy 13 = .ok (.getfield 38, 3) := by decide +kernel
theorem dX1_boatsAtSeaLedBy_16 : decode cX1_boatsAtSeaLedBy 16 = .ok (.iload_n 3, 1) := by decide +kernel
theorem dX1_boatsAtSeaLedBy_17 : decode cX1_boatsAtSeaLedBy 17 = .ok (.aaload, 1) := by decide +kernel
theorem dX1_boatsAtSeaLedBy_18 : decode cX1_boatsAtSeaLedBy 18 = .ok (.getfield 130, 3) := by decide +kernel
theorem dX1_boatsAtSeaLedBy_21 : decode cX1_boatsAtSeaLedBy 21 = .ok (.ifCond .ne 19, 3) := by decide +kernel
theorem dX1_boatsAtSeaLedBy_24 : decode cX1_boatsAtSeaLedBy 24 = .ok (.aload_n 0, 1) := by decide +kernel
theorem dX1_boatsAtSeaLedBy_25 : decode cX1_boatsAtSeaLedBy 25 = .ok (.getfield 38, 3) := by decide +kernel
theorem dX1_boatsAtSeaLedBy_28 : decode cX1_boatsAtSeaLedBy 28 = .ok (.iload_n 3, 1) := by decide +kernel
theorem dX1_boatsAtSeaLedBy_29 : decode cX1_boatsAtSeaLedBy 29 = .ok (.aaload, 1) := by decide +kernel
theorem dX1_boatsAtSeaLedBy_30 : decode cX1_boatsAtSeaLedBy 30 = .ok (.getfield 157, 3) := by decide +kernel
theorem dX1_boatsAtSeaLedBy_33 : decode cX1_boatsAtSeaLedBy 33 = .ok (.iload_n 1, 1) := by decide +kernel
theorem dX1_boatsAtSeaLedBy_34 : decode cX1_boatsAtSeaLedBy 34 = .ok (.if_icmp .ne 6, 3) := by decide +kernel
theorem dX1_boatsAtSeaLedBy_37 : decode cX1_boatsAtSeaLedBy 37 = .ok (.iinc 2 1, 3) := by decide +kernel
theorem dX1_boatsAtSeaLedBy_40 : decode cX1_boatsAtSeaLedBy 40 = .ok (.iinc 3 1, 3) := by decide +kernel
theorem dX1_boatsAtSeaLedBy_43 : decode cX1_boatsAtSeaLedBy 43 = .ok (.goto (-39), 3) := by decide +kernel
theorem dX1_boatsAtSeaLedBy_46 : decode cX1_boatsAtSeaLedBy 46 = .ok (.iload_n 2, 1) := by decide +kernel
theorem dX1_boatsAtSeaLedBy_47 : decode cX1_boatsAtSeaLedBy 47 = .ok (.ireturn, 1) := by decide +kernel
theorem dX1_boatsOfFate_0 : decode cX1_boatsOfFate 0 = .ok (.iconst 0, 1) := by decide +kernel
theorem dX1_boatsOfFate_1 : decode cX1_boatsOfFate 1 = .ok (.istore_n 2, 1) := by decide +kernel
theorem dX1_boatsOfFate_2 : decode cX1_boatsOfFate 2 = .ok (.iconst 0, 1) := by decide +kernel
theorem dX1_boatsOfFate_3 : decode cX1_boatsOfFate 3 = .ok (.istore_n 3, 1) := by decide +kernel
theorem dX1_boatsOfFate_4 : decode cX1_boatsOfFate 4 = .ok (.iload_n 3, 1) := by decide +kernel
theorem dX1_boatsOfFate_5 : decode cX1_boatsOfFate 5 = .ok (.aload_n 0, 1) := by decide +kernel
theorem dX1_boatsOfFate_6 : decode cX1_boatsOfFate 6 = .ok (.getfield 58, 3) := by decide +kernel
theorem dX1_boatsOfFate_9 : decode cX1_boatsOfFate 9 = .ok (.if_icmp .ge 25, 3) := by decide +kernel
theorem dX1_boatsOfFate_12 : decode cX1_boatsOfFate 12 = .ok (.aload_n 0, 1) := by decide +kernel
theorem dX1_boatsOfFate_13 : decode cX1_boatsOfFate 13 = .ok (.getfield 38, 3) := by decide +kernel
theorem dX1_boatsOfFate_16 : decode cX1_boatsOfFate 16 = .ok (.iload_n 3, 1) := by decide +kernel
theorem dX1_boatsOfFate_17 : decode cX1_boatsOfFate 17 = .ok (.aaload, 1) := by decide +kernel
theorem dX1_boatsOfFate_18 : decode cX1_boatsOfFate 18 = .ok (.getfield 130, 3) := by decide +kernel
theorem dX1_boatsOfFate_21 : decode cX1_boatsOfFate 21 = .ok (.iload_n 1, 1) := by decide +kernel
theorem dX1_boatsOfFate_22 : decode cX1_boatsOfFate 22 = .ok (.if_icmp .ne 6, 3) := by decide +kernel
theorem dX1_boatsOfFate_25 : decode cX1_boatsOfFate 25 = .ok (.iinc 2 1, 3) := by decide +kernel
theorem dX1_boatsOfFate_28 : decode cX1_boatsOfFate 28 = .ok (.iinc 3 1, 3) := by decide +kernel
theorem dX1_boatsOfFate_31 : decode cX1_boatsOfFate 31 = .ok (.goto (-27), 3) := by decide +kernel
theorem dX1_boatsOfFate_34 : decode cX1_boatsOfFate 34 = .ok (.iload_n 2, 1) := by decide +kernel
theorem dX1_boatsOfFate_35 : decode cX1_boatsOfFate 35 = .ok (.ireturn, 1) := by decide +kernel
theorem dX1_balesAtSea_0 : decode cX1_balesAtSea 0 = .ok (.iconst 0, 1) := by decide +kernel
theorem dX1_balesAtSea_1 : decode cX1_balesAtSea 1 = .ok (.istore_n 1, 1) := by decide +kernel
theorem dX1_balesAtSea_2 : decode cX1_balesAtSea 2 = .ok (.iconst 0, 1) := by decide +kernel
theorem dX1_balesAtSea_3 : decode cX1_balesAtSea 3 = .ok (.istore_n 2, 1) := by decide +kernel
theorem dX1_balesAtSea_4 : decode cX1_balesAtSea 4 = .ok (.iload_n 2, 1) := by decide +kernel
theorem dX1_balesAtSea_5 : decode cX1_balesAtSea 5 = .ok (.aload_n 0, 1) := by decide +kernel
theorem dX1_balesAtSea_6 : decode cX1_balesAtSea 6 = .ok (.getfield 58, 3) := by decide +kernel
theorem dX1_balesAtSea_9 : decode cX1_balesAtSea 9 = .ok (.if_icmp .ge 21, 3) := by decide +kernel
theorem dX1_balesAtSea_12 : decode cX1_balesAtSea 12 = .ok (.iload_n 1, 1) := by decide +kernel
theorem dX1_balesAtSea_13 : decode cX1_balesAtSea 13 = .ok (.aload_n 0, 1) := by decide +kernel
theorem dX1_balesAtSea_14 : decode cX1_balesAtSea 14 = .ok (.getfield 38, 3) := by decide +kernel
theorem dX1_balesAtSea_17 : decode cX1_balesAtSea 17 = .ok (.iload_n 2, 1) := by decide +kernel
theorem dX1_balesAtSea_18 : decode cX1_balesAtSea 18 = .ok (.aaload, 1) := by decide +kernel
theorem dX1_balesAtSea_19 : decode cX1_balesAtSea 19 = .ok (.getfield 145, 3) := by decide +kernel
theorem dX1_balesAtSea_22 : decode cX1_balesAtSea 22 = .ok (.iadd, 1) := by decide +kernel
theorem dX1_balesAtSea_23 : decode cX1_balesAtSea 23 = .ok (.istore_n 1, 1) := by decide +kernel
theorem dX1_balesAtSea_24 : decode cX1_balesAtSea 24 = .ok (.iinc 2 1, 3) := by decide +kernel
theorem dX1_balesAtSea_27 : decode cX1_balesAtSea 27 = .ok (.goto (-23), 3) := by decide +kernel
theorem dX1_balesAtSea_30 : decode cX1_balesAtSea 30 = .ok (.iload_n 1, 1) := by decide +kernel
theorem dX1_balesAtSea_31 : decode cX1_balesAtSea 31 = .ok (.ireturn, 1) := by decide +kernel
theorem dX1_balesUnloaded_0 : decode cX1_balesUnloaded 0 = .ok (.iconst 0, 1) := by decide +kernel
theorem dX1_balesUnloaded_1 : decode cX1_balesUnloaded 1 = .ok (.istore_n 1, 1) := by decide +kernel
theorem dX1_balesUnloaded_2 : decode cX1_balesUnloaded 2 = .ok (.iconst 0, 1) := by decide +kernel
theorem dX1_balesUnloaded_3 : decode cX1_balesUnloaded 3 = .ok (.istore_n 2, 1) := by decide +kernel
theorem dX1_balesUnloaded_4 : decode cX1_balesUnloaded 4 = .ok (.iload_n 2, 1) := by decide +kernel
theorem dX1_balesUnloaded_5 : decode cX1_balesUnloaded 5 = .ok (.aload_n 0, 1) := by decide +kernel
theorem dX1_balesUnloaded_6 : decode cX1_balesUnloaded 6 = .ok (.getfield 58, 3) := by decide +kernel
theorem dX1_balesUnloaded_9 : decode cX1_balesUnloaded 9 = .ok (.if_icmp .ge 21, 3) := by decide +kernel
theorem dX1_balesUnloaded_12 : decode cX1_balesUnloaded 12 = .ok (.iload_n 1, 1) := by decide +kernel
theorem dX1_balesUnloaded_13 : decode cX1_balesUnloaded 13 = .ok (.aload_n 0, 1) := by decide +kernel
theorem dX1_balesUnloaded_14 : decode cX1_balesUnloaded 14 = .ok (.getfield 38, 3) := by decide +kernel
theorem dX1_balesUnloaded_17 : decode cX1_balesUnloaded 17 = .ok (.iload_n 2, 1) := by decide +kernel
theorem dX1_balesUnloaded_18 : decode cX1_balesUnloaded 18 = .ok (.aaload, 1) := by decide +kernel
theorem dX1_balesUnloaded_19 : decode cX1_balesUnloaded 19 = .ok (.getfield 148, 3) := by decide +kernel
theorem dX1_balesUnloaded_22 : decode cX1_balesUnloaded 22 = .ok (.iadd, 1) := by decide +kernel
theorem dX1_balesUnloaded_23 : decode cX1_balesUnloaded 23 = .ok (.istore_n 1, 1) := by decide +kernel
theorem dX1_balesUnloaded_24 : decode cX1_balesUnloaded 24 = .ok (.iinc 2 1, 3) := by decide +kernel
theorem dX1_balesUnloaded_27 : decode cX1_balesUnloaded 27 = .ok (.goto (-23), 3) := by decide +kernel
theorem dX1_balesUnloaded_30 : decode cX1_balesUnloaded 30 = .ok (.iload_n 1, 1) := by decide +kernel
theorem dX1_balesUnloaded_31 : decode cX1_balesUnloaded 31 = .ok (.ireturn, 1) := by decide +kernel
theorem dX1_balesInCaves_0 : decode cX1_balesInCaves 0 = .ok (.iconst 0, 1) := by decide +kernel
theorem dX1_balesInCaves_1 : decode cX1_balesInCaves 1 = .ok (.istore_n 1, 1) := by decide +kernel
theorem dX1_balesInCaves_2 : decode cX1_balesInCaves 2 = .ok (.iconst 0, 1) := by decide +kernel
theorem dX1_balesInCaves_3 : decode cX1_balesInCaves 3 = .ok (.istore_n 2, 1) := by decide +kernel
theorem dX1_balesInCaves_4 : decode cX1_balesInCaves 4 = .ok (.iload_n 2, 1) := by decide +kernel
theorem dX1_balesInCaves_5 : decode cX1_balesInCaves 5 = .ok (.bipush 16, 2) := by decide +kernel
theorem dX1_balesInCaves_7 : decode cX1_balesInCaves 7 = .ok (.if_icmp .ge 18, 3) := by decide +kernel
theorem dX1_balesInCaves_10 : decode cX1_balesInCaves 10 = .ok (.iload_n 1, 1) := by decide +kernel
theorem dX1_balesInCaves_11 : decode cX1_balesInCaves 11 = .ok (.aload_n 0, 1) := by decide +kernel
theorem dX1_balesInCaves_12 : decode cX1_balesInCaves 12 = .ok (.getfield 15, 3) := by decide +kernel
theorem dX1_balesInCaves_15 : decode cX1_balesInCaves 15 = .ok (.iload_n 2, 1) := by decide +kernel
theorem dX1_balesInCaves_16 : decode cX1_balesInCaves 16 = .ok (.iaload, 1) := by decide +kernel
theorem dX1_balesInCaves_17 : decode cX1_balesInCaves 17 = .ok (.iadd, 1) := by decide +kernel
theorem dX1_balesInCaves_18 : decode cX1_balesInCaves 18 = .ok (.istore_n 1, 1) := by decide +kernel
theorem dX1_balesInCaves_19 : decode cX1_balesInCaves 19 = .ok (.iinc 2 1, 3) := by decide +kernel
theorem dX1_balesInCaves_22 : decode cX1_balesInCaves 22 = .ok (.goto (-18), 3) := by decide +kernel
theorem dX1_balesInCaves_25 : decode cX1_balesInCaves 25 = .ok (.iload_n 1, 1) := by decide +kernel
theorem dX1_balesInCaves_26 : decode cX1_balesInCaves 26 = .ok (.ireturn, 1) := by decide +kernel
theorem dX1_knownCodes_0 : decode cX1_knownCodes 0 = .ok (.iconst 0, 1) := by decide +kernel
theorem dX1_knownCodes_1 : decode cX1_knownCodes 1 = .ok (.istore_n 1, 1) := by decide +kernel
theorem dX1_knownCodes_2 : decode cX1_knownCodes 2 = .ok (.iconst 1, 1) := by decide +kernel
theorem dX1_knownCodes_3 : decode cX1_knownCodes 3 = .ok (.istore_n 2, 1) := by decide +kernel
theorem dX1_knownCodes_4 : decode cX1_knownCodes 4 = .ok (.iload_n 2, 1) := by decide +kernel
theorem dX1_knownCodes_5 : decode cX1_knownCodes 5 = .ok (.bipush 7, 2) := by decide +kernel
theorem dX1_knownCodes_7 : decode cX1_knownCodes 7 = .ok (.if_icmp .gt 20, 3) := by decide +kernel
theorem dX1_knownCodes_10 : decode cX1_knownCodes 10 = .ok (.aload_n 0, 1) := by decide +kernel
theorem dX1_knownCodes_11 : decode cX1_knownCodes 11 = .ok (.iload_n 2, 1) := by decide +kernel
theorem dX1_knownCodes_12 : decode cX1_knownCodes 12 = .ok (.invokevirtual 170, 3) := by decide +kernel
theorem dX1_knownCodes_15 : decode cX1_knownCodes 15 = .ok (.ifCond .eq 6, 3) := by decide +kernel
theorem dX1_knownCodes_18 : decode cX1_knownCodes 18 = .ok (.iinc 1 1, 3) := by decide +kernel
theorem dX1_knownCodes_21 : decode cX1_knownCodes 21 = .ok (.iinc 2 1, 3) := by decide +kernel
theorem dX1_knownCodes_24 : decode cX1_knownCodes 24 = .ok (.goto (-20), 3) := by decide +kernel
theorem dX1_knownCodes_27 : decode cX1_knownCodes 27 = .ok (.iload_n 1, 1) := by decide +kernel
theorem dX1_knownCodes_28 : decode cX1_knownCodes 28 = .ok (.ireturn, 1) := by decide +kernel
theorem dX1_tellLantern_0 : decode cX1_tellLantern 0 = .ok (.iload_n 2, 1) := by decide +kernel
theorem dX1_tellLantern_1 : decode cX1_tellLantern 1 = .ok (.tableswitch 55 0 2 #[27, 32, 42], 27) := by decide +kernel
theorem dX1_tellLantern_28 : decode cX1_tellLantern 28 = .ok (.aload_n 1, 1) := by decide +kernel
theorem dX1_tellLantern_29 : decode cX1_tellLantern 29 = .ok (.getfield 90, 3) := by decide +kernel
theorem dX1_tellLantern_32 : decode cX1_tellLantern 32 = .ok (.ireturn, 1) := by decide +kernel
theorem dX1_tellLantern_33 : decode cX1_tellLantern 33 = .ok (.aload_n 1, 1) := by decide +kernel
theorem dX1_tellLantern_34 : decode cX1_tellLantern 34 = .ok (.getfield 114, 3) := by decide +kernel
theorem dX1_tellLantern_37 : decode cX1_tellLantern 37 = .ok (.aload_n 0, 1) := by decide +kernel
theorem dX1_tellLantern_38 : decode cX1_tellLantern 38 = .ok (.invokevirtual 100, 3) := by decide +kernel
theorem dX1_tellLantern_41 : decode cX1_tellLantern 41 = .ok (.iaload, 1) := by decide +kernel
theorem dX1_tellLantern_42 : decode cX1_tellLantern 42 = .ok (.ireturn, 1) := by decide +kernel
theorem dX1_tellLantern_43 : decode cX1_tellLantern 43 = .ok (.aload_n 0, 1) := by decide +kernel
theorem dX1_tellLantern_44 : decode cX1_tellLantern 44 = .ok (.aload_n 1, 1) := by decide +kernel
theorem dX1_tellLantern_45 : decode cX1_tellLantern 45 = .ok (.getfield 90, 3) := by decide +kernel
theorem dX1_tellLantern_48 : decode cX1_tellLantern 48 = .ok (.aload_n 0, 1) := by decide +kernel
theorem dX1_tellLantern_49 : decode cX1_tellLantern 49 = .ok (.invokevirtual 96, 3) := by decide +kernel
theorem dX1_tellLantern_52 : decode cX1_tellLantern 52 = .ok (.invokevirtual 117, 3) := by decide +kernel
theorem dX1_tellLantern_55 : decode cX1_tellLantern 55 = .ok (.ireturn, 1) := by decide +kernel
theorem dX1_tellLantern_56 : decode cX1_tellLantern 56 = .ok (.aload_n 1, 1) := by decide +kernel
theorem dX1_tellLantern_57 : decode cX1_tellLantern 57 = .ok (.getfield 120, 3) := by decide +kernel
theorem dX1_tellLantern_60 : decode cX1_tellLantern 60 = .ok (.ireturn, 1) := by decide +kernel
theorem dX1_tellCode_0 : decode cX1_tellCode 0 = .ok (.iload_n 2, 1) := by decide +kernel
theorem dX1_tellCode_1 : decode cX1_tellCode 1 = .ok (.tableswitch 55 0 2 #[27, 34, 41], 27) := by decide +kernel
theorem dX1_tellCode_28 : decode cX1_tellCode 28 = .ok (.aload_n 0, 1) := by decide +kernel
theorem dX1_tellCode_29 : decode cX1_tellCode 29 = .ok (.getfield 18, 3) := by decide +kernel
theorem dX1_tellCode_32 : decode cX1_tellCode 32 = .ok (.iload_n 1, 1) := by decide +kernel
theorem dX1_tellCode_33 : decode cX1_tellCode 33 = .ok (.iaload, 1) := by decide +kernel
theorem dX1_tellCode_34 : decode cX1_tellCode 34 = .ok (.ireturn, 1) := by decide +kernel
theorem dX1_tellCode_35 : decode cX1_tellCode 35 = .ok (.aload_n 0, 1) := by decide +kernel
theorem dX1_tellCode_36 : decode cX1_tellCode 36 = .ok (.getfield 21, 3) := by decide +kernel
theorem dX1_tellCode_39 : decode cX1_tellCode 39 = .ok (.iload_n 1, 1) := by decide +kernel
theorem dX1_tellCode_40 : decode cX1_tellCode 40 = .ok (.iaload, 1) := by decide +kernel
theorem dX1_tellCode_41 : decode cX1_tellCode 41 = .ok (.ireturn, 1) := by decide +kernel
theorem dX1_tellCode_42 : decode cX1_tellCode 42 = .ok (.aload_n 0, 1) := by decide +kernel
theorem dX1_tellCode_43 : decode cX1_tellCode 43 = .ok (.iload_n 1, 1) := by decide +kernel
theorem dX1_tellCode_44 : decode cX1_tellCode 44 = .ok (.invokevirtual 170, 3) := by decide +kernel
theorem dX1_tellCode_47 : decode cX1_tellCode 47 = .ok (.ifCond .eq 7, 3) := by decide +kernel
theorem dX1_tellCode_50 : decode cX1_tellCode 50 = .ok (.iconst 1, 1) := by decide +kernel
theorem dX1_tellCode_51 : decode cX1_tellCode 51 = .ok (.goto 4, 3) := by decide +kernel
theorem dX1_tellCode_54 : decode cX1_tellCode 54 = .ok (.iconst 0, 1) := by decide +kernel
theorem dX1_tellCode_55 : decode cX1_tellCode 55 = .ok (.ireturn, 1) := by decide +kernel
theorem dX1_tellCode_56 : decode cX1_tellCode 56 = .ok (.aload_n 0, 1) := by decide +kernel
theorem dX1_tellCode_57 : decode cX1_tellCode 57 = .ok (.iload_n 1, 1) := by decide +kernel
theorem dX1_tellCode_58 : decode cX1_tellCode 58 = .ok (.invokevirtual 181, 3) := by decide +kernel
theorem dX1_tellCode_61 : decode cX1_tellCode 61 = .ok (.ireturn, 1) := by decide +kernel
theorem dX1_tellPlace_0 : decode cX1_tellPlace 0 = .ok (.iload_n 2, 1) := by decide +kernel
theorem dX1_tellPlace_1 : decode cX1_tellPlace 1 = .ok (.tableswitch 57 0 3 #[31, 38, 45, 51], 31) := by decide +kernel
theorem dX1_tellPlace_32 : decode cX1_tellPlace 32 = .ok (.aload_n 0, 1) := by decide +kernel
theorem dX1_tellPlace_33 : decode cX1_tellPlace 33 = .ok (.getfield 9, 3) := by decide +kernel
theorem dX1_tellPlace_36 : decode cX1_tellPlace 36 = .ok (.iload_n 1, 1) := by decide +kernel
theorem dX1_tellPlace_37 : decode cX1_tellPlace 37 = .ok (.iaload, 1) := by decide +kernel
theorem dX1_tellPlace_38 : decode cX1_tellPlace 38 = .ok (.ireturn, 1) := by decide +kernel
theorem dX1_tellPlace_39 : decode cX1_tellPlace 39 = .ok (.aload_n 0, 1) := by decide +kernel
theorem dX1_tellPlace_40 : decode cX1_tellPlace 40 = .ok (.getfield 15, 3) := by decide +kernel
theorem dX1_tellPlace_43 : decode cX1_tellPlace 43 = .ok (.iload_n 1, 1) := by decide +kernel
theorem dX1_tellPlace_44 : decode cX1_tellPlace 44 = .ok (.iaload, 1) := by decide +kernel
theorem dX1_tellPlace_45 : decode cX1_tellPlace 45 = .ok (.ireturn, 1) := by decide +kernel
theorem dX1_tellPlace_46 : decode cX1_tellPlace 46 = .ok (.aload_n 0, 1) := by decide +kernel
theorem dX1_tellPlace_47 : decode cX1_tellPlace 47 = .ok (.iload_n 1, 1) := by decide +kernel
theorem dX1_tellPlace_48 : decode cX1_tellPlace 48 = .ok (.invokevirtual 184, 3) := by decide +kernel
theorem dX1_tellPlace_51 : decode cX1_tellPlace 51 = .ok (.ireturn, 1) := by decide +kernel
theorem dX1_tellPlace_52 : decode cX1_tellPlace 52 = .ok (.aload_n 0, 1) := by decide +kernel
theorem dX1_tellPlace_53 : decode cX1_tellPlace 53 = .ok (.iload_n 1, 1) := by decide +kernel
theorem dX1_tellPlace_54 : decode cX1_tellPlace 54 = .ok (.invokevirtual 187, 3) := by decide +kernel
theorem dX1_tellPlace_57 : decode cX1_tellPlace 57 = .ok (.ireturn, 1) := by decide +kernel
theorem dX1_tellPlace_58 : decode cX1_tellPlace 58 = .ok (.aload_n 0, 1) := by decide +kernel
theorem dX1_tellPlace_59 : decode cX1_tellPlace 59 = .ok (.iload_n 1, 1) := by decide +kernel
theorem dX1_tellPlace_60 : decode cX1_tellPlace 60 = .ok (.invokevirtual 190, 3) := by decide +kernel
theorem dX1_tellPlace_63 : decode cX1_tellPlace 63 = .ok (.ireturn, 1) := by decide +kernel
theorem dX1_tally_0 : decode cX1_tally 0 = .ok (.iload_n 1, 1) := by decide +kernel
theorem dX1_tally_1 : decode cX1_tally 1 = .ok (.tableswitch 108 0 9 #[55, 60, 65, 70, 75, 81, 87, 93, 98, 103], 55) := by decide +kernel
theorem dX1_tally_56 : decode cX1_tally 56 = .ok (.aload_n 0, 1) := by decide +kernel
theorem dX1_tally_57 : decode cX1_tally 57 = .ok (.getfield 71, 3) := by decide +kernel
theorem dX1_tally_60 : decode cX1_tally 60 = .ok (.ireturn, 1) := by decide +kernel
theorem dX1_tally_61 : decode cX1_tally 61 = .ok (.aload_n 0, 1) := by decide +kernel
theorem dX1_tally_62 : decode cX1_tally 62 = .ok (.getfield 51, 3) := by decide +kernel
theorem dX1_tally_65 : decode cX1_tally 65 = .ok (.ireturn, 1) := by decide +kernel
theorem dX1_tally_66 : decode cX1_tally 66 = .ok (.aload_n 0, 1) := by decide +kernel
theorem dX1_tally_67 : decode cX1_tally 67 = .ok (.getfield 55, 3) := by decide +kernel
theorem dX1_tally_70 : decode cX1_tally 70 = .ok (.ireturn, 1) := by decide +kernel
theorem dX1_tally_71 : decode cX1_tally 71 = .ok (.aload_n 0, 1) := by decide +kernel
theorem dX1_tally_72 : decode cX1_tally 72 = .ok (.getfield 58, 3) := by decide +kernel
theorem dX1_tally_75 : decode cX1_tally 75 = .ok (.ireturn, 1) := by decide +kernel
theorem dX1_tally_76 : decode cX1_tally 76 = .ok (.aload_n 0, 1) := by decide +kernel
theorem dX1_tally_77 : decode cX1_tally 77 = .ok (.iconst 0, 1) := by decide +kernel
theorem dX1_tally_78 : decode cX1_tally 78 = .ok (.invokevirtual 193, 3) := by decide +kernel
theorem dX1_tally_81 : decode cX1_tally 81 = .ok (.ireturn, 1) := by decide +kernel
theorem dX1_tally_82 : decode cX1_tally 82 = .ok (.aload_n 0, 1) := by decide +kernel
theorem dX1_tally_83 : decode cX1_tally 83 = .ok (.iconst 1, 1) := by decide +kernel
theorem dX1_tally_84 : decode cX1_tally 84 = .ok (.invokevirtual 193, 3) := by decide +kernel
theorem dX1_tally_87 : decode cX1_tally 87 = .ok (.ireturn, 1) := by decide +kernel
theorem dX1_tally_88 : decode cX1_tally 88 = .ok (.aload_n 0, 1) := by decide +kernel
theorem dX1_tally_89 : decode cX1_tally 89 = .ok (.iconst 2, 1) := by decide +kernel
theorem dX1_tally_90 : decode cX1_tally 90 = .ok (.invokevirtual 193, 3) := by decide +kernel
theorem dX1_tally_93 : decode cX1_tally 93 = .ok (.ireturn, 1) := by decide +kernel
theorem dX1_tally_94 : decode cX1_tally 94 = .ok (.aload_n 0, 1) := by decide +kernel
theorem dX1_tally_95 : decode cX1_tally 95 = .ok (.invokevirtual 196, 3) := by decide +kernel
theorem dX1_tally_98 : decode cX1_tally 98 = .ok (.ireturn, 1) := by decide +kernel
theorem dX1_tally_99 : decode cX1_tally 99 = .ok (.aload_n 0, 1) := by decide +kernel
theorem dX1_tally_100 : decode cX1_tally 100 = .ok (.getfield 74, 3) := by decide +kernel
theorem dX1_tally_103 : decode cX1_tally 103 = .ok (.ireturn, 1) := by decide +kernel
theorem dX1_tally_104 : decode cX1_tally 104 = .ok (.aload_n 0, 1) := by decide +kernel
theorem dX1_tally_105 : decode cX1_tally 105 = .ok (.getfield 77, 3) := by decide +kernel
theorem dX1_tally_108 : decode cX1_tally 108 = .ok (.ireturn, 1) := by decide +kernel
theorem dX1_tally_109 : decode cX1_tally 109 = .ok (.aload_n 0, 1) := by decide +kernel
theorem dX1_tally_110 : decode cX1_tally 110 = .ok (.invokevirtual 199, 3) := by decide +kernel
theorem dX1_tally_113 : decode cX1_tally 113 = .ok (.ireturn, 1) := by decide +kernel
theorem dX2_init_0 : decode cX2_init 0 = .ok (.aload_n 0, 1) := by decide +kernel
theorem dX2_init_1 : decode cX2_init 1 = .ok (.invokespecial 3, 3) := by decide +kernel
theorem dX2_init_4 : decode cX2_init 4 = .ok (.aload_n 0, 1) := by decide +kernel
theorem dX2_init_5 : decode cX2_init 5 = .ok (.bipush 10, 2) := by decide +kernel
theorem dX2_init_7 : decode cX2_init 7 = .ok (.newarray .int, 2) := by decide +kernel
theorem dX2_init_9 : decode cX2_init 9 = .ok (.putfield 9, 3) := by decide +kernel
theorem dX2_init_12 : decode cX2_init 12 = .ok (.return_, 1) := by decide +kernel
theorem dX2_copyFrom_0 : decode cX2_copyFrom 0 = .ok (.aload_n 1, 1) := by decide +kernel
theorem dX2_copyFrom_1 : decode cX2_copyFrom 1 = .ok (.getfield 9, 3) := by decide +kernel
theorem dX2_copyFrom_4 : decode cX2_copyFrom 4 = .ok (.iconst 0, 1) := by decide +kernel
theorem dX2_copyFrom_5 : decode cX2_copyFrom 5 = .ok (.aload_n 0, 1) := by decide +kernel
theorem dX2_copyFrom_6 : decode cX2_copyFrom 6 = .ok (.getfield 9, 3) := by decide +kernel
theorem dX2_copyFrom_9 : decode cX2_copyFrom 9 = .ok (.iconst 0, 1) := by decide +kernel
theorem dX2_copyFrom_10 : decode cX2_copyFrom 10 = .ok (.bipush 10, 2) := by decide +kernel
theorem dX2_copyFrom_12 : decode cX2_copyFrom 12 = .ok (.invokestatic 15, 3) := by decide +kernel
theorem dX2_copyFrom_15 : decode cX2_copyFrom 15 = .ok (.aload_n 0, 1) := by decide +kernel
theorem dX2_copyFrom_16 : decode cX2_copyFrom 16 = .ok (.aload_n 1, 1) := by decide +kernel
theorem dX2_copyFrom_17 : decode cX2_copyFrom 17 = .ok (.getfield 21, 3) := by decide +kernel
theorem dX2_copyFrom_20 : decode cX2_copyFrom 20 = .ok (.putfield 21, 3) := by decide +kernel
theorem dX2_copyFrom_23 : decode cX2_copyFrom 23 = .ok (.aload_n 0, 1) := by decide +kernel
theorem dX2_copyFrom_24 : decode cX2_copyFrom 24 = .ok (.aload_n 1, 1) := by decide +kernel
theorem dX2_copyFrom_25 : decode cX2_copyFrom 25 = .ok (.getfield 25, 3) := by decide +kernel
theorem dX2_copyFrom_28 : decode cX2_copyFrom 28 = .ok (.putfield 25, 3) := by decide +kernel
theorem dX2_copyFrom_31 : decode cX2_copyFrom 31 = .ok (.return_, 1) := by decide +kernel
theorem dX3_init_0 : decode cX3_init 0 = .ok (.aload_n 0, 1) := by decide +kernel
theorem dX3_init_1 : decode cX3_init 1 = .ok (.invokespecial 1, 3) := by decide +kernel
theorem dX3_init_4 : decode cX3_init 4 = .ok (.return_, 1) := by decide +kernel
theorem dX3_begin_0 : decode cX3_begin 0 = .ok (.aload_n 0, 1) := by decide +kernel
theorem dX3_begin_1 : decode cX3_begin 1 = .ok (.iload_n 1, 1) := by decide +kernel
theorem dX3_begin_2 : decode cX3_begin 2 = .ok (.putfield 7, 3) := by decide +kernel
theorem dX3_begin_5 : decode cX3_begin 5 = .ok (.aload_n 0, 1) := by decide +kernel
theorem dX3_begin_6 : decode cX3_begin 6 = .ok (.iload_n 2, 1) := by decide +kernel
theorem dX3_begin_7 : decode cX3_begin 7 = .ok (.putfield 13, 3) := by decide +kernel
theorem dX3_begin_10 : decode cX3_begin 10 = .ok (.aload_n 0, 1) := by decide +kernel
theorem dX3_begin_11 : decode cX3_begin 11 = .ok (.iload_n 3, 1) := by decide +kernel
theorem dX3_begin_12 : decode cX3_begin 12 = .ok (.putfield 16, 3) := by decide +kernel
theorem dX3_begin_15 : decode cX3_begin 15 = .ok (.aload_n 0, 1) := by decide +kernel
theorem dX3_begin_16 : decode cX3_begin 16 = .ok (.iload_n 1, 1) := by decide +kernel
theorem dX3_begin_17 : decode cX3_begin 17 = .ok (.putfield 19, 3) := by decide +kernel
theorem dX3_begin_20 : decode cX3_begin 20 = .ok (.aload_n 0, 1) := by decide +kernel
theorem dX3_begin_21 : decode cX3_begin 21 = .ok (.iconst 1, 1) := by decide +kernel
theorem dX3_begin_22 : decode cX3_begin 22 = .ok (.putfield 22, 3) := by decide +kernel
theorem dX3_begin_25 : decode cX3_begin 25 = .ok (.aload_n 0, 1) := by decide +kernel
theorem dX3_begin_26 : decode cX3_begin 26 = .ok (.iconst 0, 1) := by decide +kernel
theorem dX3_begin_27 : decode cX3_begin 27 = .ok (.putfield 25, 3) := by decide +kernel
theorem dX3_begin_30 : decode cX3_begin 30 = .ok (.return_, 1) := by decide +kernel
theorem dX3_copyFrom_0 : decode cX3_copyFrom 0 = .ok (.aload_n 0, 1) := by decide +kernel
theorem dX3_copyFrom_1 : decode cX3_copyFrom 1 = .ok (.aload_n 1, 1) := by decide +kernel
theorem dX3_copyFrom_2 : decode cX3_copyFrom 2 = .ok (.getfield 7, 3) := by decide +kernel
theorem dX3_copyFrom_5 : decode cX3_copyFrom 5 = .ok (.putfield 7, 3) := by decide +kernel
theorem dX3_copyFrom_8 : decode cX3_copyFrom 8 = .ok (.aload_n 0, 1) := by decide +kernel
theorem dX3_copyFrom_9 : decode cX3_copyFrom 9 = .ok (.aload_n 1, 1) := by decide +kernel
theorem dX3_copyFrom_10 : decode cX3_copyFrom 10 = .ok (.getfield 13, 3) := by decide +kernel
theorem dX3_copyFrom_13 : decode cX3_copyFrom 13 = .ok (.putfield 13, 3) := by decide +kernel
theorem dX3_copyFrom_16 : decode cX3_copyFrom 16 = .ok (.aload_n 0, 1) := by decide +kernel
theorem dX3_copyFrom_17 : decode cX3_copyFrom 17 = .ok (.aload_n 1, 1) := by decide +kernel
theorem dX3_copyFrom_18 : decode cX3_copyFrom 18 = .ok (.getfield 16, 3) := by decide +kernel
theorem dX3_copyFrom_21 : decode cX3_copyFrom 21 = .ok (.putfield 16, 3) := by decide +kernel
theorem dX3_copyFrom_24 : decode cX3_copyFrom 24 = .ok (.aload_n 0, 1) := by decide +kernel
theorem dX3_copyFrom_25 : decode cX3_copyFrom 25 = .ok (.aload_n 1, 1) := by decide +kernel
theorem dX3_copyFrom_26 : decode cX3_copyFrom 26 = .ok (.getfield 19, 3) := by decide +kernel
theorem dX3_copyFrom_29 : decode cX3_copyFrom 29 = .ok (.putfield 19, 3) := by decide +kernel
theorem dX3_copyFrom_32 : decode cX3_copyFrom 32 = .ok (.aload_n 0, 1) := by decide +kernel
theorem dX3_copyFrom_33 : decode cX3_copyFrom 33 = .ok (.aload_n 1, 1) := by decide +kernel
theorem dX3_copyFrom_34 : decode cX3_copyFrom 34 = .ok (.getfield 22, 3) := by decide +kernel
theorem dX3_copyFrom_37 : decode cX3_copyFrom 37 = .ok (.putfield 22, 3) := by decide +kernel
theorem dX3_copyFrom_40 : decode cX3_copyFrom 40 = .ok (.aload_n 0, 1) := by decide +kernel
theorem dX3_copyFrom_41 : decode cX3_copyFrom 41 = .ok (.aload_n 1, 1) := by decide +kernel
theorem dX3_copyFrom_42 : decode cX3_copyFrom 42 = .ok (.getfield 25, 3) := by decide +kernel
theorem dX3_copyFrom_45 : decode cX3_copyFrom 45 = .ok (.putfield 25, 3) := by decide +kernel
theorem dX3_copyFrom_48 : decode cX3_copyFrom 48 = .ok (.return_, 1) := by decide +kernel
theorem dX3_sightOfPlaces_0 : decode cX3_sightOfPlaces 0 = .ok (.aload_n 0, 1) := by decide +kernel
theorem dX3_sightOfPlaces_1 : decode cX3_sightOfPlaces 1 = .ok (.getfield 16, 3) := by decide +kernel
theorem dX3_sightOfPlaces_4 : decode cX3_sightOfPlaces 4 = .ok (.iload_n 1, 1) := by decide +kernel
theorem dX3_sightOfPlaces_5 : decode cX3_sightOfPlaces 5 = .ok (.iconst 2, 1) := by decide +kernel
theorem dX3_sightOfPlaces_6 : decode cX3_sightOfPlaces 6 = .ok (.idiv, 1) := by decide +kernel
theorem dX3_sightOfPlaces_7 : decode cX3_sightOfPlaces 7 = .ok (.iadd, 1) := by decide +kernel
theorem dX3_sightOfPlaces_8 : decode cX3_sightOfPlaces 8 = .ok (.ireturn, 1) := by decide +kernel
theorem dX3_sightOfLanterns_0 : decode cX3_sightOfLanterns 0 = .ok (.iconst 2, 1) := by decide +kernel
theorem dX3_sightOfLanterns_1 : decode cX3_sightOfLanterns 1 = .ok (.aload_n 0, 1) := by decide +kernel
theorem dX3_sightOfLanterns_2 : decode cX3_sightOfLanterns 2 = .ok (.getfield 16, 3) := by decide +kernel
theorem dX3_sightOfLanterns_5 : decode cX3_sightOfLanterns 5 = .ok (.imul, 1) := by decide +kernel
theorem dX3_sightOfLanterns_6 : decode cX3_sightOfLanterns 6 = .ok (.bipush 6, 2) := by decide +kernel
theorem dX3_sightOfLanterns_8 : decode cX3_sightOfLanterns 8 = .ok (.iadd, 1) := by decide +kernel
theorem dX3_sightOfLanterns_9 : decode cX3_sightOfLanterns 9 = .ok (.iload_n 1, 1) := by decide +kernel
theorem dX3_sightOfLanterns_10 : decode cX3_sightOfLanterns 10 = .ok (.isub, 1) := by decide +kernel
theorem dX3_sightOfLanterns_11 : decode cX3_sightOfLanterns 11 = .ok (.ireturn, 1) := by decide +kernel
theorem dX3_walk_0 : decode cX3_walk 0 = .ok (.aload_n 0, 1) := by decide +kernel
theorem dX3_walk_1 : decode cX3_walk 1 = .ok (.getfield 7, 3) := by decide +kernel
theorem dX3_walk_4 : decode cX3_walk 4 = .ok (.aload_n 0, 1) := by decide +kernel
theorem dX3_walk_5 : decode cX3_walk 5 = .ok (.getfield 13, 3) := by decide +kernel
theorem dX3_walk_8 : decode cX3_walk 8 = .ok (.if_icmp .ne 4, 3) := by decide +kernel
theorem dX3_walk_11 : decode cX3_walk 11 = .ok (.return_, 1) := by decide +kernel
theorem dX3_walk_12 : decode cX3_walk 12 = .ok (.aload_n 0, 1) := by decide +kernel
theorem dX3_walk_13 : decode cX3_walk 13 = .ok (.getfield 22, 3) := by decide +kernel
theorem dX3_walk_16 : decode cX3_walk 16 = .ok (.ifCond .le 14, 3) := by decide +kernel
theorem dX3_walk_19 : decode cX3_walk 19 = .ok (.aload_n 0, 1) := by decide +kernel
theorem dX3_walk_20 : decode cX3_walk 20 = .ok (.getfield 19, 3) := by decide +kernel
theorem dX3_walk_23 : decode cX3_walk 23 = .ok (.aload_n 0, 1) := by decide +kernel
theorem dX3_walk_24 : decode cX3_walk 24 = .ok (.getfield 13, 3) := by decide +kernel
theorem dX3_walk_27 : decode cX3_walk 27 = .ok (.if_icmp .eq 21, 3) := by decide +kernel
theorem dX3_walk_30 : decode cX3_walk 30 = .ok (.aload_n 0, 1) := by decide +kernel
theorem dX3_walk_31 : decode cX3_walk 31 = .ok (.getfield 22, 3) := by decide +kernel
theorem dX3_walk_34 : decode cX3_walk 34 = .ok (.ifCond .ge 23, 3) := by decide +kernel
theorem dX3_walk_37 : decode cX3_walk 37 = .ok (.aload_n 0, 1) := by decide +kernel
theorem dX3_walk_38 : decode cX3_walk 38 = .ok (.getfield 19, 3) := by decide +kernel
theorem dX3_walk_41 : decode cX3_walk 41 = .ok (.aload_n 0, 1) := by decide +kernel
theorem dX3_walk_42 : decode cX3_walk 42 = .ok (.getfield 7, 3) := by decide +kernel
theorem dX3_walk_45 : decode cX3_walk 45 = .ok (.if_icmp .ne 12, 3) := by decide +kernel
theorem dX3_walk_48 : decode cX3_walk 48 = .ok (.aload_n 0, 1) := by decide +kernel
theorem dX3_walk_49 : decode cX3_walk 49 = .ok (.aload_n 0, 1) := by decide +kernel
theorem dX3_walk_50 : decode cX3_walk 50 = .ok (.getfield 22, 3) := by decide +kernel
theorem dX3_walk_53 : decode cX3_walk 53 = .ok (.ineg, 1) := by decide +kernel
theorem dX3_walk_54 : decode cX3_walk 54 = .ok (.putfield 22, 3) := by decide +kernel
theorem dX3_walk_57 : decode cX3_walk 57 = .ok (.aload_n 0, 1) := by decide +kernel
theorem dX3_walk_58 : decode cX3_walk 58 = .ok (.dup, 1) := by decide +kernel
theorem dX3_walk_59 : decode cX3_walk 59 = .ok (.getfield 19, 3) := by decide +kernel
theorem dX3_walk_62 : decode cX3_walk 62 = .ok (.aload_n 0, 1) := by decide +kernel
theorem dX3_walk_63 : decode cX3_walk 63 = .ok (.getfield 22, 3) := by decide +kernel
theorem dX3_walk_66 : decode cX3_walk 66 = .ok (.iadd, 1) := by decide +kernel
theorem dX3_walk_67 : decode cX3_walk 67 = .ok (.putfield 19, 3) := by decide +kernel
theorem dX3_walk_70 : decode cX3_walk 70 = .ok (.return_, 1) := by decide +kernel
theorem dX3_tell_0 : decode cX3_tell 0 = .ok (.iload_n 1, 1) := by decide +kernel
theorem dX3_tell_1 : decode cX3_tell 1 = .ok (.tableswitch 53 0 3 #[31, 36, 41, 47], 31) := by decide +kernel
theorem dX3_tell_32 : decode cX3_tell 32 = .ok (.aload_n 0, 1) := by decide +kernel
theorem dX3_tell_33 : decode cX3_tell 33 = .ok (.getfield 19, 3) := by decide +kernel
theorem dX3_tell_36 : decode cX3_tell 36 = .ok (.ireturn, 1) := by decide +kernel
theorem dX3_tell_37 : decode cX3_tell 37 = .ok (.aload_n 0, 1) := by decide +kernel
theorem dX3_tell_38 : decode cX3_tell 38 = .ok (.getfield 22, 3) := by decide +kernel
theorem dX3_tell_41 : decode cX3_tell 41 = .ok (.ireturn, 1) := by decide +kernel
theorem dX3_tell_42 : decode cX3_tell 42 = .ok (.aload_n 0, 1) := by decide +kernel
theorem dX3_tell_43 : decode cX3_tell 43 = .ok (.iload_n 2, 1) := by decide +kernel
theorem dX3_tell_44 : decode cX3_tell 44 = .ok (.invokevirtual 28, 3) := by decide +kernel
theorem dX3_tell_47 : decode cX3_tell 47 = .ok (.ireturn, 1) := by decide +kernel
theorem dX3_tell_48 : decode cX3_tell 48 = .ok (.aload_n 0, 1) := by decide +kernel
theorem dX3_tell_49 : decode cX3_tell 49 = .ok (.iload_n 2, 1) := by decide +kernel
theorem dX3_tell_50 : decode cX3_tell 50 = .ok (.invokevirtual 32, 3) := by decide +kernel
theorem dX3_tell_53 : decode cX3_tell 53 = .ok (.ireturn, 1) := by decide +kernel
theorem dX3_tell_54 : decode cX3_tell 54 = .ok (.aload_n 0, 1) := by decide +kernel
theorem dX3_tell_55 : decode cX3_tell 55 = .ok (.getfield 25, 3) := by decide +kernel
theorem dX3_tell_58 : decode cX3_tell 58 = .ok (.ireturn, 1) := by decide +kernel
theorem dX4_init_0 : decode cX4_init 0 = .ok (.aload_n 0, 1) := by decide +kernel
theorem dX4_init_1 : decode cX4_init 1 = .ok (.invokespecial 1, 3) := by decide +kernel
theorem dX4_init_4 : decode cX4_init 4 = .ok (.aload_n 0, 1) := by decide +kernel
theorem dX4_init_5 : decode cX4_init 5 = .ok (.new 7, 3) := by decide +kernel
theorem dX4_init_8 : decode cX4_init 8 = .ok (.dup, 1) := by decide +kernel
theorem dX4_init_9 : decode cX4_init 9 = .ok (.invokespecial 9, 3) := by decide +kernel
theorem dX4_init_12 : decode cX4_init 12 = .ok (.putfield 10, 3) := by decide +kernel
theorem dX4_init_15 : decode cX4_init 15 = .ok (.aload_n 0, 1) := by decide +kernel
theorem dX4_init_16 : decode cX4_init 16 = .ok (.new 7, 3) := by decide +kernel
theorem dX4_init_19 : decode cX4_init 19 = .ok (.dup, 1) := by decide +kernel
theorem dX4_init_20 : decode cX4_init 20 = .ok (.invokespecial 9, 3) := by decide +kernel
theorem dX4_init_23 : decode cX4_init 23 = .ok (.putfield 16, 3) := by decide +kernel
theorem dX4_init_26 : decode cX4_init 26 = .ok (.return_, 1) := by decide +kernel
theorem dX4_setRoom_0 : decode cX4_setRoom 0 = .ok (.iload_n 1, 1) := by decide +kernel
theorem dX4_setRoom_1 : decode cX4_setRoom 1 = .ok (.invokestatic 19, 3) := by decide +kernel
theorem dX4_setRoom_4 : decode cX4_setRoom 4 = .ok (.iload_n 2, 1) := by decide +kernel
theorem dX4_setRoom_5 : decode cX4_setRoom 5 = .ok (.ifCond .lt 9, 3) := by decide +kernel
theorem dX4_setRoom_8 : decode cX4_setRoom 8 = .ok (.iload_n 2, 1) := by decide +kernel
theorem dX4_setRoom_9 : decode cX4_setRoom 9 = .ok (.bipush 30, 2) := by decide +kernel
theorem dX4_setRoom_11 : decode cX4_setRoom 11 = .ok (.if_icmp .le 13, 3) := by decide +kernel
theorem dX4_setRoom_14 : decode cX4_setRoom 14 = .ok (.new 23, 3) := by decide +kernel
theorem dX4_setRoom_17 : decode cX4_setRoom 17 = .ok (.dup, 1) := by decide +kernel
theorem dX4_setRoom_18 : decode cX4_setRoom 18 = .ok (.ldc 25, 2) := by decide +kernel
theorem dX4_setRoom_20 : decode cX4_setRoom 20 = .ok (.invokespecial 27, 3) := by decide +kernel
theorem dX4_setRoom_23 : decode cX4_setRoom 23 = .ok (.athrow, 1) := by decide +kernel
theorem dX4_setRoom_24 : decode cX4_setRoom 24 = .ok (.aload_n 0, 1) := by decide +kernel
theorem dX4_setRoom_25 : decode cX4_setRoom 25 = .ok (.getfield 10, 3) := by decide +kernel
theorem dX4_setRoom_28 : decode cX4_setRoom 28 = .ok (.getfield 30, 3) := by decide +kernel
theorem dX4_setRoom_31 : decode cX4_setRoom 31 = .ok (.iload_n 1, 1) := by decide +kernel
theorem dX4_setRoom_32 : decode cX4_setRoom 32 = .ok (.iaload, 1) := by decide +kernel
theorem dX4_setRoom_33 : decode cX4_setRoom 33 = .ok (.iload_n 2, 1) := by decide +kernel
theorem dX4_setRoom_34 : decode cX4_setRoom 34 = .ok (.if_icmp .le 13, 3) := by decide +kernel
theorem dX4_setRoom_37 : decode cX4_setRoom 37 = .ok (.new 34, 3) := by decide +kernel
theorem dX4_setRoom_40 : decode cX4_setRoom 40 = .ok (.dup, 1) := by decide +kernel
theorem dX4_setRoom_41 : decode cX4_setRoom 41 = .ok (.ldc 36, 2) := by decide +kernel
theorem dX4_setRoom_43 : decode cX4_setRoom 43 = .ok (.invokespecial 38, 3) := by decide +kernel
theorem dX4_setRoom_46 : decode cX4_setRoom 46 = .ok (.athrow, 1) := by decide +kernel
theorem dX4_setRoom_47 : decode cX4_setRoom 47 = .ok (.aload_n 0, 1) := by decide +kernel
theorem dX4_setRoom_48 : decode cX4_setRoom 48 = .ok (.getfield 10, 3) := by decide +kernel
theorem dX4_setRoom_51 : decode cX4_setRoom 51 = .ok (.getfield 39, 3) := by decide +kernel
theorem dX4_setRoom_54 : decode cX4_setRoom 54 = .ok (.iload_n 1, 1) := by decide +kernel
theorem dX4_setRoom_55 : decode cX4_setRoom 55 = .ok (.iaload, 1) := by decide +kernel
theorem dX4_setRoom_56 : decode cX4_setRoom 56 = .ok (.istore_n 3, 1) := by decide +kernel
theorem dX4_setRoom_57 : decode cX4_setRoom 57 = .ok (.aload_n 0, 1) := by decide +kernel
theorem dX4_setRoom_58 : decode cX4_setRoom 58 = .ok (.getfield 10, 3) := by decide +kernel
theorem dX4_setRoom_61 : decode cX4_setRoom 61 = .ok (.getfield 39, 3) := by decide +kernel
theorem dX4_setRoom_64 : decode cX4_setRoom 64 = .ok (.iload_n 1, 1) := by decide +kernel
theorem dX4_setRoom_65 : decode cX4_setRoom 65 = .ok (.iload_n 2, 1) := by decide +kernel
theorem dX4_setRoom_66 : decode cX4_setRoom 66 = .ok (.iastore, 1) := by decide +kernel
theorem dX4_setRoom_67 : decode cX4_setRoom 67 = .ok (.iload_n 3, 1) := by decide +kernel
theorem dX4_setRoom_68 : decode cX4_setRoom 68 = .ok (.ireturn, 1) := by decide +kernel
theorem dX4_setCode_0 : decode cX4_setCode 0 = .ok (.iload_n 1, 1) := by decide +kernel
theorem dX4_setCode_1 : decode cX4_setCode 1 = .ok (.invokestatic 42, 3) := by decide +kernel
theorem dX4_setCode_4 : decode cX4_setCode 4 = .ok (.iload_n 2, 1) := by decide +kernel
theorem dX4_setCode_5 : decode cX4_setCode 5 = .ok (.invokestatic 45, 3) := by decide +kernel
theorem dX4_setCode_8 : decode cX4_setCode 8 = .ok (.aload_n 0, 1) := by decide +kernel
theorem dX4_setCode_9 : decode cX4_setCode 9 = .ok (.getfield 10, 3) := by decide +kernel
theorem dX4_setCode_12 : decode cX4_setCode 12 = .ok (.getfield 48, 3) := by decide +kernel
theorem dX4_setCode_15 : decode cX4_setCode 15 = .ok (.iload_n 1, 1) := by decide +kernel
theorem dX4_setCode_16 : decode cX4_setCode 16 = .ok (.iaload, 1) := by decide +kernel
theorem dX4_setCode_17 : decode cX4_setCode 17 = .ok (.istore_n 3, 1) := by decide +kernel
theorem dX4_setCode_18 : decode cX4_setCode 18 = .ok (.aload_n 0, 1) := by decide +kernel
theorem dX4_setCode_19 : decode cX4_setCode 19 = .ok (.getfield 10, 3) := by decide +kernel
theorem dX4_setCode_22 : decode cX4_setCode 22 = .ok (.getfield 48, 3) := by decide +kernel
theorem dX4_setCode_25 : decode cX4_setCode 25 = .ok (.iload_n 1, 1) := by decide +kernel
theorem dX4_setCode_26 : decode cX4_setCode 26 = .ok (.iload_n 2, 1) := by decide +kernel
theorem dX4_setCode_27 : decode cX4_setCode 27 = .ok (.iastore, 1) := by decide +kernel
theorem dX4_setCode_28 : decode cX4_setCode 28 = .ok (.aload_n 0, 1) := by decide +kernel
theorem dX4_setCode_29 : decode cX4_setCode 29 = .ok (.getfield 10, 3) := by decide +kernel
theorem dX4_setCode_32 : decode cX4_setCode 32 = .ok (.getfield 51, 3) := by decide +kernel
theorem dX4_setCode_35 : decode cX4_setCode 35 = .ok (.iload_n 1, 1) := by decide +kernel
theorem dX4_setCode_36 : decode cX4_setCode 36 = .ok (.iconst 0, 1) := by decide +kernel
theorem dX4_setCode_37 : decode cX4_setCode 37 = .ok (.iastore, 1) := by decide +kernel
theorem dX4_setCode_38 : decode cX4_setCode 38 = .ok (.iload_n 3, 1) := by decide +kernel
theorem dX4_setCode_39 : decode cX4_setCode 39 = .ok (.ireturn, 1) := by decide +kernel
theorem dX4_lantern_0 : decode cX4_lantern 0 = .ok (.iload_n 1, 1) := by decide +kernel
theorem dX4_lantern_1 : decode cX4_lantern 1 = .ok (.invokestatic 19, 3) := by decide +kernel
theorem dX4_lantern_4 : decode cX4_lantern 4 = .ok (.aload_n 0, 1) := by decide +kernel
theorem dX4_lantern_5 : decode cX4_lantern 5 = .ok (.getfield 10, 3) := by decide +kernel
theorem dX4_lantern_8 : decode cX4_lantern 8 = .ok (.getfield 54, 3) := by decide +kernel
theorem dX4_lantern_11 : decode cX4_lantern 11 = .ok (.iconst 5, 1) := by decide +kernel
theorem dX4_lantern_12 : decode cX4_lantern 12 = .ok (.if_icmp .lt 13, 3) := by decide +kernel
theorem dX4_lantern_15 : decode cX4_lantern 15 = .ok (.new 34, 3) := by decide +kernel
theorem dX4_lantern_18 : decode cX4_lantern 18 = .ok (.dup, 1) := by decide +kernel
theorem dX4_lantern_19 : decode cX4_lantern 19 = .ok (.ldc 58, 2) := by decide +kernel
theorem dX4_lantern_21 : decode cX4_lantern 21 = .ok (.invokespecial 38, 3) := by decide +kernel
theorem dX4_lantern_24 : decode cX4_lantern 24 = .ok (.athrow, 1) := by decide +kernel
theorem dX4_lantern_25 : decode cX4_lantern 25 = .ok (.aload_n 0, 1) := by decide +kernel
theorem dX4_lantern_26 : decode cX4_lantern 26 = .ok (.getfield 10, 3) := by decide +kernel
theorem dX4_lantern_29 : decode cX4_lantern 29 = .ok (.iload_n 1, 1) := by decide +kernel
theorem dX4_lantern_30 : decode cX4_lantern 30 = .ok (.invokevirtual 60, 3) := by decide +kernel
theorem dX4_lantern_33 : decode cX4_lantern 33 = .ok (.ifCond .eq 13, 3) := by decide +kernel
theorem dX4_lantern_36 : decode cX4_lantern 36 = .ok (.new 34, 3) := by decide +kernel
theorem dX4_lantern_39 : decode cX4_lantern 39 = .ok (.dup, 1) := by decide +kernel
theorem dX4_lantern_40 : decode cX4_lantern 40 = .ok (.ldc 64, 2) := by decide +kernel
theorem dX4_lantern_42 : decode cX4_lantern 42 = .ok (.invokespecial 38, 3) := by decide +kernel
theorem dX4_lantern_45 : decode cX4_lantern 45 = .ok (.athrow, 1) := by decide +kernel
theorem dX4_lantern_46 : decode cX4_lantern 46 = .ok (.aload_n 0, 1) := by decide +kernel
theorem dX4_lantern_47 : decode cX4_lantern 47 = .ok (.getfield 10, 3) := by decide +kernel
theorem dX4_lantern_50 : decode cX4_lantern 50 = .ok (.getfield 54, 3) := by decide +kernel
theorem dX4_lantern_53 : decode cX4_lantern 53 = .ok (.istore_n 2, 1) := by decide +kernel
theorem dX4_lantern_54 : decode cX4_lantern 54 = .ok (.aload_n 0, 1) := by decide +kernel
theorem dX4_lantern_55 : decode cX4_lantern 55 = .ok (.getfield 10, 3) := by decide +kernel
theorem dX4_lantern_58 : decode cX4_lantern 58 = .ok (.getfield 66, 3) := by decide +kernel
theorem dX4_lantern_61 : decode cX4_lantern 61 = .ok (.iload_n 2, 1) := by decide +kernel
theorem dX4_lantern_62 : decode cX4_lantern 62 = .ok (.aaload, 1) := by decide +kernel
theorem dX4_lantern_63 : decode cX4_lantern 63 = .ok (.iload_n 1, 1) := by decide +kernel
theorem dX4_lantern_64 : decode cX4_lantern 64 = .ok (.putfield 70, 3) := by decide +kernel
theorem dX4_lantern_67 : decode cX4_lantern 67 = .ok (.aload_n 0, 1) := by decide +kernel
theorem dX4_lantern_68 : decode cX4_lantern 68 = .ok (.getfield 10, 3) := by decide +kernel
theorem dX4_lantern_71 : decode cX4_lantern 71 = .ok (.iload_n 2, 1) := by decide +kernel
theorem dX4_lantern_72 : decode cX4_lantern 72 = .ok (.iconst 1, 1) := by decide +kernel
theorem dX4_lantern_73 : decode cX4_lantern 73 = .ok (.iadd, 1) := by decide +kernel
theorem dX4_lantern_74 : decode cX4_lantern 74 = .ok (.putfield 54, 3) := by decide +kernel
theorem dX4_lantern_77 : decode cX4_lantern 77 = .ok (.iload_n 2, 1) := by decide +kernel
theorem dX4_lantern_78 : decode cX4_lantern 78 = .ok (.ireturn, 1) := by decide +kernel
theorem dX4_setShow_0 : decode cX4_setShow 0 = .ok (.aload_n 0, 1) := by decide +kernel
theorem dX4_setShow_1 : decode cX4_setShow 1 = .ok (.iload_n 1, 1) := by decide +kernel
theorem dX4_setShow_2 : decode cX4_setShow 2 = .ok (.invokevirtual 75, 3) := by decide +kernel
theorem dX4_setShow_5 : decode cX4_setShow 5 = .ok (.iload_n 2, 1) := by decide +kernel
theorem dX4_setShow_6 : decode cX4_setShow 6 = .ok (.ifCond .lt 9, 3) := by decide +kernel
theorem dX4_setShow_9 : decode cX4_setShow 9 = .ok (.iload_n 2, 1) := by decide +kernel
theorem dX4_setShow_10 : decode cX4_setShow 10 = .ok (.bipush 10, 2) := by decide +kernel
theorem dX4_setShow_12 : decode cX4_setShow 12 = .ok (.if_icmp .lt 13, 3) := by decide +kernel
theorem dX4_setShow_15 : decode cX4_setShow 15 = .ok (.new 78, 3) := by decide +kernel
theorem dX4_setShow_18 : decode cX4_setShow 18 = .ok (.dup, 1) := by decide +kernel
theorem dX4_setShow_19 : decode cX4_setShow 19 = .ok (.ldc 80, 2) := by decide +kernel
theorem dX4_setShow_21 : decode cX4_setShow 21 = .ok (.invokespecial 82, 3) := by decide +kernel
theorem dX4_setShow_24 : decode cX4_setShow 24 = .ok (.athrow, 1) := by decide +kernel
theorem dX4_setShow_25 : decode cX4_setShow 25 = .ok (.iload_n 3, 1) := by decide +kernel
theorem dX4_setShow_26 : decode cX4_setShow 26 = .ok (.ifCond .lt 9, 3) := by decide +kernel
theorem dX4_setShow_29 : decode cX4_setShow 29 = .ok (.iload_n 3, 1) := by decide +kernel
theorem dX4_setShow_30 : decode cX4_setShow 30 = .ok (.bipush 7, 2) := by decide +kernel
theorem dX4_setShow_32 : decode cX4_setShow 32 = .ok (.if_icmp .le 13, 3) := by decide +kernel
theorem dX4_setShow_35 : decode cX4_setShow 35 = .ok (.new 23, 3) := by decide +kernel
theorem dX4_setShow_38 : decode cX4_setShow 38 = .ok (.dup, 1) := by decide +kernel
theorem dX4_setShow_39 : decode cX4_setShow 39 = .ok (.ldc 83, 2) := by decide +kernel
theorem dX4_setShow_41 : decode cX4_setShow 41 = .ok (.invokespecial 27, 3) := by decide +kernel
theorem dX4_setShow_44 : decode cX4_setShow 44 = .ok (.athrow, 1) := by decide +kernel
theorem dX4_setShow_45 : decode cX4_setShow 45 = .ok (.aload_n 0, 1) := by decide +kernel
theorem dX4_setShow_46 : decode cX4_setShow 46 = .ok (.getfield 10, 3) := by decide +kernel
theorem dX4_setShow_49 : decode cX4_setShow 49 = .ok (.getfield 66, 3) := by decide +kernel
theorem dX4_setShow_52 : decode cX4_setShow 52 = .ok (.iload_n 1, 1) := by decide +kernel
theorem dX4_setShow_53 : decode cX4_setShow 53 = .ok (.aaload, 1) := by decide +kernel
theorem dX4_setShow_54 : decode cX4_setShow 54 = .ok (.getfield 85, 3) := by decide +kernel
theorem dX4_setShow_57 : decode cX4_setShow 57 = .ok (.astore 4, 2) := by decide +kernel
theorem dX4_setShow_59 : decode cX4_setShow 59 = .ok (.aload 4, 2) := by decide +kernel
theorem dX4_setShow_61 : decode cX4_setShow 61 = .ok (.iload_n 2, 1) := by decide +kernel
theorem dX4_setShow_62 : decode cX4_setShow 62 = .ok (.iaload, 1) := by decide +kernel
theorem dX4_setShow_63 : decode cX4_setShow 63 = .ok (.istore 5, 2) := by decide +kernel
theorem dX4_setShow_65 : decode cX4_setShow 65 = .ok (.aload 4, 2) := by decide +kernel
theorem dX4_setShow_67 : decode cX4_setShow 67 = .ok (.iload_n 2, 1) := by decide +kernel
theorem dX4_setShow_68 : decode cX4_setShow 68 = .ok (.iload_n 3, 1) := by decide +kernel
theorem dX4_setShow_69 : decode cX4_setShow 69 = .ok (.iastore, 1) := by decide +kernel
theorem dX4_setShow_70 : decode cX4_setShow 70 = .ok (.iload 5, 2) := by decide +kernel
theorem dX4_setShow_72 : decode cX4_setShow 72 = .ok (.ireturn, 1) := by decide +kernel
theorem dX4_watchman_0 : decode cX4_watchman 0 = .ok (.iload_n 1, 1) := by decide +kernel
theorem dX4_watchman_1 : decode cX4_watchman 1 = .ok (.invokestatic 19, 3) := by decide +kernel
theorem dX4_watchman_4 : decode cX4_watchman 4 = .ok (.iload_n 2, 1) := by decide +kernel
theorem dX4_watchman_5 : decode cX4_watchman 5 = .ok (.invokestatic 19, 3) := by decide +kernel
theorem dX4_watchman_8 : decode cX4_watchman 8 = .ok (.iload_n 1, 1) := by decide +kernel
theorem dX4_watchman_9 : decode cX4_watchman 9 = .ok (.iload_n 2, 1) := by decide +kernel
theorem dX4_watchman_10 : decode cX4_watchman 10 = .ok (.if_icmp .le 13, 3) := by decide +kernel
theorem dX4_watchman_13 : decode cX4_watchman 13 = .ok (.new 23, 3) := by decide +kernel
theorem dX4_watchman_16 : decode cX4_watchman 16 = .ok (.dup, 1) := by decide +kernel
theorem dX4_watchman_17 : decode cX4_watchman 17 = .ok (.ldc 88, 2) := by decide +kernel
theorem dX4_watchman_19 : decode cX4_watchman 19 = .ok (.invokespecial 27, 3) := by decide +kernel
theorem dX4_watchman_22 : decode cX4_watchman 22 = .ok (.athrow, 1) := by decide +kernel
theorem dX4_watchman_23 : decode cX4_watchman 23 = .ok (.iload_n 3, 1) := by decide +kernel
theorem dX4_watchman_24 : decode cX4_watchman 24 = .ok (.ifCond .lt 8, 3) := by decide +kernel
theorem dX4_watchman_27 : decode cX4_watchman 27 = .ok (.iload_n 3, 1) := by decide +kernel
theorem dX4_watchman_28 : decode cX4_watchman 28 = .ok (.iconst 3, 1) := by decide +kernel
theorem dX4_watchman_29 : decode cX4_watchman 29 = .ok (.if_icmp .le 13, 3) := by decide +kernel
theorem dX4_watchman_32 : decode cX4_watchman 32 = .ok (.new 23, 3) := by decide +kernel
theorem dX4_watchman_35 : decode cX4_watchman 35 = .ok (.dup, 1) := by decide +kernel
theorem dX4_watchman_36 : decode cX4_watchman 36 = .ok (.ldc 90, 2) := by decide +kernel
theorem dX4_watchman_38 : decode cX4_watchman 38 = .ok (.invokespecial 27, 3) := by decide +kernel
theorem dX4_watchman_41 : decode cX4_watchman 41 = .ok (.athrow, 1) := by decide +kernel
theorem dX4_watchman_42 : decode cX4_watchman 42 = .ok (.aload_n 0, 1) := by decide +kernel
theorem dX4_watchman_43 : decode cX4_watchman 43 = .ok (.getfield 10, 3) := by decide +kernel
theorem dX4_watchman_46 : decode cX4_watchman 46 = .ok (.getfield 92, 3) := by decide +kernel
theorem dX4_watchman_49 : decode cX4_watchman 49 = .ok (.iconst 4, 1) := by decide +kernel
theorem dX4_watchman_50 : decode cX4_watchman 50 = .ok (.if_icmp .lt 13, 3) := by decide +kernel
theorem dX4_watchman_53 : decode cX4_watchman 53 = .ok (.new 34, 3) := by decide +kernel
theorem dX4_watchman_56 : decode cX4_watchman 56 = .ok (.dup, 1) := by decide +kernel
theorem dX4_watchman_57 : decode cX4_watchman 57 = .ok (.ldc 95, 2) := by decide +kernel
theorem dX4_watchman_59 : decode cX4_watchman 59 = .ok (.invokespecial 38, 3) := by decide +kernel
theorem dX4_watchman_62 : decode cX4_watchman 62 = .ok (.athrow, 1) := by decide +kernel
theorem dX4_watchman_63 : decode cX4_watchman 63 = .ok (.aload_n 0, 1) := by decide +kernel
theorem dX4_watchman_64 : decode cX4_watchman 64 = .ok (.getfield 10, 3) := by decide +kernel
theorem dX4_watchman_67 : decode cX4_watchman 67 = .ok (.getfield 92, 3) := by decide +kernel
theorem dX4_watchman_70 : decode cX4_watchman 70 = .ok (.istore 4, 2) := by decide +kernel
theorem dX4_watchman_72 : decode cX4_watchman 72 = .ok (.aload_n 0, 1) := by decide +kernel
theorem dX4_watchman_73 : decode cX4_watchman 73 = .ok (.getfield 10, 3) := by decide +kernel
theorem dX4_watchman_76 : decode cX4_watchman 76 = .ok (.getfield 97, 3) := by decide +kernel
theorem dX4_watchman_79 : decode cX4_watchman 79 = .ok (.iload 4, 2) := by decide +kernel
theorem dX4_watchman_81 : decode cX4_watchman 81 = .ok (.aaload, 1) := by decide +kernel
theorem dX4_watchman_82 : decode cX4_watchman 82 = .ok (.iload_n 1, 1) := by decide +kernel
theorem dX4_watchman_83 : decode cX4_watchman 83 = .ok (.iload_n 2, 1) := by decide +kernel
theorem dX4_watchman_84 : decode cX4_watchman 84 = .ok (.iload_n 3, 1) := by decide +kernel
theorem dX4_watchman_85 : decode cX4_watchman 85 = .ok (.invokevirtual 101, 3) := by decide +kernel
theorem dX4_watchman_88 : decode cX4_watchman 88 = .ok (.aload_n 0, 1) := by decide +kernel
theorem dX4_watchman_89 : decode cX4_watchman 89 = .ok (.getfield 10, 3) := by decide +kernel
theorem dX4_watchman_92 : decode cX4_watchman 92 = .ok (.iload 4, 2) := by decide +kernel
theorem dX4_watchman_94 : decode cX4_watchman 94 = .ok (.iconst 1, 1) := by decide +kernel
theorem dX4_watchman_95 : decode cX4_watchman 95 = .ok (.iadd, 1) := by decide +kernel
theorem dX4_watchman_96 : decode cX4_watchman 96 = .ok (.putfield 92, 3) := by decide +kernel
theorem dX4_watchman_99 : decode cX4_watchman 99 = .ok (.iload 4, 2) := by decide +kernel
theorem dX4_watchman_101 : decode cX4_watchman 101 = .ok (.ireturn, 1) := by decide +kernel
theorem dX4_boat_0 : decode cX4_boat 0 = .ok (.iload_n 1, 1) := by decide +kernel
theorem dX4_boat_1 : decode cX4_boat 1 = .ok (.invokestatic 19, 3) := by decide +kernel
theorem dX4_boat_4 : decode cX4_boat 4 = .ok (.iload_n 2, 1) := by decide +kernel
theorem dX4_boat_5 : decode cX4_boat 5 = .ok (.iconst 1, 1) := by decide +kernel
theorem dX4_boat_6 : decode cX4_boat 6 = .ok (.if_icmp .lt 9, 3) := by decide +kernel
theorem dX4_boat_9 : decode cX4_boat 9 = .ok (.iload_n 2, 1) := by decide +kernel
theorem dX4_boat_10 : decode cX4_boat 10 = .ok (.bipush 20, 2) := by decide +kernel
theorem dX4_boat_12 : decode cX4_boat 12 = .ok (.if_icmp .le 13, 3) := by decide +kernel
theorem dX4_boat_15 : decode cX4_boat 15 = .ok (.new 23, 3) := by decide +kernel
theorem dX4_boat_18 : decode cX4_boat 18 = .ok (.dup, 1) := by decide +kernel
theorem dX4_boat_19 : decode cX4_boat 19 = .ok (.ldc 107, 2) := by decide +kernel
theorem dX4_boat_21 : decode cX4_boat 21 = .ok (.invokespecial 27, 3) := by decide +kernel
theorem dX4_boat_24 : decode cX4_boat 24 = .ok (.athrow, 1) := by decide +kernel
theorem dX4_boat_25 : decode cX4_boat 25 = .ok (.aload_n 0, 1) := by decide +kernel
theorem dX4_boat_26 : decode cX4_boat 26 = .ok (.getfield 10, 3) := by decide +kernel
theorem dX4_boat_29 : decode cX4_boat 29 = .ok (.getfield 109, 3) := by decide +kernel
theorem dX4_boat_32 : decode cX4_boat 32 = .ok (.bipush 6, 2) := by decide +kernel
theorem dX4_boat_34 : decode cX4_boat 34 = .ok (.if_icmp .lt 13, 3) := by decide +kernel
theorem dX4_boat_37 : decode cX4_boat 37 = .ok (.new 34, 3) := by decide +kernel
theorem dX4_boat_40 : decode cX4_boat 40 = .ok (.dup, 1) := by decide +kernel
theorem dX4_boat_41 : decode cX4_boat 41 = .ok (.ldc 112, 2) := by decide +kernel
theorem dX4_boat_43 : decode cX4_boat 43 = .ok (.invokespecial 38, 3) := by decide +kernel
theorem dX4_boat_46 : decode cX4_boat 46 = .ok (.athrow, 1) := by decide +kernel
theorem dX4_boat_47 : decode cX4_boat 47 = .ok (.aload_n 0, 1) := by decide +kernel
theorem dX4_boat_48 : decode cX4_boat 48 = .ok (.getfield 10, 3) := by decide +kernel
theorem dX4_boat_51 : decode cX4_boat 51 = .ok (.getfield 109, 3) := by decide +kernel
theorem dX4_boat_54 : decode cX4_boat 54 = .ok (.istore_n 3, 1) := by decide +kernel
theorem dX4_boat_55 : decode cX4_boat 55 = .ok (.aload_n 0, 1) := by decide +kernel
theorem dX4_boat_56 : decode cX4_boat 56 = .ok (.getfield 10, 3) := by decide +kernel
theorem dX4_boat_59 : decode cX4_boat 59 = .ok (.getfield 114, 3) := by decide +kernel
theorem dX4_boat_62 : decode cX4_boat 62 = .ok (.iload_n 3, 1) := by decide +kernel
theorem dX4_boat_63 : decode cX4_boat 63 = .ok (.aaload, 1) := by decide +kernel
theorem dX4_boat_64 : decode cX4_boat 64 = .ok (.iload_n 1, 1) := by decide +kernel
theorem dX4_boat_65 : decode cX4_boat 65 = .ok (.iload_n 2, 1) := by decide +kernel
theorem dX4_boat_66 : decode cX4_boat 66 = .ok (.invokevirtual 118, 3) := by decide +kernel
theorem dX4_boat_69 : decode cX4_boat 69 = .ok (.aload_n 0, 1) := by decide +kernel
theorem dX4_boat_70 : decode cX4_boat 70 = .ok (.getfield 10, 3) := by decide +kernel
theorem dX4_boat_73 : decode cX4_boat 73 = .ok (.iload_n 3, 1) := by decide +kernel
theorem dX4_boat_74 : decode cX4_boat 74 = .ok (.iconst 1, 1) := by decide +kernel
theorem dX4_boat_75 : decode cX4_boat 75 = .ok (.iadd, 1) := by decide +kernel
theorem dX4_boat_76 : decode cX4_boat 76 = .ok (.putfield 109, 3) := by decide +kernel
theorem dX4_boat_79 : decode cX4_boat 79 = .ok (.iload_n 3, 1) := by decide +kernel
theorem dX4_boat_80 : decode cX4_boat 80 = .ok (.ireturn, 1) := by decide +kernel
theorem dX4_send_0 : decode cX4_send 0 = .ok (.aload_n 0, 1) := by decide +kernel
theorem dX4_send_1 : decode cX4_send 1 = .ok (.iload_n 1, 1) := by decide +kernel
theorem dX4_send_2 : decode cX4_send 2 = .ok (.invokevirtual 123, 3) := by decide +kernel
theorem dX4_send_5 : decode cX4_send 5 = .ok (.iload_n 2, 1) := by decide +kernel
theorem dX4_send_6 : decode cX4_send 6 = .ok (.invokestatic 45, 3) := by decide +kernel
theorem dX4_send_9 : decode cX4_send 9 = .ok (.aload_n 0, 1) := by decide +kernel
theorem dX4_send_10 : decode cX4_send 10 = .ok (.iload_n 1, 1) := by decide +kernel
theorem dX4_send_11 : decode cX4_send 11 = .ok (.invokevirtual 126, 3) := by decide +kernel
theorem dX4_send_14 : decode cX4_send 14 = .ok (.aload_n 0, 1) := by decide +kernel
theorem dX4_send_15 : decode cX4_send 15 = .ok (.getfield 10, 3) := by decide +kernel
theorem dX4_send_18 : decode cX4_send 18 = .ok (.getfield 114, 3) := by decide +kernel
theorem dX4_send_21 : decode cX4_send 21 = .ok (.iload_n 1, 1) := by decide +kernel
theorem dX4_send_22 : decode cX4_send 22 = .ok (.aaload, 1) := by decide +kernel
theorem dX4_send_23 : decode cX4_send 23 = .ok (.getfield 129, 3) := by decide +kernel
theorem dX4_send_26 : decode cX4_send 26 = .ok (.istore_n 3, 1) := by decide +kernel
theorem dX4_send_27 : decode cX4_send 27 = .ok (.aload_n 0, 1) := by decide +kernel
theorem dX4_send_28 : decode cX4_send 28 = .ok (.getfield 10, 3) := by decide +kernel
theorem dX4_send_31 : decode cX4_send 31 = .ok (.getfield 114, 3) := by decide +kernel
theorem dX4_send_34 : decode cX4_send 34 = .ok (.iload_n 1, 1) := by decide +kernel
theorem dX4_send_35 : decode cX4_send 35 = .ok (.aaload, 1) := by decide +kernel
theorem dX4_send_36 : decode cX4_send 36 = .ok (.iload_n 2, 1) := by decide +kernel
theorem dX4_send_37 : decode cX4_send 37 = .ok (.invokevirtual 132, 3) := by decide +kernel
theorem dX4_send_40 : decode cX4_send 40 = .ok (.iload_n 3, 1) := by decide +kernel
theorem dX4_send_41 : decode cX4_send 41 = .ok (.ireturn, 1) := by decide +kernel
theorem dX4_carry_0 : decode cX4_carry 0 = .ok (.iload_n 1, 1) := by decide +kernel
theorem dX4_carry_1 : decode cX4_carry 1 = .ok (.invokestatic 19, 3) := by decide +kernel
theorem dX4_carry_4 : decode cX4_carry 4 = .ok (.iload_n 2, 1) := by decide +kernel
theorem dX4_carry_5 : decode cX4_carry 5 = .ok (.iconst 1, 1) := by decide +kernel
theorem dX4_carry_6 : decode cX4_carry 6 = .ok (.if_icmp .lt 9, 3) := by decide +kernel
theorem dX4_carry_9 : decode cX4_carry 9 = .ok (.iload_n 2, 1) := by decide +kernel
theorem dX4_carry_10 : decode cX4_carry 10 = .ok (.bipush 30, 2) := by decide +kernel
theorem dX4_carry_12 : decode cX4_carry 12 = .ok (.if_icmp .le 13, 3) := by decide +kernel
theorem dX4_carry_15 : decode cX4_carry 15 = .ok (.new 23, 3) := by decide +kernel
theorem dX4_carry_18 : decode cX4_carry 18 = .ok (.dup, 1) := by decide +kernel
theorem dX4_carry_19 : decode cX4_carry 19 = .ok (.ldc 135, 2) := by decide +kernel
theorem dX4_carry_21 : decode cX4_carry 21 = .ok (.invokespecial 27, 3) := by decide +kernel
theorem dX4_carry_24 : decode cX4_carry 24 = .ok (.athrow, 1) := by decide +kernel
theorem dX4_carry_25 : decode cX4_carry 25 = .ok (.aload_n 0, 1) := by decide +kernel
theorem dX4_carry_26 : decode cX4_carry 26 = .ok (.getfield 10, 3) := by decide +kernel
theorem dX4_carry_29 : decode cX4_carry 29 = .ok (.getfield 30, 3) := by decide +kernel
theorem dX4_carry_32 : decode cX4_carry 32 = .ok (.iload_n 1, 1) := by decide +kernel
theorem dX4_carry_33 : decode cX4_carry 33 = .ok (.iaload, 1) := by decide +kernel
theorem dX4_carry_34 : decode cX4_carry 34 = .ok (.iload_n 2, 1) := by decide +kernel
theorem dX4_carry_35 : decode cX4_carry 35 = .ok (.if_icmp .ge 13, 3) := by decide +kernel
theorem dX4_carry_38 : decode cX4_carry 38 = .ok (.new 34, 3) := by decide +kernel
theorem dX4_carry_41 : decode cX4_carry 41 = .ok (.dup, 1) := by decide +kernel
theorem dX4_carry_42 : decode cX4_carry 42 = .ok (.ldc 137, 2) := by decide +kernel
theorem dX4_carry_44 : decode cX4_carry 44 = .ok (.invokespecial 38, 3) := by decide +kernel
theorem dX4_carry_47 : decode cX4_carry 47 = .ok (.athrow, 1) := by decide +kernel
theorem dX4_carry_48 : decode cX4_carry 48 = .ok (.aload_n 0, 1) := by decide +kernel
theorem dX4_carry_49 : decode cX4_carry 49 = .ok (.getfield 10, 3) := by decide +kernel
theorem dX4_carry_52 : decode cX4_carry 52 = .ok (.getfield 30, 3) := by decide +kernel
theorem dX4_carry_55 : decode cX4_carry 55 = .ok (.iload_n 1, 1) := by decide +kernel
theorem dX4_carry_56 : decode cX4_carry 56 = .ok (.dup2, 1) := by decide +kernel
theorem dX4_carry_57 : decode cX4_carry 57 = .ok (.iaload, 1) := by decide +kernel
theorem dX4_carry_58 : decode cX4_carry 58 = .ok (.iload_n 2, 1) := by decide +kernel
theorem dX4_carry_59 : decode cX4_carry 59 = .ok (.isub, 1) := by decide +kernel
theorem dX4_carry_60 : decode cX4_carry 60 = .ok (.iastore, 1) := by decide +kernel
theorem dX4_carry_61 : decode cX4_carry 61 = .ok (.aload_n 0, 1) := by decide +kernel
theorem dX4_carry_62 : decode cX4_carry 62 = .ok (.getfield 10, 3) := by decide +kernel
theorem dX4_carry_65 : decode cX4_carry 65 = .ok (.dup, 1) := by decide +kernel
theorem dX4_carry_66 : decode cX4_carry 66 = .ok (.getfield 139, 3) := by decide +kernel
theorem dX4_carry_69 : decode cX4_carry 69 = .ok (.iload_n 2, 1) := by decide +kernel
theorem dX4_carry_70 : decode cX4_carry 70 = .ok (.iadd, 1) := by decide +kernel
theorem dX4_carry_71 : decode cX4_carry 71 = .ok (.putfield 139, 3) := by decide +kernel
theorem dX4_carry_74 : decode cX4_carry 74 = .ok (.aload_n 0, 1) := by decide +kernel
theorem dX4_carry_75 : decode cX4_carry 75 = .ok (.getfield 10, 3) := by decide +kernel
theorem dX4_carry_78 : decode cX4_carry 78 = .ok (.getfield 30, 3) := by decide +kernel
theorem dX4_carry_81 : decode cX4_carry 81 = .ok (.iload_n 1, 1) := by decide +kernel
theorem dX4_carry_82 : decode cX4_carry 82 = .ok (.iaload, 1) := by decide +kernel
theorem dX4_carry_83 : decode cX4_carry 83 = .ok (.ireturn, 1) := by decide +kernel
theorem dX4_told_0 : decode cX4_told 0 = .ok (.aload_n 0, 1) := by decide +kernel
theorem dX4_told_1 : decode cX4_told 1 = .ok (.iload_n 1, 1) := by decide +kernel
theorem dX4_told_2 : decode cX4_told 2 = .ok (.invokevirtual 123, 3) := by decide +kernel
theorem dX4_told_5 : decode cX4_told 5 = .ok (.iload_n 2, 1) := by decide +kernel
theorem dX4_told_6 : decode cX4_told 6 = .ok (.iconst 0, 1) := by decide +kernel
theorem dX4_told_7 : decode cX4_told 7 = .ok (.bipush 6, 2) := by decide +kernel
theorem dX4_told_9 : decode cX4_told 9 = .ok (.invokestatic 142, 3) := by decide +kernel
theorem dX4_told_12 : decode cX4_told 12 = .ok (.aload_n 0, 1) := by decide +kernel
theorem dX4_told_13 : decode cX4_told 13 = .ok (.getfield 10, 3) := by decide +kernel
theorem dX4_told_16 : decode cX4_told 16 = .ok (.getfield 114, 3) := by decide +kernel
theorem dX4_told_19 : decode cX4_told 19 = .ok (.iload_n 1, 1) := by decide +kernel
theorem dX4_told_20 : decode cX4_told 20 = .ok (.aaload, 1) := by decide +kernel
theorem dX4_told_21 : decode cX4_told 21 = .ok (.iload_n 2, 1) := by decide +kernel
theorem dX4_told_22 : decode cX4_told 22 = .ok (.invokevirtual 145, 3) := by decide +kernel
theorem dX4_told_25 : decode cX4_told 25 = .ok (.ireturn, 1) := by decide +kernel
theorem dX4_about_0 : decode cX4_about 0 = .ok (.iload_n 1, 1) := by decide +kernel
theorem dX4_about_1 : decode cX4_about 1 = .ok (.ifCond .lt 14, 3) := by decide +kernel
theorem dX4_about_4 : decode cX4_about 4 = .ok (.iload_n 1, 1) := by decide +kernel
theorem dX4_about_5 : decode cX4_about 5 = .ok (.aload_n 0, 1) := by decide +kernel
theorem dX4_about_6 : decode cX4_about 6 = .ok (.getfield 10, 3) := by decide +kernel
theorem dX4_about_9 : decode cX4_about 9 = .ok (.getfield 92, 3) := by decide +kernel
theorem dX4_about_12 : decode cX4_about 12 = .ok (.if_icmp .lt 13, 3) := by decide +kernel
theorem dX4_about_15 : decode cX4_about 15 = .ok (.new 78, 3) := by decide +kernel
theorem dX4_about_18 : decode cX4_about 18 = .ok (.dup, 1) := by decide +kernel
theorem dX4_about_19 : decode cX4_about 19 = .ok (.ldc 149, 2) := by decide +kernel
theorem dX4_about_21 : decode cX4_about 21 = .ok (.invokespecial 82, 3) := by decide +kernel
theorem dX4_about_24 : decode cX4_about 24 = .ok (.athrow, 1) := by decide +kernel
theorem dX4_about_25 : decode cX4_about 25 = .ok (.iload_n 2, 1) := by decide +kernel
theorem dX4_about_26 : decode cX4_about 26 = .ok (.iconst 0, 1) := by decide +kernel
theorem dX4_about_27 : decode cX4_about 27 = .ok (.iconst 4, 1) := by decide +kernel
theorem dX4_about_28 : decode cX4_about 28 = .ok (.invokestatic 142, 3) := by decide +kernel
theorem dX4_about_31 : decode cX4_about 31 = .ok (.aload_n 0, 1) := by decide +kernel
theorem dX4_about_32 : decode cX4_about 32 = .ok (.getfield 10, 3) := by decide +kernel
theorem dX4_about_35 : decode cX4_about 35 = .ok (.getfield 97, 3) := by decide +kernel
theorem dX4_about_38 : decode cX4_about 38 = .ok (.iload_n 1, 1) := by decide +kernel
theorem dX4_about_39 : decode cX4_about 39 = .ok (.aaload, 1) := by decide +kernel
theorem dX4_about_40 : decode cX4_about 40 = .ok (.iload_n 2, 1) := by decide +kernel
theorem dX4_about_41 : decode cX4_about 41 = .ok (.aload_n 0, 1) := by decide +kernel
theorem dX4_about_42 : decode cX4_about 42 = .ok (.getfield 10, 3) := by decide +kernel
theorem dX4_about_45 : decode cX4_about 45 = .ok (.invokevirtual 151, 3) := by decide +kernel
theorem dX4_about_48 : decode cX4_about 48 = .ok (.invokevirtual 155, 3) := by decide +kernel
theorem dX4_about_51 : decode cX4_about 51 = .ok (.ireturn, 1) := by decide +kernel
theorem dX4_light_0 : decode cX4_light 0 = .ok (.aload_n 0, 1) := by decide +kernel
theorem dX4_light_1 : decode cX4_light 1 = .ok (.iload_n 1, 1) := by decide +kernel
theorem dX4_light_2 : decode cX4_light 2 = .ok (.invokevirtual 75, 3) := by decide +kernel
theorem dX4_light_5 : decode cX4_light 5 = .ok (.iload_n 2, 1) := by decide +kernel
theorem dX4_light_6 : decode cX4_light 6 = .ok (.iconst 0, 1) := by decide +kernel
theorem dX4_light_7 : decode cX4_light 7 = .ok (.iconst 3, 1) := by decide +kernel
theorem dX4_light_8 : decode cX4_light 8 = .ok (.invokestatic 142, 3) := by decide +kernel
theorem dX4_light_11 : decode cX4_light 11 = .ok (.aload_n 0, 1) := by decide +kernel
theorem dX4_light_12 : decode cX4_light 12 = .ok (.getfield 10, 3) := by decide +kernel
theorem dX4_light_15 : decode cX4_light 15 = .ok (.aload_n 0, 1) := by decide +kernel
theorem dX4_light_16 : decode cX4_light 16 = .ok (.getfield 10, 3) := by decide +kernel
theorem dX4_light_19 : decode cX4_light 19 = .ok (.getfield 66, 3) := by decide +kernel
theorem dX4_light_22 : decode cX4_light 22 = .ok (.iload_n 1, 1) := by decide +kernel
theorem dX4_light_23 : decode cX4_light 23 = .ok (.aaload, 1) := by decide +kernel
theorem dX4_light_24 : decode cX4_light 24 = .ok (.iload_n 2, 1) := by decide +kernel
theorem dX4_light_25 : decode cX4_light 25 = .ok (.invokevirtual 158, 3) := by decide +kernel
theorem dX4_light_28 : decode cX4_light 28 = .ok (.ireturn, 1) := by decide +kernel
theorem dX4_code_0 : decode cX4_code 0 = .ok (.iload_n 1, 1) := by decide +kernel
theorem dX4_code_1 : decode cX4_code 1 = .ok (.invokestatic 42, 3) := by decide +kernel
theorem dX4_code_4 : decode cX4_code 4 = .ok (.iload_n 2, 1) := by decide +kernel
theorem dX4_code_5 : decode cX4_code 5 = .ok (.iconst 0, 1) := by decide +kernel
theorem dX4_code_6 : decode cX4_code 6 = .ok (.iconst 3, 1) := by decide +kernel
theorem dX4_code_7 : decode cX4_code 7 = .ok (.invokestatic 142, 3) := by decide +kernel
theorem dX4_code_10 : decode cX4_code 10 = .ok (.aload_n 0, 1) := by decide +kernel
theorem dX4_code_11 : decode cX4_code 11 = .ok (.getfield 10, 3) := by decide +kernel
theorem dX4_code_14 : decode cX4_code 14 = .ok (.iload_n 1, 1) := by decide +kernel
theorem dX4_code_15 : decode cX4_code 15 = .ok (.iload_n 2, 1) := by decide +kernel
theorem dX4_code_16 : decode cX4_code 16 = .ok (.invokevirtual 162, 3) := by decide +kernel
theorem dX4_code_19 : decode cX4_code 19 = .ok (.ireturn, 1) := by decide +kernel
theorem dX4_place_0 : decode cX4_place 0 = .ok (.iload_n 1, 1) := by decide +kernel
theorem dX4_place_1 : decode cX4_place 1 = .ok (.invokestatic 19, 3) := by decide +kernel
theorem dX4_place_4 : decode cX4_place 4 = .ok (.iload_n 2, 1) := by decide +kernel
theorem dX4_place_5 : decode cX4_place 5 = .ok (.iconst 0, 1) := by decide +kernel
theorem dX4_place_6 : decode cX4_place 6 = .ok (.iconst 4, 1) := by decide +kernel
theorem dX4_place_7 : decode cX4_place 7 = .ok (.invokestatic 142, 3) := by decide +kernel
theorem dX4_place_10 : decode cX4_place 10 = .ok (.aload_n 0, 1) := by decide +kernel
theorem dX4_place_11 : decode cX4_place 11 = .ok (.getfield 10, 3) := by decide +kernel
theorem dX4_place_14 : decode cX4_place 14 = .ok (.iload_n 1, 1) := by decide +kernel
theorem dX4_place_15 : decode cX4_place 15 = .ok (.iload_n 2, 1) := by decide +kernel
theorem dX4_place_16 : decode cX4_place 16 = .ok (.invokevirtual 165, 3) := by decide +kernel
theorem dX4_place_19 : decode cX4_place 19 = .ok (.ireturn, 1) := by decide +kernel
theorem dX4_moon_0 : decode cX4_moon 0 = .ok (.iload_n 1, 1) := by decide +kernel
theorem dX4_moon_1 : decode cX4_moon 1 = .ok (.ifCond .lt 10, 3) := by decide +kernel
theorem dX4_moon_4 : decode cX4_moon 4 = .ok (.iload_n 1, 1) := by decide +kernel
theorem dX4_moon_5 : decode cX4_moon 5 = .ok (.sipush 999, 3) := by decide +kernel
theorem dX4_moon_8 : decode cX4_moon 8 = .ok (.if_icmp .le 13, 3) := by decide +kernel
theorem dX4_moon_11 : decode cX4_moon 11 = .ok (.new 23, 3) := by decide +kernel
theorem dX4_moon_14 : decode cX4_moon 14 = .ok (.dup, 1) := by decide +kernel
theorem dX4_moon_15 : decode cX4_moon 15 = .ok (.ldc 168, 2) := by decide +kernel
theorem dX4_moon_17 : decode cX4_moon 17 = .ok (.invokespecial 27, 3) := by decide +kernel
theorem dX4_moon_20 : decode cX4_moon 20 = .ok (.athrow, 1) := by decide +kernel
theorem dX4_moon_21 : decode cX4_moon 21 = .ok (.iload_n 1, 1) := by decide +kernel
theorem dX4_moon_22 : decode cX4_moon 22 = .ok (.invokestatic 170, 3) := by decide +kernel
theorem dX4_moon_25 : decode cX4_moon 25 = .ok (.ireturn, 1) := by decide +kernel
theorem dX4_count_0 : decode cX4_count 0 = .ok (.iload_n 1, 1) := by decide +kernel
theorem dX4_count_1 : decode cX4_count 1 = .ok (.iconst 0, 1) := by decide +kernel
theorem dX4_count_2 : decode cX4_count 2 = .ok (.bipush 10, 2) := by decide +kernel
theorem dX4_count_4 : decode cX4_count 4 = .ok (.invokestatic 142, 3) := by decide +kernel
theorem dX4_count_7 : decode cX4_count 7 = .ok (.aload_n 0, 1) := by decide +kernel
theorem dX4_count_8 : decode cX4_count 8 = .ok (.getfield 10, 3) := by decide +kernel
theorem dX4_count_11 : decode cX4_count 11 = .ok (.iload_n 1, 1) := by decide +kernel
theorem dX4_count_12 : decode cX4_count 12 = .ok (.invokevirtual 173, 3) := by decide +kernel
theorem dX4_count_15 : decode cX4_count 15 = .ok (.ireturn, 1) := by decide +kernel
theorem dX4_pass_0 : decode cX4_pass 0 = .ok (.iload_n 1, 1) := by decide +kernel
theorem dX4_pass_1 : decode cX4_pass 1 = .ok (.invokestatic 176, 3) := by decide +kernel
theorem dX4_pass_4 : decode cX4_pass 4 = .ok (.aload_n 0, 1) := by decide +kernel
theorem dX4_pass_5 : decode cX4_pass 5 = .ok (.getfield 10, 3) := by decide +kernel
theorem dX4_pass_8 : decode cX4_pass 8 = .ok (.invokevirtual 179, 3) := by decide +kernel
theorem dX4_pass_11 : decode cX4_pass 11 = .ok (.istore_n 2, 1) := by decide +kernel
theorem dX4_pass_12 : decode cX4_pass 12 = .ok (.aload_n 0, 1) := by decide +kernel
theorem dX4_pass_13 : decode cX4_pass 13 = .ok (.getfield 10, 3) := by decide +kernel
theorem dX4_pass_16 : decode cX4_pass 16 = .ok (.iload_n 1, 1) := by decide +kernel
theorem dX4_pass_17 : decode cX4_pass 17 = .ok (.invokevirtual 182, 3) := by decide +kernel
theorem dX4_pass_20 : decode cX4_pass 20 = .ok (.aload_n 0, 1) := by decide +kernel
theorem dX4_pass_21 : decode cX4_pass 21 = .ok (.getfield 10, 3) := by decide +kernel
theorem dX4_pass_24 : decode cX4_pass 24 = .ok (.invokevirtual 179, 3) := by decide +kernel
theorem dX4_pass_27 : decode cX4_pass 27 = .ok (.iload_n 2, 1) := by decide +kernel
theorem dX4_pass_28 : decode cX4_pass 28 = .ok (.isub, 1) := by decide +kernel
theorem dX4_pass_29 : decode cX4_pass 29 = .ok (.ireturn, 1) := by decide +kernel
theorem dX4_until_0 : decode cX4_until 0 = .ok (.aload_n 0, 1) := by decide +kernel
theorem dX4_until_1 : decode cX4_until 1 = .ok (.iload_n 1, 1) := by decide +kernel
theorem dX4_until_2 : decode cX4_until 2 = .ok (.invokevirtual 123, 3) := by decide +kernel
theorem dX4_until_5 : decode cX4_until 5 = .ok (.aload_n 0, 1) := by decide +kernel
theorem dX4_until_6 : decode cX4_until 6 = .ok (.getfield 16, 3) := by decide +kernel
theorem dX4_until_9 : decode cX4_until 9 = .ok (.aload_n 0, 1) := by decide +kernel
theorem dX4_until_10 : decode cX4_until 10 = .ok (.getfield 10, 3) := by decide +kernel
theorem dX4_until_13 : decode cX4_until 13 = .ok (.invokevirtual 185, 3) := by decide +kernel
theorem dX4_until_16 : decode cX4_until 16 = .ok (.aload_n 0, 1) := by decide +kernel
theorem dX4_until_17 : decode cX4_until 17 = .ok (.getfield 16, 3) := by decide +kernel
theorem dX4_until_20 : decode cX4_until 20 = .ok (.getfield 114, 3) := by decide +kernel
theorem dX4_until_23 : decode cX4_until 23 = .ok (.iload_n 1, 1) := by decide +kernel
theorem dX4_until_24 : decode cX4_until 24 = .ok (.aaload, 1) := by decide +kernel
theorem dX4_until_25 : decode cX4_until 25 = .ok (.astore_n 2, 1) := by decide +kernel
theorem dX4_until_26 : decode cX4_until 26 = .ok (.iconst 0, 1) := by decide +kernel
theorem dX4_until_27 : decode cX4_until 27 = .ok (.istore_n 3, 1) := by decide +kernel
theorem dX4_until_28 : decode cX4_until 28 = .ok (.iload_n 3, 1) := by decide +kernel
theorem dX4_until_29 : decode cX4_until 29 = .ok (.bipush 120, 2) := by decide +kernel
theorem dX4_until_31 : decode cX4_until 31 = .ok (.if_icmp .ge 23, 3) := by decide +kernel
theorem dX4_until_34 : decode cX4_until 34 = .ok (.aload_n 2, 1) := by decide +kernel
theorem dX4_until_35 : decode cX4_until 35 = .ok (.getfield 189, 3) := by decide +kernel
theorem dX4_until_38 : decode cX4_until 38 = .ok (.ifCond .ne 16, 3) := by decide +kernel
theorem dX4_until_41 : decode cX4_until 41 = .ok (.aload_n 0, 1) := by decide +kernel
theorem dX4_until_42 : decode cX4_until 42 = .ok (.getfield 16, 3) := by decide +kernel
theorem dX4_until_45 : decode cX4_until 45 = .ok (.invokevirtual 192, 3) := by decide +kernel
theorem dX4_until_48 : decode cX4_until 48 = .ok (.iinc 3 1, 3) := by decide +kernel
theorem dX4_until_51 : decode cX4_until 51 = .ok (.goto (-23), 3) := by decide +kernel
theorem dX4_until_54 : decode cX4_until 54 = .ok (.aload_n 2, 1) := by decide +kernel
theorem dX4_until_55 : decode cX4_until 55 = .ok (.getfield 189, 3) := by decide +kernel
theorem dX4_until_58 : decode cX4_until 58 = .ok (.iconst 1, 1) := by decide +kernel
theorem dX4_until_59 : decode cX4_until 59 = .ok (.if_icmp .ne 7, 3) := by decide +kernel
theorem dX4_until_62 : decode cX4_until 62 = .ok (.iload_n 3, 1) := by decide +kernel
theorem dX4_until_63 : decode cX4_until 63 = .ok (.goto 4, 3) := by decide +kernel
theorem dX4_until_66 : decode cX4_until 66 = .ok (.iconst (-1), 1) := by decide +kernel
theorem dX4_until_67 : decode cX4_until 67 = .ok (.ireturn, 1) := by decide +kernel
theorem dX4_foresee_0 : decode cX4_foresee 0 = .ok (.iload_n 1, 1) := by decide +kernel
theorem dX4_foresee_1 : decode cX4_foresee 1 = .ok (.invokestatic 176, 3) := by decide +kernel
theorem dX4_foresee_4 : decode cX4_foresee 4 = .ok (.iload_n 2, 1) := by decide +kernel
theorem dX4_foresee_5 : decode cX4_foresee 5 = .ok (.iconst 4, 1) := by decide +kernel
theorem dX4_foresee_6 : decode cX4_foresee 6 = .ok (.bipush 10, 2) := by decide +kernel
theorem dX4_foresee_8 : decode cX4_foresee 8 = .ok (.invokestatic 142, 3) := by decide +kernel
theorem dX4_foresee_11 : decode cX4_foresee 11 = .ok (.aload_n 0, 1) := by decide +kernel
theorem dX4_foresee_12 : decode cX4_foresee 12 = .ok (.getfield 16, 3) := by decide +kernel
theorem dX4_foresee_15 : decode cX4_foresee 15 = .ok (.aload_n 0, 1) := by decide +kernel
theorem dX4_foresee_16 : decode cX4_foresee 16 = .ok (.getfield 10, 3) := by decide +kernel
theorem dX4_foresee_19 : decode cX4_foresee 19 = .ok (.invokevirtual 185, 3) := by decide +kernel
theorem dX4_foresee_22 : decode cX4_foresee 22 = .ok (.aload_n 0, 1) := by decide +kernel
theorem dX4_foresee_23 : decode cX4_foresee 23 = .ok (.getfield 16, 3) := by decide +kernel
theorem dX4_foresee_26 : decode cX4_foresee 26 = .ok (.iload_n 1, 1) := by decide +kernel
theorem dX4_foresee_27 : decode cX4_foresee 27 = .ok (.invokevirtual 182, 3) := by decide +kernel
theorem dX4_foresee_30 : decode cX4_foresee 30 = .ok (.aload_n 0, 1) := by decide +kernel
theorem dX4_foresee_31 : decode cX4_foresee 31 = .ok (.getfield 16, 3) := by decide +kernel
theorem dX4_foresee_34 : decode cX4_foresee 34 = .ok (.iload_n 2, 1) := by decide +kernel
theorem dX4_foresee_35 : decode cX4_foresee 35 = .ok (.invokevirtual 173, 3) := by decide +kernel
theorem dX4_foresee_38 : decode cX4_foresee 38 = .ok (.ireturn, 1) := by decide +kernel
theorem dX4_advise_0 : decode cX4_advise 0 = .ok (.aload_n 0, 1) := by decide +kernel
theorem dX4_advise_1 : decode cX4_advise 1 = .ok (.iload_n 1, 1) := by decide +kernel
theorem dX4_advise_2 : decode cX4_advise 2 = .ok (.invokevirtual 123, 3) := by decide +kernel
theorem dX4_advise_5 : decode cX4_advise 5 = .ok (.aload_n 0, 1) := by decide +kernel
theorem dX4_advise_6 : decode cX4_advise 6 = .ok (.iload_n 1, 1) := by decide +kernel
theorem dX4_advise_7 : decode cX4_advise 7 = .ok (.invokevirtual 126, 3) := by decide +kernel
theorem dX4_advise_10 : decode cX4_advise 10 = .ok (.iconst 0, 1) := by decide +kernel
theorem dX4_advise_11 : decode cX4_advise 11 = .ok (.istore_n 2, 1) := by decide +kernel
theorem dX4_advise_12 : decode cX4_advise 12 = .ok (.iconst (-1), 1) := by decide +kernel
theorem dX4_advise_13 : decode cX4_advise 13 = .ok (.istore_n 3, 1) := by decide +kernel
theorem dX4_advise_14 : decode cX4_advise 14 = .ok (.iconst 0, 1) := by decide +kernel
theorem dX4_advise_15 : decode cX4_advise 15 = .ok (.istore 4, 2) := by decide +kernel
theorem dX4_advise_17 : decode cX4_advise 17 = .ok (.iload 4, 2) := by decide +kernel
theorem dX4_advise_19 : decode cX4_advise 19 = .ok (.bipush 16, 2) := by decide +kernel
theorem dX4_advise_21 : decode cX4_advise 21 = .ok (.if_icmp .ge 30, 3) := by decide +kernel
theorem dX4_advise_24 : decode cX4_advise 24 = .ok (.aload_n 0, 1) := by decide +kernel
theorem dX4_advise_25 : decode cX4_advise 25 = .ok (.iload_n 1, 1) := by decide +kernel
theorem dX4_advise_26 : decode cX4_advise 26 = .ok (.iload 4, 2) := by decide +kernel
theorem dX4_advise_28 : decode cX4_advise 28 = .ok (.invokevirtual 195, 3) := by decide +kernel
theorem dX4_advise_31 : decode cX4_advise 31 = .ok (.istore 5, 2) := by decide +kernel
theorem dX4_advise_33 : decode cX4_advise 33 = .ok (.iload 5, 2) := by decide +kernel
theorem dX4_advise_35 : decode cX4_advise 35 = .ok (.iload_n 3, 1) := by decide +kernel
theorem dX4_advise_36 : decode cX4_advise 36 = .ok (.if_icmp .le 9, 3) := by decide +kernel
theorem dX4_advise_39 : decode cX4_advise 39 = .ok (.iload 5, 2) := by decide +kernel
theorem dX4_advise_41 : decode cX4_advise 41 = .ok (.istore_n 3, 1) := by decide +kernel
theorem dX4_advise_42 : decode cX4_advise 42 = .ok (.iload 4, 2) := by decide +kernel
theorem dX4_advise_44 : decode cX4_advise 44 = .ok (.istore_n 2, 1) := by decide +kernel
theorem dX4_advise_45 : decode cX4_advise 45 = .ok (.iinc 4 1, 3) := by decide +kernel
theorem dX4_advise_48 : decode cX4_advise 48 = .ok (.goto (-31), 3) := by decide +kernel
theorem dX4_advise_51 : decode cX4_advise 51 = .ok (.iload_n 2, 1) := by decide +kernel
theorem dX4_advise_52 : decode cX4_advise 52 = .ok (.ireturn, 1) := by decide +kernel
theorem dX4_quiet_0 : decode cX4_quiet 0 = .ok (.iload_n 1, 1) := by decide +kernel
theorem dX4_quiet_1 : decode cX4_quiet 1 = .ok (.invokestatic 19, 3) := by decide +kernel
theorem dX4_quiet_4 : decode cX4_quiet 4 = .ok (.aload_n 0, 1) := by decide +kernel
theorem dX4_quiet_5 : decode cX4_quiet 5 = .ok (.getfield 16, 3) := by decide +kernel
theorem dX4_quiet_8 : decode cX4_quiet 8 = .ok (.aload_n 0, 1) := by decide +kernel
theorem dX4_quiet_9 : decode cX4_quiet 9 = .ok (.getfield 10, 3) := by decide +kernel
theorem dX4_quiet_12 : decode cX4_quiet 12 = .ok (.invokevirtual 185, 3) := by decide +kernel
theorem dX4_quiet_15 : decode cX4_quiet 15 = .ok (.iconst 0, 1) := by decide +kernel
theorem dX4_quiet_16 : decode cX4_quiet 16 = .ok (.istore_n 2, 1) := by decide +kernel
theorem dX4_quiet_17 : decode cX4_quiet 17 = .ok (.iload_n 2, 1) := by decide +kernel
theorem dX4_quiet_18 : decode cX4_quiet 18 = .ok (.bipush 40, 2) := by decide +kernel
theorem dX4_quiet_20 : decode cX4_quiet 20 = .ok (.if_icmp .ge 27, 3) := by decide +kernel
theorem dX4_quiet_23 : decode cX4_quiet 23 = .ok (.aload_n 0, 1) := by decide +kernel
theorem dX4_quiet_24 : decode cX4_quiet 24 = .ok (.getfield 16, 3) := by decide +kernel
theorem dX4_quiet_27 : decode cX4_quiet 27 = .ok (.iload_n 1, 1) := by decide +kernel
theorem dX4_quiet_28 : decode cX4_quiet 28 = .ok (.invokevirtual 198, 3) := by decide +kernel
theorem dX4_quiet_31 : decode cX4_quiet 31 = .ok (.ifCond .le 16, 3) := by decide +kernel
theorem dX4_quiet_34 : decode cX4_quiet 34 = .ok (.aload_n 0, 1) := by decide +kernel
theorem dX4_quiet_35 : decode cX4_quiet 35 = .ok (.getfield 16, 3) := by decide +kernel
theorem dX4_quiet_38 : decode cX4_quiet 38 = .ok (.invokevirtual 192, 3) := by decide +kernel
theorem dX4_quiet_41 : decode cX4_quiet 41 = .ok (.iinc 2 1, 3) := by decide +kernel
theorem dX4_quiet_44 : decode cX4_quiet 44 = .ok (.goto (-27), 3) := by decide +kernel
theorem dX4_quiet_47 : decode cX4_quiet 47 = .ok (.aload_n 0, 1) := by decide +kernel
theorem dX4_quiet_48 : decode cX4_quiet 48 = .ok (.getfield 16, 3) := by decide +kernel
theorem dX4_quiet_51 : decode cX4_quiet 51 = .ok (.iload_n 1, 1) := by decide +kernel
theorem dX4_quiet_52 : decode cX4_quiet 52 = .ok (.invokevirtual 198, 3) := by decide +kernel
theorem dX4_quiet_55 : decode cX4_quiet 55 = .ok (.ifCond .ne 7, 3) := by decide +kernel
theorem dX4_quiet_58 : decode cX4_quiet 58 = .ok (.iload_n 2, 1) := by decide +kernel
theorem dX4_quiet_59 : decode cX4_quiet 59 = .ok (.goto 4, 3) := by decide +kernel
theorem dX4_quiet_62 : decode cX4_quiet 62 = .ok (.iconst (-1), 1) := by decide +kernel
theorem dX4_quiet_63 : decode cX4_quiet 63 = .ok (.ireturn, 1) := by decide +kernel
theorem dX4_mean_0 : decode cX4_mean 0 = .ok (.aload_n 0, 1) := by decide +kernel
theorem dX4_mean_1 : decode cX4_mean 1 = .ok (.getfield 10, 3) := by decide +kernel
theorem dX4_mean_4 : decode cX4_mean 4 = .ok (.iconst 0, 1) := by decide +kernel
theorem dX4_mean_5 : decode cX4_mean 5 = .ok (.invokevirtual 201, 3) := by decide +kernel
theorem dX4_mean_8 : decode cX4_mean 8 = .ok (.istore_n 1, 1) := by decide +kernel
theorem dX4_mean_9 : decode cX4_mean 9 = .ok (.iload_n 1, 1) := by decide +kernel
theorem dX4_mean_10 : decode cX4_mean 10 = .ok (.ifCond .ne 5, 3) := by decide +kernel
theorem dX4_mean_13 : decode cX4_mean 13 = .ok (.dconst 0, 1) := by decide +kernel
theorem dX4_mean_14 : decode cX4_mean 14 = .ok (.dreturn, 1) := by decide +kernel
theorem dX4_mean_15 : decode cX4_mean 15 = .ok (.aload_n 0, 1) := by decide +kernel
theorem dX4_mean_16 : decode cX4_mean 16 = .ok (.getfield 10, 3) := by decide +kernel
theorem dX4_mean_19 : decode cX4_mean 19 = .ok (.invokevirtual 204, 3) := by decide +kernel
theorem dX4_mean_22 : decode cX4_mean 22 = .ok (.i2d, 1) := by decide +kernel
theorem dX4_mean_23 : decode cX4_mean 23 = .ok (.iload_n 1, 1) := by decide +kernel
theorem dX4_mean_24 : decode cX4_mean 24 = .ok (.i2d, 1) := by decide +kernel
theorem dX4_mean_25 : decode cX4_mean 25 = .ok (.ddiv, 1) := by decide +kernel
theorem dX4_mean_26 : decode cX4_mean 26 = .ok (.dreturn, 1) := by decide +kernel
theorem dX4_digest_0 : decode cX4_digest 0 = .ok (.ldc2_w 207, 3) := by decide +kernel
theorem dX4_digest_3 : decode cX4_digest 3 = .ok (.lstore_n 1, 1) := by decide +kernel
theorem dX4_digest_4 : decode cX4_digest 4 = .ok (.iconst 0, 1) := by decide +kernel
theorem dX4_digest_5 : decode cX4_digest 5 = .ok (.istore_n 3, 1) := by decide +kernel
theorem dX4_digest_6 : decode cX4_digest 6 = .ok (.iload_n 3, 1) := by decide +kernel
theorem dX4_digest_7 : decode cX4_digest 7 = .ok (.bipush 10, 2) := by decide +kernel
theorem dX4_digest_9 : decode cX4_digest 9 = .ok (.if_icmp .gt 22, 3) := by decide +kernel
theorem dX4_digest_12 : decode cX4_digest 12 = .ok (.lload_n 1, 1) := by decide +kernel
theorem dX4_digest_13 : decode cX4_digest 13 = .ok (.ldc2_w 209, 3) := by decide +kernel
theorem dX4_digest_16 : decode cX4_digest 16 = .ok (.lmul, 1) := by decide +kernel
theorem dX4_digest_17 : decode cX4_digest 17 = .ok (.aload_n 0, 1) := by decide +kernel
theorem dX4_digest_18 : decode cX4_digest 18 = .ok (.iload_n 3, 1) := by decide +kernel
theorem dX4_digest_19 : decode cX4_digest 19 = .ok (.invokevirtual 211, 3) := by decide +kernel
theorem dX4_digest_22 : decode cX4_digest 22 = .ok (.i2l, 1) := by decide +kernel
theorem dX4_digest_23 : decode cX4_digest 23 = .ok (.ladd, 1) := by decide +kernel
theorem dX4_digest_24 : decode cX4_digest 24 = .ok (.lstore_n 1, 1) := by decide +kernel
theorem dX4_digest_25 : decode cX4_digest 25 = .ok (.iinc 3 1, 3) := by decide +kernel
theorem dX4_digest_28 : decode cX4_digest 28 = .ok (.goto (-22), 3) := by decide +kernel
theorem dX4_digest_31 : decode cX4_digest 31 = .ok (.iconst 0, 1) := by decide +kernel
theorem dX4_digest_32 : decode cX4_digest 32 = .ok (.istore_n 3, 1) := by decide +kernel
theorem dX4_digest_33 : decode cX4_digest 33 = .ok (.iload_n 3, 1) := by decide +kernel
theorem dX4_digest_34 : decode cX4_digest 34 = .ok (.bipush 16, 2) := by decide +kernel
theorem dX4_digest_36 : decode cX4_digest 36 = .ok (.if_icmp .ge 39, 3) := by decide +kernel
theorem dX4_digest_39 : decode cX4_digest 39 = .ok (.iconst 0, 1) := by decide +kernel
theorem dX4_digest_40 : decode cX4_digest 40 = .ok (.istore 4, 2) := by decide +kernel
theorem dX4_digest_42 : decode cX4_digest 42 = .ok (.iload 4, 2) := by decide +kernel
theorem dX4_digest_44 : decode cX4_digest 44 = .ok (.iconst 4, 1) := by decide +kernel
theorem dX4_digest_45 : decode cX4_digest 45 = .ok (.if_icmp .gt 24, 3) := by decide +kernel
theorem dX4_digest_48 : decode cX4_digest 48 = .ok (.lload_n 1, 1) := by decide +kernel
theorem dX4_digest_49 : decode cX4_digest 49 = .ok (.ldc2_w 209, 3) := by decide +kernel
theorem dX4_digest_52 : decode cX4_digest 52 = .ok (.lmul, 1) := by decide +kernel
theorem dX4_digest_53 : decode cX4_digest 53 = .ok (.aload_n 0, 1) := by decide +kernel
theorem dX4_digest_54 : decode cX4_digest 54 = .ok (.iload_n 3, 1) := by decide +kernel
theorem dX4_digest_55 : decode cX4_digest 55 = .ok (.iload 4, 2) := by decide +kernel
theorem dX4_digest_57 : decode cX4_digest 57 = .ok (.invokevirtual 214, 3) := by decide +kernel
theorem dX4_digest_60 : decode cX4_digest 60 = .ok (.i2l, 1) := by decide +kernel
theorem dX4_digest_61 : decode cX4_digest 61 = .ok (.ladd, 1) := by decide +kernel
theorem dX4_digest_62 : decode cX4_digest 62 = .ok (.lstore_n 1, 1) := by decide +kernel
theorem dX4_digest_63 : decode cX4_digest 63 = .ok (.iinc 4 1, 3) := by decide +kernel
theorem dX4_digest_66 : decode cX4_digest 66 = .ok (.goto (-24), 3) := by decide +kernel
theorem dX4_digest_69 : decode cX4_digest 69 = .ok (.iinc 3 1, 3) := by decide +kernel
theorem dX4_digest_72 : decode cX4_digest 72 = .ok (.goto (-39), 3) := by decide +kernel
theorem dX4_digest_75 : decode cX4_digest 75 = .ok (.iconst 1, 1) := by decide +kernel
theorem dX4_digest_76 : decode cX4_digest 76 = .ok (.istore_n 3, 1) := by decide +kernel
theorem dX4_digest_77 : decode cX4_digest 77 = .ok (.iload_n 3, 1) := by decide +kernel
theorem dX4_digest_78 : decode cX4_digest 78 = .ok (.bipush 7, 2) := by decide +kernel
theorem dX4_digest_80 : decode cX4_digest 80 = .ok (.if_icmp .gt 39, 3) := by decide +kernel
theorem dX4_digest_83 : decode cX4_digest 83 = .ok (.iconst 0, 1) := by decide +kernel
theorem dX4_digest_84 : decode cX4_digest 84 = .ok (.istore 4, 2) := by decide +kernel
theorem dX4_digest_86 : decode cX4_digest 86 = .ok (.iload 4, 2) := by decide +kernel
theorem dX4_digest_88 : decode cX4_digest 88 = .ok (.iconst 3, 1) := by decide +kernel
theorem dX4_digest_89 : decode cX4_digest 89 = .ok (.if_icmp .gt 24, 3) := by decide +kernel
theorem dX4_digest_92 : decode cX4_digest 92 = .ok (.lload_n 1, 1) := by decide +kernel
theorem dX4_digest_93 : decode cX4_digest 93 = .ok (.ldc2_w 209, 3) := by decide +kernel
theorem dX4_digest_96 : decode cX4_digest 96 = .ok (.lmul, 1) := by decide +kernel
theorem dX4_digest_97 : decode cX4_digest 97 = .ok (.aload_n 0, 1) := by decide +kernel
theorem dX4_digest_98 : decode cX4_digest 98 = .ok (.iload_n 3, 1) := by decide +kernel
theorem dX4_digest_99 : decode cX4_digest 99 = .ok (.iload 4, 2) := by decide +kernel
theorem dX4_digest_101 : decode cX4_digest 101 = .ok (.invokevirtual 216, 3) := by decide +kernel
theorem dX4_digest_104 : decode cX4_digest 104 = .ok (.i2l, 1) := by decide +kernel
theorem dX4_digest_105 : decode cX4_digest 105 = .ok (.ladd, 1) := by decide +kernel
theorem dX4_digest_106 : decode cX4_digest 106 = .ok (.lstore_n 1, 1) := by decide +kernel
theorem dX4_digest_107 : decode cX4_digest 107 = .ok (.iinc 4 1, 3) := by decide +kernel
theorem dX4_digest_110 : decode cX4_digest 110 = .ok (.goto (-24), 3) := by decide +kernel
theorem dX4_digest_113 : decode cX4_digest 113 = .ok (.iinc 3 1, 3) := by decide +kernel
theorem dX4_digest_116 : decode cX4_digest 116 = .ok (.goto (-39), 3) := by decide +kernel
theorem dX4_digest_119 : decode cX4_digest 119 = .ok (.aload_n 0, 1) := by decide +kernel
theorem dX4_digest_120 : decode cX4_digest 120 = .ok (.aload_n 0, 1) := by decide +kernel
theorem dX4_digest_121 : decode cX4_digest 121 = .ok (.aload_n 0, 1) := by decide +kernel
theorem dX4_digest_122 : decode cX4_digest 122 = .ok (.lload_n 1, 1) := by decide +kernel
theorem dX4_digest_123 : decode cX4_digest 123 = .ok (.invokevirtual 219, 3) := by decide +kernel
theorem dX4_digest_126 : decode cX4_digest 126 = .ok (.invokevirtual 223, 3) := by decide +kernel
theorem dX4_digest_129 : decode cX4_digest 129 = .ok (.invokevirtual 226, 3) := by decide +kernel
theorem dX4_digest_132 : decode cX4_digest 132 = .ok (.lreturn, 1) := by decide +kernel
theorem dX4_digestOfLanterns_0 : decode cX4_digestOfLanterns 0 = .ok (.lload_n 1, 1) := by decide +kernel
theorem dX4_digestOfLanterns_1 : decode cX4_digestOfLanterns 1 = .ok (.lstore_n 3, 1) := by decide +kernel
theorem dX4_digestOfLanterns_2 : decode cX4_digestOfLanterns 2 = .ok (.iconst 0, 1) := by decide +kernel
theorem dX4_digestOfLanterns_3 : decode cX4_digestOfLanterns 3 = .ok (.istore 5, 2) := by decide +kernel
theorem dX4_digestOfLanterns_5 : decode cX4_digestOfLanterns 5 = .ok (.iload 5, 2) := by decide +kernel
theorem dX4_digestOfLanterns_7 : decode cX4_digestOfLanterns 7 = .ok (.aload_n 0, 1) := by decide +kernel
theorem dX4_digestOfLanterns_8 : decode cX4_digestOfLanterns 8 = .ok (.getfield 10, 3) := by decide +kernel
theorem dX4_digestOfLanterns_11 : decode cX4_digestOfLanterns 11 = .ok (.getfield 54, 3) := by decide +kernel
theorem dX4_digestOfLanterns_14 : decode cX4_digestOfLanterns 14 = .ok (.if_icmp .ge 80, 3) := by decide +kernel
theorem dX4_digestOfLanterns_17 : decode cX4_digestOfLanterns 17 = .ok (.iconst 0, 1) := by decide +kernel
theorem dX4_digestOfLanterns_18 : decode cX4_digestOfLanterns 18 = .ok (.istore 6, 2) := by decide +kernel
theorem dX4_digestOfLanterns_20 : decode cX4_digestOfLanterns 20 = .ok (.iload 6, 2) := by decide +kernel
theorem dX4_digestOfLanterns_22 : decode cX4_digestOfLanterns 22 = .ok (.iconst 3, 1) := by decide +kernel
theorem dX4_digestOfLanterns_23 : decode cX4_digestOfLanterns 23 = .ok (.if_icmp .gt 25, 3) := by decide +kernel
theorem dX4_digestOfLanterns_26 : decode cX4_digestOfLanterns 26 = .ok (.lload_n 3, 1) := by decide +kernel
theorem dX4_digestOfLanterns_27 : decode cX4_digestOfLanterns 27 = .ok (.ldc2_w 209, 3) := by decide +kernel
theorem dX4_digestOfLanterns_30 : decode cX4_digestOfLanterns 30 = .ok (.lmul, 1) := by decide +kernel
theorem dX4_digestOfLanterns_31 : decode cX4_digestOfLanterns 31 = .ok (.aload_n 0, 1) := by decide +kernel
theorem dX4_digestOfLanterns_32 : decode cX4_digestOfLanterns 32 = .ok (.iload 5, 2) := by decide +kernel
theorem dX4_digestOfLanterns_34 : decode cX4_digestOfLanterns 34 = .ok (.iload 6, 2) := by decide +kernel
theorem dX4_digestOfLanterns_36 : decode cX4_digestOfLanterns 36 = .ok (.invokevirtual 229, 3) := by decide +kernel
theorem dX4_digestOfLanterns_39 : decode cX4_digestOfLanterns 39 = .ok (.i2l, 1) := by decide +kernel
theorem dX4_digestOfLanterns_40 : decode cX4_digestOfLanterns 40 = .ok (.ladd, 1) := by decide +kernel
theorem dX4_digestOfLanterns_41 : decode cX4_digestOfLanterns 41 = .ok (.lstore_n 3, 1) := by decide +kernel
theorem dX4_digestOfLanterns_42 : decode cX4_digestOfLanterns 42 = .ok (.iinc 6 1, 3) := by decide +kernel
theorem dX4_digestOfLanterns_45 : decode cX4_digestOfLanterns 45 = .ok (.goto (-25), 3) := by decide +kernel
theorem dX4_digestOfLanterns_48 : decode cX4_digestOfLanterns 48 = .ok (.iconst 0, 1) := by decide +kernel
theorem dX4_digestOfLanterns_49 : decode cX4_digestOfLanterns 49 = .ok (.istore 6, 2) := by decide +kernel
theorem dX4_digestOfLanterns_51 : decode cX4_digestOfLanterns 51 = .ok (.iload 6, 2) := by decide +kernel
theorem dX4_digestOfLanterns_53 : decode cX4_digestOfLanterns 53 = .ok (.bipush 10, 2) := by decide +kernel
theorem dX4_digestOfLanterns_55 : decode cX4_digestOfLanterns 55 = .ok (.if_icmp .ge 33, 3) := by decide +kernel
theorem dX4_digestOfLanterns_58 : decode cX4_digestOfLanterns 58 = .ok (.lload_n 3, 1) := by decide +kernel
theorem dX4_digestOfLanterns_59 : decode cX4_digestOfLanterns 59 = .ok (.ldc2_w 209, 3) := by decide +kernel
theorem dX4_digestOfLanterns_62 : decode cX4_digestOfLanterns 62 = .ok (.lmul, 1) := by decide +kernel
theorem dX4_digestOfLanterns_63 : decode cX4_digestOfLanterns 63 = .ok (.aload_n 0, 1) := by decide +kernel
theorem dX4_digestOfLanterns_64 : decode cX4_digestOfLanterns 64 = .ok (.getfield 10, 3) := by decide +kernel
theorem dX4_digestOfLanterns_67 : decode cX4_digestOfLanterns 67 = .ok (.getfield 66, 3) := by decide +kernel
theorem dX4_digestOfLanterns_70 : decode cX4_digestOfLanterns 70 = .ok (.iload 5, 2) := by decide +kernel
theorem dX4_digestOfLanterns_72 : decode cX4_digestOfLanterns 72 = .ok (.aaload, 1) := by decide +kernel
theorem dX4_digestOfLanterns_73 : decode cX4_digestOfLanterns 73 = .ok (.getfield 85, 3) := by decide +kernel
theorem dX4_digestOfLanterns_76 : decode cX4_digestOfLanterns 76 = .ok (.iload 6, 2) := by decide +kernel
theorem dX4_digestOfLanterns_78 : decode cX4_digestOfLanterns 78 = .ok (.iaload, 1) := by decide +kernel
theorem dX4_digestOfLanterns_79 : decode cX4_digestOfLanterns 79 = .ok (.i2l, 1) := by decide +kernel
theorem dX4_digestOfLanterns_80 : decode cX4_digestOfLanterns 80 = .ok (.ladd, 1) := by decide +kernel
theorem dX4_digestOfLanterns_81 : decode cX4_digestOfLanterns 81 = .ok (.lstore_n 3, 1) := by decide +kernel
theorem dX4_digestOfLanterns_82 : decode cX4_digestOfLanterns 82 = .ok (.iinc 6 1, 3) := by decide +kernel
theorem dX4_digestOfLanterns_85 : decode cX4_digestOfLanterns 85 = .ok (.goto (-34), 3) := by decide +kernel
theorem dX4_digestOfLanterns_88 : decode cX4_digestOfLanterns 88 = .ok (.iinc 5 1, 3) := by decide +kernel
theorem dX4_digestOfLanterns_91 : decode cX4_digestOfLanterns 91 = .ok (.goto (-86), 3) := by decide +kernel
theorem dX4_digestOfLanterns_94 : decode cX4_digestOfLanterns 94 = .ok (.lload_n 3, 1) := by decide +kernel
theorem dX4_digestOfLanterns_95 : decode cX4_digestOfLanterns 95 = .ok (.lreturn, 1) := by decide +kernel
theorem dX4_digestOfWatchmen_0 : decode cX4_digestOfWatchmen 0 = .ok (.lload_n 1, 1) := by decide +kernel
theorem dX4_digestOfWatchmen_1 : decode cX4_digestOfWatchmen 1 = .ok (.lstore_n 3, 1) := by decide +kernel
theorem dX4_digestOfWatchmen_2 : decode cX4_digestOfWatchmen 2 = .ok (.iconst 0, 1) := by decide +kernel
theorem dX4_digestOfWatchmen_3 : decode cX4_digestOfWatchmen 3 = .ok (.istore 5, 2) := by decide +kernel
theorem dX4_digestOfWatchmen_5 : decode cX4_digestOfWatchmen 5 = .ok (.iload 5, 2) := by decide +kernel
theorem dX4_digestOfWatchmen_7 : decode cX4_digestOfWatchmen 7 = .ok (.aload_n 0, 1) := by decide +kernel
theorem dX4_digestOfWatchmen_8 : decode cX4_digestOfWatchmen 8 = .ok (.getfield 10, 3) := by decide +kernel
theorem dX4_digestOfWatchmen_11 : decode cX4_digestOfWatchmen 11 = .ok (.getfield 92, 3) := by decide +kernel
theorem dX4_digestOfWatchmen_14 : decode cX4_digestOfWatchmen 14 = .ok (.if_icmp .ge 40, 3) := by decide +kernel
theorem dX4_digestOfWatchmen_17 : decode cX4_digestOfWatchmen 17 = .ok (.iconst 0, 1) := by decide +kernel
theorem dX4_digestOfWatchmen_18 : decode cX4_digestOfWatchmen 18 = .ok (.istore 6, 2) := by decide +kernel
theorem dX4_digestOfWatchmen_20 : decode cX4_digestOfWatchmen 20 = .ok (.iload 6, 2) := by decide +kernel
theorem dX4_digestOfWatchmen_22 : decode cX4_digestOfWatchmen 22 = .ok (.iconst 4, 1) := by decide +kernel
theorem dX4_digestOfWatchmen_23 : decode cX4_digestOfWatchmen 23 = .ok (.if_icmp .gt 25, 3) := by decide +kernel
theorem dX4_digestOfWatchmen_26 : decode cX4_digestOfWatchmen 26 = .ok (.lload_n 3, 1) := by decide +kernel
theorem dX4_digestOfWatchmen_27 : decode cX4_digestOfWatchmen 27 = .ok (.ldc2_w 209, 3) := by decide +kernel
theorem dX4_digestOfWatchmen_30 : decode cX4_digestOfWatchmen 30 = .ok (.lmul, 1) := by decide +kernel
theorem dX4_digestOfWatchmen_31 : decode cX4_digestOfWatchmen 31 = .ok (.aload_n 0, 1) := by decide +kernel
theorem dX4_digestOfWatchmen_32 : decode cX4_digestOfWatchmen 32 = .ok (.iload 5, 2) := by decide +kernel
theorem dX4_digestOfWatchmen_34 : decode cX4_digestOfWatchmen 34 = .ok (.iload 6, 2) := by decide +kernel
theorem dX4_digestOfWatchmen_36 : decode cX4_digestOfWatchmen 36 = .ok (.invokevirtual 232, 3) := by decide +kernel
theorem dX4_digestOfWatchmen_39 : decode cX4_digestOfWatchmen 39 = .ok (.i2l, 1) := by decide +kernel
theorem dX4_digestOfWatchmen_40 : decode cX4_digestOfWatchmen 40 = .ok (.ladd, 1) := by decide +kernel
theorem dX4_digestOfWatchmen_41 : decode cX4_digestOfWatchmen 41 = .ok (.lstore_n 3, 1) := by decide +kernel
theorem dX4_digestOfWatchmen_42 : decode cX4_digestOfWatchmen 42 = .ok (.iinc 6 1, 3) := by decide +kernel
theorem dX4_digestOfWatchmen_45 : decode cX4_digestOfWatchmen 45 = .ok (.goto (-25), 3) := by decide +kernel
theorem dX4_digestOfWatchmen_48 : decode cX4_digestOfWatchmen 48 = .ok (.iinc 5 1, 3) := by decide +kernel
theorem dX4_digestOfWatchmen_51 : decode cX4_digestOfWatchmen 51 = .ok (.goto (-46), 3) := by decide +kernel
theorem dX4_digestOfWatchmen_54 : decode cX4_digestOfWatchmen 54 = .ok (.lload_n 3, 1) := by decide +kernel
theorem dX4_digestOfWatchmen_55 : decode cX4_digestOfWatchmen 55 = .ok (.lreturn, 1) := by decide +kernel
theorem dX4_digestOfBoats_0 : decode cX4_digestOfBoats 0 = .ok (.lload_n 1, 1) := by decide +kernel
theorem dX4_digestOfBoats_1 : decode cX4_digestOfBoats 1 = .ok (.lstore_n 3, 1) := by decide +kernel
theorem dX4_digestOfBoats_2 : decode cX4_digestOfBoats 2 = .ok (.iconst 0, 1) := by decide +kernel
theorem dX4_digestOfBoats_3 : decode cX4_digestOfBoats 3 = .ok (.istore 5, 2) := by decide +kernel
theorem dX4_digestOfBoats_5 : decode cX4_digestOfBoats 5 = .ok (.iload 5, 2) := by decide +kernel
theorem dX4_digestOfBoats_7 : decode cX4_digestOfBoats 7 = .ok (.aload_n 0, 1) := by decide +kernel
theorem dX4_digestOfBoats_8 : decode cX4_digestOfBoats 8 = .ok (.getfield 10, 3) := by decide +kernel
theorem dX4_digestOfBoats_11 : decode cX4_digestOfBoats 11 = .ok (.getfield 109, 3) := by decide +kernel
theorem dX4_digestOfBoats_14 : decode cX4_digestOfBoats 14 = .ok (.if_icmp .ge 41, 3) := by decide +kernel
theorem dX4_digestOfBoats_17 : decode cX4_digestOfBoats 17 = .ok (.iconst 0, 1) := by decide +kernel
theorem dX4_digestOfBoats_18 : decode cX4_digestOfBoats 18 = .ok (.istore 6, 2) := by decide +kernel
theorem dX4_digestOfBoats_20 : decode cX4_digestOfBoats 20 = .ok (.iload 6, 2) := by decide +kernel
theorem dX4_digestOfBoats_22 : decode cX4_digestOfBoats 22 = .ok (.bipush 6, 2) := by decide +kernel
theorem dX4_digestOfBoats_24 : decode cX4_digestOfBoats 24 = .ok (.if_icmp .gt 25, 3) := by decide +kernel
theorem dX4_digestOfBoats_27 : decode cX4_digestOfBoats 27 = .ok (.lload_n 3, 1) := by decide +kernel
theorem dX4_digestOfBoats_28 : decode cX4_digestOfBoats 28 = .ok (.ldc2_w 209, 3) := by decide +kernel
theorem dX4_digestOfBoats_31 : decode cX4_digestOfBoats 31 = .ok (.lmul, 1) := by decide +kernel
theorem dX4_digestOfBoats_32 : decode cX4_digestOfBoats 32 = .ok (.aload_n 0, 1) := by decide +kernel
theorem dX4_digestOfBoats_33 : decode cX4_digestOfBoats 33 = .ok (.iload 5, 2) := by decide +kernel
theorem dX4_digestOfBoats_35 : decode cX4_digestOfBoats 35 = .ok (.iload 6, 2) := by decide +kernel
theorem dX4_digestOfBoats_37 : decode cX4_digestOfBoats 37 = .ok (.invokevirtual 235, 3) := by decide +kernel
theorem dX4_digestOfBoats_40 : decode cX4_digestOfBoats 40 = .ok (.i2l, 1) := by decide +kernel
theorem dX4_digestOfBoats_41 : decode cX4_digestOfBoats 41 = .ok (.ladd, 1) := by decide +kernel
theorem dX4_digestOfBoats_42 : decode cX4_digestOfBoats 42 = .ok (.lstore_n 3, 1) := by decide +kernel
theorem dX4_digestOfBoats_43 : decode cX4_digestOfBoats 43 = .ok (.iinc 6 1, 3) := by decide +kernel
theorem dX4_digestOfBoats_46 : decode cX4_digestOfBoats 46 = .ok (.goto (-26), 3) := by decide +kernel
theorem dX4_digestOfBoats_49 : decode cX4_digestOfBoats 49 = .ok (.iinc 5 1, 3) := by decide +kernel
theorem dX4_digestOfBoats_52 : decode cX4_digestOfBoats 52 = .ok (.goto (-47), 3) := by decide +kernel
theorem dX4_digestOfBoats_55 : decode cX4_digestOfBoats 55 = .ok (.lload_n 3, 1) := by decide +kernel
theorem dX4_digestOfBoats_56 : decode cX4_digestOfBoats 56 = .ok (.lreturn, 1) := by decide +kernel
theorem dX4_balesIfSent_0 : decode cX4_balesIfSent 0 = .ok (.aload_n 0, 1) := by decide +kernel
theorem dX4_balesIfSent_1 : decode cX4_balesIfSent 1 = .ok (.getfield 16, 3) := by decide +kernel
theorem dX4_balesIfSent_4 : decode cX4_balesIfSent 4 = .ok (.aload_n 0, 1) := by decide +kernel
theorem dX4_balesIfSent_5 : decode cX4_balesIfSent 5 = .ok (.getfield 10, 3) := by decide +kernel
theorem dX4_balesIfSent_8 : decode cX4_balesIfSent 8 = .ok (.invokevirtual 185, 3) := by decide +kernel
theorem dX4_balesIfSent_11 : decode cX4_balesIfSent 11 = .ok (.aload_n 0, 1) := by decide +kernel
theorem dX4_balesIfSent_12 : decode cX4_balesIfSent 12 = .ok (.getfield 16, 3) := by decide +kernel
theorem dX4_balesIfSent_15 : decode cX4_balesIfSent 15 = .ok (.getfield 114, 3) := by decide +kernel
theorem dX4_balesIfSent_18 : decode cX4_balesIfSent 18 = .ok (.iload_n 1, 1) := by decide +kernel
theorem dX4_balesIfSent_19 : decode cX4_balesIfSent 19 = .ok (.aaload, 1) := by decide +kernel
theorem dX4_balesIfSent_20 : decode cX4_balesIfSent 20 = .ok (.iload_n 2, 1) := by decide +kernel
theorem dX4_balesIfSent_21 : decode cX4_balesIfSent 21 = .ok (.invokevirtual 132, 3) := by decide +kernel
theorem dX4_balesIfSent_24 : decode cX4_balesIfSent 24 = .ok (.aload_n 0, 1) := by decide +kernel
theorem dX4_balesIfSent_25 : decode cX4_balesIfSent 25 = .ok (.getfield 16, 3) := by decide +kernel
theorem dX4_balesIfSent_28 : decode cX4_balesIfSent 28 = .ok (.bipush 40, 2) := by decide +kernel
theorem dX4_balesIfSent_30 : decode cX4_balesIfSent 30 = .ok (.invokevirtual 182, 3) := by decide +kernel
theorem dX4_balesIfSent_33 : decode cX4_balesIfSent 33 = .ok (.aload_n 0, 1) := by decide +kernel
theorem dX4_balesIfSent_34 : decode cX4_balesIfSent 34 = .ok (.getfield 16, 3) := by decide +kernel
theorem dX4_balesIfSent_37 : decode cX4_balesIfSent 37 = .ok (.invokevirtual 238, 3) := by decide +kernel
theorem dX4_balesIfSent_40 : decode cX4_balesIfSent 40 = .ok (.ireturn, 1) := by decide +kernel
theorem dX4_requirePlace_0 : decode cX4_requirePlace 0 = .ok (.iload_n 0, 1) := by decide +kernel
theorem dX4_requirePlace_1 : decode cX4_requirePlace 1 = .ok (.ifCond .lt 9, 3) := by decide +kernel
theorem dX4_requirePlace_4 : decode cX4_requirePlace 4 = .ok (.iload_n 0, 1) := by decide +kernel
theorem dX4_requirePlace_5 : decode cX4_requirePlace 5 = .ok (.bipush 16, 2) := by decide +kernel
theorem dX4_requirePlace_7 : decode cX4_requirePlace 7 = .ok (.if_icmp .lt 13, 3) := by decide +kernel
theorem dX4_requirePlace_10 : decode cX4_requirePlace 10 = .ok (.new 78, 3) := by decide +kernel
theorem dX4_requirePlace_13 : decode cX4_requirePlace 13 = .ok (.dup, 1) := by decide +kernel
theorem dX4_requirePlace_14 : decode cX4_requirePlace 14 = .ok (.ldc 241, 2) := by decide +kernel
theorem dX4_requirePlace_16 : decode cX4_requirePlace 16 = .ok (.invokespecial 82, 3) := by decide +kernel
theorem dX4_requirePlace_19 : decode cX4_requirePlace 19 = .ok (.athrow, 1) := by decide +kernel
theorem dX4_requirePlace_20 : decode cX4_requirePlace 20 = .ok (.return_, 1) := by decide +kernel
theorem dX4_requirePlaceOrNone_0 : decode cX4_requirePlaceOrNone 0 = .ok (.iload_n 0, 1) := by decide +kernel
theorem dX4_requirePlaceOrNone_1 : decode cX4_requirePlaceOrNone 1 = .ok (.iconst (-1), 1) := by decide +kernel
theorem dX4_requirePlaceOrNone_2 : decode cX4_requirePlaceOrNone 2 = .ok (.if_icmp .lt 9, 3) := by decide +kernel
theorem dX4_requirePlaceOrNone_5 : decode cX4_requirePlaceOrNone 5 = .ok (.iload_n 0, 1) := by decide +kernel
theorem dX4_requirePlaceOrNone_6 : decode cX4_requirePlaceOrNone 6 = .ok (.bipush 16, 2) := by decide +kernel
theorem dX4_requirePlaceOrNone_8 : decode cX4_requirePlaceOrNone 8 = .ok (.if_icmp .lt 13, 3) := by decide +kernel
theorem dX4_requirePlaceOrNone_11 : decode cX4_requirePlaceOrNone 11 = .ok (.new 78, 3) := by decide +kernel
theorem dX4_requirePlaceOrNone_14 : decode cX4_requirePlaceOrNone 14 = .ok (.dup, 1) := by decide +kernel
theorem dX4_requirePlaceOrNone_15 : decode cX4_requirePlaceOrNone 15 = .ok (.ldc 243, 2) := by decide +kernel
theorem dX4_requirePlaceOrNone_17 : decode cX4_requirePlaceOrNone 17 = .ok (.invokespecial 82, 3) := by decide +kernel
theorem dX4_requirePlaceOrNone_20 : decode cX4_requirePlaceOrNone 20 = .ok (.athrow, 1) := by decide +kernel
theorem dX4_requirePlaceOrNone_21 : decode cX4_requirePlaceOrNone 21 = .ok (.return_, 1) := by decide +kernel
theorem dX4_requireCode_0 : decode cX4_requireCode 0 = .ok (.iload_n 0, 1) := by decide +kernel
theorem dX4_requireCode_1 : decode cX4_requireCode 1 = .ok (.iconst 1, 1) := by decide +kernel
theorem dX4_requireCode_2 : decode cX4_requireCode 2 = .ok (.if_icmp .lt 9, 3) := by decide +kernel
theorem dX4_requireCode_5 : decode cX4_requireCode 5 = .ok (.iload_n 0, 1) := by decide +kernel
theorem dX4_requireCode_6 : decode cX4_requireCode 6 = .ok (.bipush 7, 2) := by decide +kernel
theorem dX4_requireCode_8 : decode cX4_requireCode 8 = .ok (.if_icmp .le 13, 3) := by decide +kernel
theorem dX4_requireCode_11 : decode cX4_requireCode 11 = .ok (.new 78, 3) := by decide +kernel
theorem dX4_requireCode_14 : decode cX4_requireCode 14 = .ok (.dup, 1) := by decide +kernel
theorem dX4_requireCode_15 : decode cX4_requireCode 15 = .ok (.ldc 245, 2) := by decide +kernel
theorem dX4_requireCode_17 : decode cX4_requireCode 17 = .ok (.invokespecial 82, 3) := by decide +kernel
theorem dX4_requireCode_20 : decode cX4_requireCode 20 = .ok (.athrow, 1) := by decide +kernel
theorem dX4_requireCode_21 : decode cX4_requireCode 21 = .ok (.return_, 1) := by decide +kernel
theorem dX4_requireWhat_0 : decode cX4_requireWhat 0 = .ok (.iload_n 0, 1) := by decide +kernel
theorem dX4_requireWhat_1 : decode cX4_requireWhat 1 = .ok (.iload_n 1, 1) := by decide +kernel
theorem dX4_requireWhat_2 : decode cX4_requireWhat 2 = .ok (.if_icmp .lt 8, 3) := by decide +kernel
theorem dX4_requireWhat_5 : decode cX4_requireWhat 5 = .ok (.iload_n 0, 1) := by decide +kernel
theorem dX4_requireWhat_6 : decode cX4_requireWhat 6 = .ok (.iload_n 2, 1) := by decide +kernel
theorem dX4_requireWhat_7 : decode cX4_requireWhat 7 = .ok (.if_icmp .le 13, 3) := by decide +kernel
theorem dX4_requireWhat_10 : decode cX4_requireWhat 10 = .ok (.new 78, 3) := by decide +kernel
theorem dX4_requireWhat_13 : decode cX4_requireWhat 13 = .ok (.dup, 1) := by decide +kernel
theorem dX4_requireWhat_14 : decode cX4_requireWhat 14 = .ok (.ldc 247, 2) := by decide +kernel
theorem dX4_requireWhat_16 : decode cX4_requireWhat 16 = .ok (.invokespecial 82, 3) := by decide +kernel
theorem dX4_requireWhat_19 : decode cX4_requireWhat 19 = .ok (.athrow, 1) := by decide +kernel
theorem dX4_requireWhat_20 : decode cX4_requireWhat 20 = .ok (.return_, 1) := by decide +kernel
theorem dX4_requireHours_0 : decode cX4_requireHours 0 = .ok (.iload_n 0, 1) := by decide +kernel
theorem dX4_requireHours_1 : decode cX4_requireHours 1 = .ok (.iconst 1, 1) := by decide +kernel
theorem dX4_requireHours_2 : decode cX4_requireHours 2 = .ok (.if_icmp .lt 9, 3) := by decide +kernel
theorem dX4_requireHours_5 : decode cX4_requireHours 5 = .ok (.iload_n 0, 1) := by decide +kernel
theorem dX4_requireHours_6 : decode cX4_requireHours 6 = .ok (.bipush 60, 2) := by decide +kernel
theorem dX4_requireHours_8 : decode cX4_requireHours 8 = .ok (.if_icmp .le 13, 3) := by decide +kernel
theorem dX4_requireHours_11 : decode cX4_requireHours 11 = .ok (.new 23, 3) := by decide +kernel
theorem dX4_requireHours_14 : decode cX4_requireHours 14 = .ok (.dup, 1) := by decide +kernel
theorem dX4_requireHours_15 : decode cX4_requireHours 15 = .ok (.ldc 249, 2) := by decide +kernel
theorem dX4_requireHours_17 : decode cX4_requireHours 17 = .ok (.invokespecial 27, 3) := by decide +kernel
theorem dX4_requireHours_20 : decode cX4_requireHours 20 = .ok (.athrow, 1) := by decide +kernel
theorem dX4_requireHours_21 : decode cX4_requireHours 21 = .ok (.return_, 1) := by decide +kernel
theorem dX4_requireLantern_0 : decode cX4_requireLantern 0 = .ok (.iload_n 1, 1) := by decide +kernel
theorem dX4_requireLantern_1 : decode cX4_requireLantern 1 = .ok (.ifCond .lt 14, 3) := by decide +kernel
theorem dX4_requireLantern_4 : decode cX4_requireLantern 4 = .ok (.iload_n 1, 1) := by decide +kernel
theorem dX4_requireLantern_5 : decode cX4_requireLantern 5 = .ok (.aload_n 0, 1) := by decide +kernel
theorem dX4_requireLantern_6 : decode cX4_requireLantern 6 = .ok (.getfield 10, 3) := by decide +kernel
theorem dX4_requireLantern_9 : decode cX4_requireLantern 9 = .ok (.getfield 54, 3) := by decide +kernel
theorem dX4_requireLantern_12 : decode cX4_requireLantern 12 = .ok (.if_icmp .lt 13, 3) := by decide +kernel
theorem dX4_requireLantern_15 : decode cX4_requireLantern 15 = .ok (.new 78, 3) := by decide +kernel
theorem dX4_requireLantern_18 : decode cX4_requireLantern 18 = .ok (.dup, 1) := by decide +kernel
theorem dX4_requireLantern_19 : decode cX4_requireLantern 19 = .ok (.ldc 251, 2) := by decide +kernel
theorem dX4_requireLantern_21 : decode cX4_requireLantern 21 = .ok (.invokespecial 82, 3) := by decide +kernel
theorem dX4_requireLantern_24 : decode cX4_requireLantern 24 = .ok (.athrow, 1) := by decide +kernel
theorem dX4_requireLantern_25 : decode cX4_requireLantern 25 = .ok (.return_, 1) := by decide +kernel
theorem dX4_requireBoat_0 : decode cX4_requireBoat 0 = .ok (.iload_n 1, 1) := by decide +kernel
theorem dX4_requireBoat_1 : decode cX4_requireBoat 1 = .ok (.ifCond .lt 14, 3) := by decide +kernel
theorem dX4_requireBoat_4 : decode cX4_requireBoat 4 = .ok (.iload_n 1, 1) := by decide +kernel
theorem dX4_requireBoat_5 : decode cX4_requireBoat 5 = .ok (.aload_n 0, 1) := by decide +kernel
theorem dX4_requireBoat_6 : decode cX4_requireBoat 6 = .ok (.getfield 10, 3) := by decide +kernel
theorem dX4_requireBoat_9 : decode cX4_requireBoat 9 = .ok (.getfield 109, 3) := by decide +kernel
theorem dX4_requireBoat_12 : decode cX4_requireBoat 12 = .ok (.if_icmp .lt 13, 3) := by decide +kernel
theorem dX4_requireBoat_15 : decode cX4_requireBoat 15 = .ok (.new 78, 3) := by decide +kernel
theorem dX4_requireBoat_18 : decode cX4_requireBoat 18 = .ok (.dup, 1) := by decide +kernel
theorem dX4_requireBoat_19 : decode cX4_requireBoat 19 = .ok (.ldc 253, 2) := by decide +kernel
theorem dX4_requireBoat_21 : decode cX4_requireBoat 21 = .ok (.invokespecial 82, 3) := by decide +kernel
theorem dX4_requireBoat_24 : decode cX4_requireBoat 24 = .ok (.athrow, 1) := by decide +kernel
theorem dX4_requireBoat_25 : decode cX4_requireBoat 25 = .ok (.return_, 1) := by decide +kernel
theorem dX4_requireAtSea_0 : decode cX4_requireAtSea 0 = .ok (.aload_n 0, 1) := by decide +kernel
theorem dX4_requireAtSea_1 : decode cX4_requireAtSea 1 = .ok (.getfield 10, 3) := by decide +kernel
theorem dX4_requireAtSea_4 : decode cX4_requireAtSea 4 = .ok (.getfield 114, 3) := by decide +kernel
theorem dX4_requireAtSea_7 : decode cX4_requireAtSea 7 = .ok (.iload_n 1, 1) := by decide +kernel
theorem dX4_requireAtSea_8 : decode cX4_requireAtSea 8 = .ok (.aaload, 1) := by decide +kernel
theorem dX4_requireAtSea_9 : decode cX4_requireAtSea 9 = .ok (.getfield 189, 3) := by decide +kernel
theorem dX4_requireAtSea_12 : decode cX4_requireAtSea 12 = .ok (.ifCond .eq 13, 3) := by decide +kernel
theorem dX4_requireAtSea_15 : decode cX4_requireAtSea 15 = .ok (.new 34, 3) := by decide +kernel
theorem dX4_requireAtSea_18 : decode cX4_requireAtSea 18 = .ok (.dup, 1) := by decide +kernel
theorem dX4_requireAtSea_19 : decode cX4_requireAtSea 19 = .ok (.ldc 255, 2) := by decide +kernel
theorem dX4_requireAtSea_21 : decode cX4_requireAtSea 21 = .ok (.invokespecial 38, 3) := by decide +kernel
theorem dX4_requireAtSea_24 : decode cX4_requireAtSea 24 = .ok (.athrow, 1) := by decide +kernel
theorem dX4_requireAtSea_25 : decode cX4_requireAtSea 25 = .ok (.return_, 1) := by decide +kernel
theorem dX4_moonOf_0 : decode cX4_moonOf 0 = .ok (.iload_n 0, 1) := by decide +kernel
theorem dX4_moonOf_1 : decode cX4_moonOf 1 = .ok (.bipush 12, 2) := by decide +kernel
theorem dX4_moonOf_3 : decode cX4_moonOf 3 = .ok (.invokestatic 257, 3) := by decide +kernel
theorem dX4_moonOf_6 : decode cX4_moonOf 6 = .ok (.bipush 6, 2) := by decide +kernel
theorem dX4_moonOf_8 : decode cX4_moonOf 8 = .ok (.isub, 1) := by decide +kernel
theorem dX4_moonOf_9 : decode cX4_moonOf 9 = .ok (.istore_n 1, 1) := by decide +kernel
theorem dX4_moonOf_10 : decode cX4_moonOf 10 = .ok (.iload_n 1, 1) := by decide +kernel
theorem dX4_moonOf_11 : decode cX4_moonOf 11 = .ok (.ifCond .ge 8, 3) := by decide +kernel
theorem dX4_moonOf_14 : decode cX4_moonOf 14 = .ok (.iload_n 1, 1) := by decide +kernel
theorem dX4_moonOf_15 : decode cX4_moonOf 15 = .ok (.ineg, 1) := by decide +kernel
theorem dX4_moonOf_16 : decode cX4_moonOf 16 = .ok (.goto 4, 3) := by decide +kernel
theorem dX4_moonOf_19 : decode cX4_moonOf 19 = .ok (.iload_n 1, 1) := by decide +kernel
theorem dX4_moonOf_20 : decode cX4_moonOf 20 = .ok (.ireturn, 1) := by decide +kernel
theorem dX4_distance_0 : decode cX4_distance 0 = .ok (.iload_n 0, 1) := by decide +kernel
theorem dX4_distance_1 : decode cX4_distance 1 = .ok (.iload_n 1, 1) := by decide +kernel
theorem dX4_distance_2 : decode cX4_distance 2 = .ok (.if_icmp .ge 9, 3) := by decide +kernel
theorem dX4_distance_5 : decode cX4_distance 5 = .ok (.iload_n 1, 1) := by decide +kernel
theorem dX4_distance_6 : decode cX4_distance 6 = .ok (.iload_n 0, 1) := by decide +kernel
theorem dX4_distance_7 : decode cX4_distance 7 = .ok (.isub, 1) := by decide +kernel
theorem dX4_distance_8 : decode cX4_distance 8 = .ok (.goto 6, 3) := by decide +kernel
theorem dX4_distance_11 : decode cX4_distance 11 = .ok (.iload_n 0, 1) := by decide +kernel
theorem dX4_distance_12 : decode cX4_distance 12 = .ok (.iload_n 1, 1) := by decide +kernel
theorem dX4_distance_13 : decode cX4_distance 13 = .ok (.isub, 1) := by decide +kernel
theorem dX4_distance_14 : decode cX4_distance 14 = .ok (.ireturn, 1) := by decide +kernel
theorem dX5_init_0 : decode cX5_init 0 = .ok (.aload_n 0, 1) := by decide +kernel
theorem dX5_init_1 : decode cX5_init 1 = .ok (.invokespecial 3, 3) := by decide +kernel
theorem dX5_init_4 : decode cX5_init 4 = .ok (.aload_n 0, 1) := by decide +kernel
theorem dX5_init_5 : decode cX5_init 5 = .ok (.bipush 16, 2) := by decide +kernel
theorem dX5_init_7 : decode cX5_init 7 = .ok (.newarray .int, 2) := by decide +kernel
theorem dX5_init_9 : decode cX5_init 9 = .ok (.putfield 9, 3) := by decide +kernel
theorem dX5_init_12 : decode cX5_init 12 = .ok (.aload_n 0, 1) := by decide +kernel
theorem dX5_init_13 : decode cX5_init 13 = .ok (.bipush 16, 2) := by decide +kernel
theorem dX5_init_15 : decode cX5_init 15 = .ok (.newarray .int, 2) := by decide +kernel
theorem dX5_init_17 : decode cX5_init 17 = .ok (.putfield 15, 3) := by decide +kernel
theorem dX5_init_20 : decode cX5_init 20 = .ok (.aload_n 0, 1) := by decide +kernel
theorem dX5_init_21 : decode cX5_init 21 = .ok (.bipush 8, 2) := by decide +kernel
theorem dX5_init_23 : decode cX5_init 23 = .ok (.newarray .int, 2) := by decide +kernel
theorem dX5_init_25 : decode cX5_init 25 = .ok (.putfield 18, 3) := by decide +kernel
theorem dX5_init_28 : decode cX5_init 28 = .ok (.aload_n 0, 1) := by decide +kernel
theorem dX5_init_29 : decode cX5_init 29 = .ok (.bipush 8, 2) := by decide +kernel
theorem dX5_init_31 : decode cX5_init 31 = .ok (.newarray .int, 2) := by decide +kernel
theorem dX5_init_33 : decode cX5_init 33 = .ok (.putfield 21, 3) := by decide +kernel
theorem dX5_init_36 : decode cX5_init 36 = .ok (.aload_n 0, 1) := by decide +kernel
theorem dX5_init_37 : decode cX5_init 37 = .ok (.iconst 5, 1) := by decide +kernel
theorem dX5_init_38 : decode cX5_init 38 = .ok (.newarray .int, 2) := by decide +kernel
theorem dX5_init_40 : decode cX5_init 40 = .ok (.putfield 24, 3) := by decide +kernel
theorem dX5_init_43 : decode cX5_init 43 = .ok (.aload_n 0, 1) := by decide +kernel
theorem dX5_init_44 : decode cX5_init 44 = .ok (.bipush 50, 2) := by decide +kernel
theorem dX5_init_46 : decode cX5_init 46 = .ok (.newarray .int, 2) := by decide +kernel
theorem dX5_init_48 : decode cX5_init 48 = .ok (.putfield 27, 3) := by decide +kernel
theorem dX5_init_51 : decode cX5_init 51 = .ok (.aload_n 0, 1) := by decide +kernel
theorem dX5_init_52 : decode cX5_init 52 = .ok (.iconst 5, 1) := by decide +kernel
theorem dX5_init_53 : decode cX5_init 53 = .ok (.newarray .int, 2) := by decide +kernel
theorem dX5_init_55 : decode cX5_init 55 = .ok (.putfield 30, 3) := by decide +kernel
theorem dX5_init_58 : decode cX5_init 58 = .ok (.aload_n 0, 1) := by decide +kernel
theorem dX5_init_59 : decode cX5_init 59 = .ok (.iconst 4, 1) := by decide +kernel
theorem dX5_init_60 : decode cX5_init 60 = .ok (.newarray .int, 2) := by decide +kernel
theorem dX5_init_62 : decode cX5_init 62 = .ok (.putfield 33, 3) := by decide +kernel
theorem dX5_init_65 : decode cX5_init 65 = .ok (.aload_n 0, 1) := by decide +kernel
theorem dX5_init_66 : decode cX5_init 66 = .ok (.iconst 4, 1) := by decide +kernel
theorem dX5_init_67 : decode cX5_init 67 = .ok (.newarray .int, 2) := by decide +kernel
theorem dX5_init_69 : decode cX5_init 69 = .ok (.putfield 36, 3) := by decide +kernel
theorem dX5_init_72 : decode cX5_init 72 = .ok (.aload_n 0, 1) := by decide +kernel
theorem dX5_init_73 : decode cX5_init 73 = .ok (.iconst 4, 1) := by decide +kernel
theorem dX5_init_74 : decode cX5_init 74 = .ok (.newarray .int, 2) := by decide +kernel
theorem dX5_init_76 : decode cX5_init 76 = .ok (.putfield 39, 3) := by decide +kernel
theorem dX5_init_79 : decode cX5_init 79 = .ok (.aload_n 0, 1) := by decide +kernel
theorem dX5_init_80 : decode cX5_init 80 = .ok (.iconst 4, 1) := by decide +kernel
theorem dX5_init_81 : decode cX5_init 81 = .ok (.newarray .int, 2) := by decide +kernel
theorem dX5_init_83 : decode cX5_init 83 = .ok (.putfield 42, 3) := by decide +kernel
theorem dX5_init_86 : decode cX5_init 86 = .ok (.aload_n 0, 1) := by decide +kernel
theorem dX5_init_87 : decode cX5_init 87 = .ok (.iconst 4, 1) := by decide +kernel
theorem dX5_init_88 : decode cX5_init 88 = .ok (.newarray .int, 2) := by decide +kernel
theorem dX5_init_90 : decode cX5_init 90 = .ok (.putfield 45, 3) := by decide +kernel
theorem dX5_init_93 : decode cX5_init 93 = .ok (.aload_n 0, 1) := by decide +kernel
theorem dX5_init_94 : decode cX5_init 94 = .ok (.iconst 4, 1) := by decide +kernel
theorem dX5_init_95 : decode cX5_init 95 = .ok (.newarray .int, 2) := by decide +kernel
theorem dX5_init_97 : decode cX5_init 97 = .ok (.putfield 48, 3) := by decide +kernel
theorem dX5_init_100 : decode cX5_init 100 = .ok (.aload_n 0, 1) := by decide +kernel
theorem dX5_init_101 : decode cX5_init 101 = .ok (.bipush 6, 2) := by decide +kernel
theorem dX5_init_103 : decode cX5_init 103 = .ok (.newarray .int, 2) := by decide +kernel
theorem dX5_init_105 : decode cX5_init 105 = .ok (.putfield 51, 3) := by decide +kernel
theorem dX5_init_108 : decode cX5_init 108 = .ok (.aload_n 0, 1) := by decide +kernel
theorem dX5_init_109 : decode cX5_init 109 = .ok (.bipush 6, 2) := by decide +kernel
theorem dX5_init_111 : decode cX5_init 111 = .ok (.newarray .int, 2) := by decide +kernel
theorem dX5_init_113 : decode cX5_init 113 = .ok (.putfield 54, 3) := by decide +kernel
theorem dX5_init_116 : decode cX5_init 116 = .ok (.aload_n 0, 1) := by decide +kernel
theorem dX5_init_117 : decode cX5_init 117 = .ok (.bipush 6, 2) := by decide +kernel
theorem dX5_init_119 : decode cX5_init 119 = .ok (.newarray .int, 2) := by decide +kernel
theorem dX5_init_121 : decode cX5_init 121 = .ok (.putfield 57, 3) := by decide +kernel
theorem dX5_init_124 : decode cX5_init 124 = .ok (.aload_n 0, 1) := by decide +kernel
theorem dX5_init_125 : decode cX5_init 125 = .ok (.bipush 6, 2) := by decide +kernel
theorem dX5_init_127 : decode cX5_init 127 = .ok (.newarray .int, 2) := by decide +kernel
theorem dX5_init_129 : decode cX5_init 129 = .ok (.putfield 60, 3) := by decide +kernel
theorem dX5_init_132 : decode cX5_init 132 = .ok (.aload_n 0, 1) := by decide +kernel
theorem dX5_init_133 : decode cX5_init 133 = .ok (.bipush 6, 2) := by decide +kernel
theorem dX5_init_135 : decode cX5_init 135 = .ok (.newarray .int, 2) := by decide +kernel
theorem dX5_init_137 : decode cX5_init 137 = .ok (.putfield 63, 3) := by decide +kernel
theorem dX5_init_140 : decode cX5_init 140 = .ok (.aload_n 0, 1) := by decide +kernel
theorem dX5_init_141 : decode cX5_init 141 = .ok (.bipush 6, 2) := by decide +kernel
theorem dX5_init_143 : decode cX5_init 143 = .ok (.newarray .int, 2) := by decide +kernel
theorem dX5_init_145 : decode cX5_init 145 = .ok (.putfield 66, 3) := by decide +kernel
theorem dX5_init_148 : decode cX5_init 148 = .ok (.aload_n 0, 1) := by decide +kernel
theorem dX5_init_149 : decode cX5_init 149 = .ok (.bipush 6, 2) := by decide +kernel
theorem dX5_init_151 : decode cX5_init 151 = .ok (.newarray .int, 2) := by decide +kernel
theorem dX5_init_153 : decode cX5_init 153 = .ok (.putfield 69, 3) := by decide +kernel
theorem dX5_init_156 : decode cX5_init 156 = .ok (.iconst 0, 1) := by decide +kernel
theorem dX5_init_157 : decode cX5_init 157 = .ok (.istore_n 1, 1) := by decide +kernel
theorem dX5_init_158 : decode cX5_init 158 = .ok (.iload_n 1, 1) := by decide +kernel
theorem dX5_init_159 : decode cX5_init 159 = .ok (.bipush 7, 2) := by decide +kernel
theorem dX5_init_161 : decode cX5_init 161 = .ok (.if_icmp .gt 16, 3) := by decide +kernel
theorem dX5_init_164 : decode cX5_init 164 = .ok (.aload_n 0, 1) := by decide +kernel
theorem dX5_init_165 : decode cX5_init 165 = .ok (.getfield 18, 3) := by decide +kernel
theorem dX5_init_168 : decode cX5_init 168 = .ok (.iload_n 1, 1) := by decide +kernel
theorem dX5_init_169 : decode cX5_init 169 = .ok (.iconst (-1), 1) := by decide +kernel
theorem dX5_init_170 : decode cX5_init 170 = .ok (.iastore, 1) := by decide +kernel
theorem dX5_init_171 : decode cX5_init 171 = .ok (.iinc 1 1, 3) := by decide +kernel
theorem dX5_init_174 : decode cX5_init 174 = .ok (.goto (-16), 3) := by decide +kernel
theorem dX5_init_177 : decode cX5_init 177 = .ok (.return_, 1) := by decide +kernel
theorem dX5_copy_0 : decode cX5_copy 0 = .ok (.aload_n 0, 1) := by decide +kernel
theorem dX5_copy_1 : decode cX5_copy 1 = .ok (.iconst 0, 1) := by decide +kernel
theorem dX5_copy_2 : decode cX5_copy 2 = .ok (.aload_n 1, 1) := by decide +kernel
theorem dX5_copy_3 : decode cX5_copy 3 = .ok (.iconst 0, 1) := by decide +kernel
theorem dX5_copy_4 : decode cX5_copy 4 = .ok (.aload_n 1, 1) := by decide +kernel
theorem dX5_copy_5 : decode cX5_copy 5 = .ok (.arraylength, 1) := by decide +kernel
theorem dX5_copy_6 : decode cX5_copy 6 = .ok (.invokestatic 72, 3) := by decide +kernel
theorem dX5_copy_9 : decode cX5_copy 9 = .ok (.return_, 1) := by decide +kernel
theorem dX5_become_0 : decode cX5_become 0 = .ok (.aload_n 0, 1) := by decide +kernel
theorem dX5_become_1 : decode cX5_become 1 = .ok (.aload_n 1, 1) := by decide +kernel
theorem dX5_become_2 : decode cX5_become 2 = .ok (.getfield 78, 3) := by decide +kernel
theorem dX5_become_5 : decode cX5_become 5 = .ok (.putfield 78, 3) := by decide +kernel
theorem dX5_become_8 : decode cX5_become 8 = .ok (.aload_n 0, 1) := by decide +kernel
theorem dX5_become_9 : decode cX5_become 9 = .ok (.aload_n 1, 1) := by decide +kernel
theorem dX5_become_10 : decode cX5_become 10 = .ok (.getfield 82, 3) := by decide +kernel
theorem dX5_become_13 : decode cX5_become 13 = .ok (.putfield 82, 3) := by decide +kernel
theorem dX5_become_16 : decode cX5_become 16 = .ok (.aload_n 0, 1) := by decide +kernel
theorem dX5_become_17 : decode cX5_become 17 = .ok (.aload_n 1, 1) := by decide +kernel
theorem dX5_become_18 : decode cX5_become 18 = .ok (.getfield 85, 3) := by decide +kernel
theorem dX5_become_21 : decode cX5_become 21 = .ok (.putfield 85, 3) := by decide +kernel
theorem dX5_become_24 : decode cX5_become 24 = .ok (.aload_n 0, 1) := by decide +kernel
theorem dX5_become_25 : decode cX5_become 25 = .ok (.aload_n 1, 1) := by decide +kernel
theorem dX5_become_26 : decode cX5_become 26 = .ok (.getfield 88, 3) := by decide +kernel
theorem dX5_become_29 : decode cX5_become 29 = .ok (.putfield 88, 3) := by decide +kernel
theorem dX5_become_32 : decode cX5_become 32 = .ok (.aload_n 0, 1) := by decide +kernel
theorem dX5_become_33 : decode cX5_become 33 = .ok (.aload_n 1, 1) := by decide +kernel
theorem dX5_become_34 : decode cX5_become 34 = .ok (.getfield 91, 3) := by decide +kernel
theorem dX5_become_37 : decode cX5_become 37 = .ok (.putfield 91, 3) := by decide +kernel
theorem dX5_become_40 : decode cX5_become 40 = .ok (.aload_n 0, 1) := by decide +kernel
theorem dX5_become_41 : decode cX5_become 41 = .ok (.aload_n 1, 1) := by decide +kernel
theorem dX5_become_42 : decode cX5_become 42 = .ok (.getfield 94, 3) := by decide +kernel
theorem dX5_become_45 : decode cX5_become 45 = .ok (.putfield 94, 3) := by decide +kernel
theorem dX5_become_48 : decode cX5_become 48 = .ok (.aload_n 1, 1) := by decide +kernel
theorem dX5_become_49 : decode cX5_become 49 = .ok (.getfield 9, 3) := by decide +kernel
theorem dX5_become_52 : decode cX5_become 52 = .ok (.aload_n 0, 1) := by decide +kernel
theorem dX5_become_53 : decode cX5_become 53 = .ok (.getfield 9, 3) := by decide +kernel
theorem dX5_become_56 : decode cX5_become 56 = .ok (.invokestatic 97, 3) := by decide +kernel
theorem dX5_become_59 : decode cX5_become 59 = .ok (.aload_n 1, 1) := by decide +kernel
theorem dX5_become_60 : decode cX5_become 60 = .ok (.getfield 15, 3) := by decide +kernel
theorem dX5_become_63 : decode cX5_become 63 = .ok (.aload_n 0, 1) := by decide +kernel
theorem dX5_become_64 : decode cX5_become 64 = .ok (.getfield 15, 3) := by decide +kernel
theorem dX5_become_67 : decode cX5_become 67 = .ok (.invokestatic 97, 3) := by decide +kernel
theorem dX5_become_70 : decode cX5_become 70 = .ok (.aload_n 1, 1) := by decide +kernel
theorem dX5_become_71 : decode cX5_become 71 = .ok (.getfield 18, 3) := by decide +kernel
theorem dX5_become_74 : decode cX5_become 74 = .ok (.aload_n 0, 1) := by decide +kernel
theorem dX5_become_75 : decode cX5_become 75 = .ok (.getfield 18, 3) := by decide +kernel
theorem dX5_become_78 : decode cX5_become 78 = .ok (.invokestatic 97, 3) := by decide +kernel
theorem dX5_become_81 : decode cX5_become 81 = .ok (.aload_n 1, 1) := by decide +kernel
theorem dX5_become_82 : decode cX5_become 82 = .ok (.getfield 21, 3) := by decide +kernel
theorem dX5_become_85 : decode cX5_become 85 = .ok (.aload_n 0, 1) := by decide +kernel
theorem dX5_become_86 : decode cX5_become 86 = .ok (.getfield 21, 3) := by decide +kernel
theorem dX5_become_89 : decode cX5_become 89 = .ok (.invokestatic 97, 3) := by decide +kernel
theorem dX5_become_92 : decode cX5_become 92 = .ok (.aload_n 1, 1) := by decide +kernel
theorem dX5_become_93 : decode cX5_become 93 = .ok (.getfield 24, 3) := by decide +kernel
theorem dX5_become_96 : decode cX5_become 96 = .ok (.aload_n 0, 1) := by decide +kernel
theorem dX5_become_97 : decode cX5_become 97 = .ok (.getfield 24, 3) := by decide +kernel
theorem dX5_become_100 : decode cX5_become 100 = .ok (.invokestatic 97, 3) := by decide +kernel
theorem dX5_become_103 : decode cX5_become 103 = .ok (.aload_n 1, 1) := by decide +kernel
theorem dX5_become_104 : decode cX5_become 104 = .ok (.getfield 27, 3) := by decide +kernel
theorem dX5_become_107 : decode cX5_become 107 = .ok (.aload_n 0, 1) := by decide +kernel
theorem dX5_become_108 : decode cX5_become 108 = .ok (.getfield 27, 3) := by decide +kernel
theorem dX5_become_111 : decode cX5_become 111 = .ok (.invokestatic 97, 3) := by decide +kernel
theorem dX5_become_114 : decode cX5_become 114 = .ok (.aload_n 1, 1) := by decide +kernel
theorem dX5_become_115 : decode cX5_become 115 = .ok (.getfield 30, 3) := by decide +kernel
theorem dX5_become_118 : decode cX5_become 118 = .ok (.aload_n 0, 1) := by decide +kernel
theorem dX5_become_119 : decode cX5_become 119 = .ok (.getfield 30, 3) := by decide +kernel
theorem dX5_become_122 : decode cX5_become 122 = .ok (.invokestatic 97, 3) := by decide +kernel
theorem dX5_become_125 : decode cX5_become 125 = .ok (.aload_n 1, 1) := by decide +kernel
theorem dX5_become_126 : decode cX5_become 126 = .ok (.getfield 33, 3) := by decide +kernel
theorem dX5_become_129 : decode cX5_become 129 = .ok (.aload_n 0, 1) := by decide +kernel
theorem dX5_become_130 : decode cX5_become 130 = .ok (.getfield 33, 3) := by decide +kernel
theorem dX5_become_133 : decode cX5_become 133 = .ok (.invokestatic 97, 3) := by decide +kernel
theorem dX5_become_136 : decode cX5_become 136 = .ok (.aload_n 1, 1) := by decide +kernel
theorem dX5_become_137 : decode cX5_become 137 = .ok (.getfield 36, 3) := by decide +kernel
theorem dX5_become_140 : decode cX5_become 140 = .ok (.aload_n 0, 1) := by decide +kernel
theorem dX5_become_141 : decode cX5_become 141 = .ok (.getfield 36, 3) := by decide +kernel
theorem dX5_become_144 : decode cX5_become 144 = .ok (.invokestatic 97, 3) := by decide +kernel
theorem dX5_become_147 : decode cX5_become 147 = .ok (.aload_n 1, 1) := by decide +kernel
theorem dX5_become_148 : decode cX5_become 148 = .ok (.getfield 39, 3) := by decide +kernel
theorem dX5_become_151 : decode cX5_become 151 = .ok (.aload_n 0, 1) := by decide +kernel
theorem dX5_become_152 : decode cX5_become 152 = .ok (.getfield 39, 3) := by decide +kernel
theorem dX5_become_155 : decode cX5_become 155 = .ok (.invokestatic 97, 3) := by decide +kernel
theorem dX5_become_158 : decode cX5_become 158 = .ok (.aload_n 1, 1) := by decide +kernel
theorem dX5_become_159 : decode cX5_become 159 = .ok (.getfield 42, 3) := by decide +kernel
theorem dX5_become_162 : decode cX5_become 162 = .ok (.aload_n 0, 1) := by decide +kernel
theorem dX5_become_163 : decode cX5_become 163 = .ok (.getfield 42, 3) := by decide +kernel
theorem dX5_become_166 : decode cX5_become 166 = .ok (.invokestatic 97, 3) := by decide +kernel
theorem dX5_become_169 : decode cX5_become 169 = .ok (.aload_n 1, 1) := by decide +kernel
theorem dX5_become_170 : decode cX5_become 170 = .ok (.getfield 45, 3) := by decide +kernel
theorem dX5_become_173 : decode cX5_become 173 = .ok (.aload_n 0, 1) := by decide +kernel
theorem dX5_become_174 : decode cX5_become 174 = .ok (.getfield 45, 3) := by decide +kernel
theorem dX5_become_177 : decode cX5_become 177 = .ok (.invokestatic 97, 3) := by decide +kernel
theorem dX5_become_180 : decode cX5_become 180 = .ok (.aload_n 1, 1) := by decide +kernel
theorem dX5_become_181 : decode cX5_become 181 = .ok (.getfield 48, 3) := by decide +kernel
theorem dX5_become_184 : decode cX5_become 184 = .ok (.aload_n 0, 1) := by decide +kernel
theorem dX5_become_185 : decode cX5_become 185 = .ok (.getfield 48, 3) := by decide +kernel
theorem dX5_become_188 : decode cX5_become 188 = .ok (.invokestatic 97, 3) := by decide +kernel
theorem dX5_become_191 : decode cX5_become 191 = .ok (.aload_n 1, 1) := by decide +kernel
theorem dX5_become_192 : decode cX5_become 192 = .ok (.getfield 51, 3) := by decide +kernel
theorem dX5_become_195 : decode cX5_become 195 = .ok (.aload_n 0, 1) := by decide +kernel
theorem dX5_become_196 : decode cX5_become 196 = .ok (.getfield 51, 3) := by decide +kernel
theorem dX5_become_199 : decode cX5_become 199 = .ok (.invokestatic 97, 3) := by decide +kernel
theorem dX5_become_202 : decode cX5_become 202 = .ok (.aload_n 1, 1) := by decide +kernel
theorem dX5_become_203 : decode cX5_become 203 = .ok (.getfield 54, 3) := by decide +kernel
theorem dX5_become_206 : decode cX5_become 206 = .ok (.aload_n 0, 1) := by decide +kernel
theorem dX5_become_207 : decode cX5_become 207 = .ok (.getfield 54, 3) := by decide +kernel
theorem dX5_become_210 : decode cX5_become 210 = .ok (.invokestatic 97, 3) := by decide +kernel
theorem dX5_become_213 : decode cX5_become 213 = .ok (.aload_n 1, 1) := by decide +kernel
theorem dX5_become_214 : decode cX5_become 214 = .ok (.getfield 57, 3) := by decide +kernel
theorem dX5_become_217 : decode cX5_become 217 = .ok (.aload_n 0, 1) := by decide +kernel
theorem dX5_become_218 : decode cX5_become 218 = .ok (.getfield 57, 3) := by decide +kernel
theorem dX5_become_221 : decode cX5_become 221 = .ok (.invokestatic 97, 3) := by decide +kernel
theorem dX5_become_224 : decode cX5_become 224 = .ok (.aload_n 1, 1) := by decide +kernel
theorem dX5_become_225 : decode cX5_become 225 = .ok (.getfield 60, 3) := by decide +kernel
theorem dX5_become_228 : decode cX5_become 228 = .ok (.aload_n 0, 1) := by decide +kernel
theorem dX5_become_229 : decode cX5_become 229 = .ok (.getfield 60, 3) := by decide +kernel
theorem dX5_become_232 : decode cX5_become 232 = .ok (.invokestatic 97, 3) := by decide +kernel
theorem dX5_become_235 : decode cX5_become 235 = .ok (.aload_n 1, 1) := by decide +kernel
theorem dX5_become_236 : decode cX5_become 236 = .ok (.getfield 63, 3) := by decide +kernel
theorem dX5_become_239 : decode cX5_become 239 = .ok (.aload_n 0, 1) := by decide +kernel
theorem dX5_become_240 : decode cX5_become 240 = .ok (.getfield 63, 3) := by decide +kernel
theorem dX5_become_243 : decode cX5_become 243 = .ok (.invokestatic 97, 3) := by decide +kernel
theorem dX5_become_246 : decode cX5_become 246 = .ok (.aload_n 1, 1) := by decide +kernel
theorem dX5_become_247 : decode cX5_become 247 = .ok (.getfield 66, 3) := by decide +kernel
theorem dX5_become_250 : decode cX5_become 250 = .ok (.aload_n 0, 1) := by decide +kernel
theorem dX5_become_251 : decode cX5_become 251 = .ok (.getfield 66, 3) := by decide +kernel
theorem dX5_become_254 : decode cX5_become 254 = .ok (.invokestatic 97, 3) := by decide +kernel
theorem dX5_become_257 : decode cX5_become 257 = .ok (.aload_n 1, 1) := by decide +kernel
theorem dX5_become_258 : decode cX5_become 258 = .ok (.getfield 69, 3) := by decide +kernel
theorem dX5_become_261 : decode cX5_become 261 = .ok (.aload_n 0, 1) := by decide +kernel
theorem dX5_become_262 : decode cX5_become 262 = .ok (.getfield 69, 3) := by decide +kernel
theorem dX5_become_265 : decode cX5_become 265 = .ok (.invokestatic 97, 3) := by decide +kernel
theorem dX5_become_268 : decode cX5_become 268 = .ok (.return_, 1) := by decide +kernel
theorem dX5_moonOf_0 : decode cX5_moonOf 0 = .ok (.iload_n 0, 1) := by decide +kernel
theorem dX5_moonOf_1 : decode cX5_moonOf 1 = .ok (.bipush 12, 2) := by decide +kernel
theorem dX5_moonOf_3 : decode cX5_moonOf 3 = .ok (.irem, 1) := by decide +kernel
theorem dX5_moonOf_4 : decode cX5_moonOf 4 = .ok (.bipush 6, 2) := by decide +kernel
theorem dX5_moonOf_6 : decode cX5_moonOf 6 = .ok (.isub, 1) := by decide +kernel
theorem dX5_moonOf_7 : decode cX5_moonOf 7 = .ok (.invokestatic 101, 3) := by decide +kernel
theorem dX5_moonOf_10 : decode cX5_moonOf 10 = .ok (.ireturn, 1) := by decide +kernel
theorem dX5_moon_0 : decode cX5_moon 0 = .ok (.aload_n 0, 1) := by decide +kernel
theorem dX5_moon_1 : decode cX5_moon 1 = .ok (.getfield 78, 3) := by decide +kernel
theorem dX5_moon_4 : decode cX5_moon 4 = .ok (.bipush 10, 2) := by decide +kernel
theorem dX5_moon_6 : decode cX5_moon 6 = .ok (.idiv, 1) := by decide +kernel
theorem dX5_moon_7 : decode cX5_moon 7 = .ok (.invokestatic 107, 3) := by decide +kernel
theorem dX5_moon_10 : decode cX5_moon 10 = .ok (.ireturn, 1) := by decide +kernel
theorem dX5_shown_0 : decode cX5_shown 0 = .ok (.aload_n 0, 1) := by decide +kernel
theorem dX5_shown_1 : decode cX5_shown 1 = .ok (.getfield 27, 3) := by decide +kernel
theorem dX5_shown_4 : decode cX5_shown 4 = .ok (.bipush 10, 2) := by decide +kernel
theorem dX5_shown_6 : decode cX5_shown 6 = .ok (.iload_n 1, 1) := by decide +kernel
theorem dX5_shown_7 : decode cX5_shown 7 = .ok (.imul, 1) := by decide +kernel
theorem dX5_shown_8 : decode cX5_shown 8 = .ok (.aload_n 0, 1) := by decide +kernel
theorem dX5_shown_9 : decode cX5_shown 9 = .ok (.getfield 78, 3) := by decide +kernel
theorem dX5_shown_12 : decode cX5_shown 12 = .ok (.bipush 10, 2) := by decide +kernel
theorem dX5_shown_14 : decode cX5_shown 14 = .ok (.irem, 1) := by decide +kernel
theorem dX5_shown_15 : decode cX5_shown 15 = .ok (.iadd, 1) := by decide +kernel
theorem dX5_shown_16 : decode cX5_shown 16 = .ok (.iaload, 1) := by decide +kernel
theorem dX5_shown_17 : decode cX5_shown 17 = .ok (.ireturn, 1) := by decide +kernel
theorem dX5_sight_0 : decode cX5_sight 0 = .ok (.aload_n 0, 1) := by decide +kernel
theorem dX5_sight_1 : decode cX5_sight 1 = .ok (.getfield 39, 3) := by decide +kernel
theorem dX5_sight_4 : decode cX5_sight 4 = .ok (.iload_n 1, 1) := by decide +kernel
theorem dX5_sight_5 : decode cX5_sight 5 = .ok (.iaload, 1) := by decide +kernel
theorem dX5_sight_6 : decode cX5_sight 6 = .ok (.aload_n 0, 1) := by decide +kernel
theorem dX5_sight_7 : decode cX5_sight 7 = .ok (.invokevirtual 110, 3) := by decide +kernel
theorem dX5_sight_10 : decode cX5_sight 10 = .ok (.iconst 2, 1) := by decide +kernel
theorem dX5_sight_11 : decode cX5_sight 11 = .ok (.idiv, 1) := by decide +kernel
theorem dX5_sight_12 : decode cX5_sight 12 = .ok (.iadd, 1) := by decide +kernel
theorem dX5_sight_13 : decode cX5_sight 13 = .ok (.ireturn, 1) := by decide +kernel
theorem dX5_farSight_0 : decode cX5_farSight 0 = .ok (.iconst 2, 1) := by decide +kernel
theorem dX5_farSight_1 : decode cX5_farSight 1 = .ok (.aload_n 0, 1) := by decide +kernel
theorem dX5_farSight_2 : decode cX5_farSight 2 = .ok (.getfield 39, 3) := by decide +kernel
theorem dX5_farSight_5 : decode cX5_farSight 5 = .ok (.iload_n 1, 1) := by decide +kernel
theorem dX5_farSight_6 : decode cX5_farSight 6 = .ok (.iaload, 1) := by decide +kernel
theorem dX5_farSight_7 : decode cX5_farSight 7 = .ok (.imul, 1) := by decide +kernel
theorem dX5_farSight_8 : decode cX5_farSight 8 = .ok (.bipush 6, 2) := by decide +kernel
theorem dX5_farSight_10 : decode cX5_farSight 10 = .ok (.iadd, 1) := by decide +kernel
theorem dX5_farSight_11 : decode cX5_farSight 11 = .ok (.aload_n 0, 1) := by decide +kernel
theorem dX5_farSight_12 : decode cX5_farSight 12 = .ok (.invokevirtual 110, 3) := by decide +kernel
theorem dX5_farSight_15 : decode cX5_farSight 15 = .ok (.isub, 1) := by decide +kernel
theorem dX5_farSight_16 : decode cX5_farSight 16 = .ok (.ireturn, 1) := by decide +kernel
theorem dX5_watchersOfLight_0 : decode cX5_watchersOfLight 0 = .ok (.iconst 0, 1) := by decide +kernel
theorem dX5_watchersOfLight_1 : decode cX5_watchersOfLight 1 = .ok (.istore_n 2, 1) := by decide +kernel
theorem dX5_watchersOfLight_2 : decode cX5_watchersOfLight 2 = .ok (.iconst 0, 1) := by decide +kernel
theorem dX5_watchersOfLight_3 : decode cX5_watchersOfLight 3 = .ok (.istore_n 3, 1) := by decide +kernel
theorem dX5_watchersOfLight_4 : decode cX5_watchersOfLight 4 = .ok (.iload_n 3, 1) := by decide +kernel
theorem dX5_watchersOfLight_5 : decode cX5_watchersOfLight 5 = .ok (.aload_n 0, 1) := by decide +kernel
theorem dX5_watchersOfLight_6 : decode cX5_watchersOfLight 6 = .ok (.getfield 85, 3) := by decide +kernel
theorem dX5_watchersOfLight_9 : decode cX5_watchersOfLight 9 = .ok (.if_icmp .ge 41, 3) := by decide +kernel
theorem dX5_watchersOfLight_12 : decode cX5_watchersOfLight 12 = .ok (.iload_n 2, 1) := by decide +kernel
theorem dX5_watchersOfLight_13 : decode cX5_watchersOfLight 13 = .ok (.aload_n 0, 1) := by decide +kernel
theorem dX5_watchersOfLight_14 : decode cX5_watchersOfLight 14 = .ok (.getfield 42, 3) := by decide +kernel
theorem dX5_watchersOfLight_17 : decode cX5_watchersOfLight 17 = .ok (.iload_n 3, 1) := by decide +kernel
theorem dX5_watchersOfLight_18 : decode cX5_watchersOfLight 18 = .ok (.iaload, 1) := by decide +kernel
theorem dX5_watchersOfLight_19 : decode cX5_watchersOfLight 19 = .ok (.aload_n 0, 1) := by decide +kernel
theorem dX5_watchersOfLight_20 : decode cX5_watchersOfLight 20 = .ok (.getfield 24, 3) := by decide +kernel
theorem dX5_watchersOfLight_23 : decode cX5_watchersOfLight 23 = .ok (.iload_n 1, 1) := by decide +kernel
theorem dX5_watchersOfLight_24 : decode cX5_watchersOfLight 24 = .ok (.iaload, 1) := by decide +kernel
theorem dX5_watchersOfLight_25 : decode cX5_watchersOfLight 25 = .ok (.isub, 1) := by decide +kernel
theorem dX5_watchersOfLight_26 : decode cX5_watchersOfLight 26 = .ok (.invokestatic 101, 3) := by decide +kernel
theorem dX5_watchersOfLight_29 : decode cX5_watchersOfLight 29 = .ok (.aload_n 0, 1) := by decide +kernel
theorem dX5_watchersOfLight_30 : decode cX5_watchersOfLight 30 = .ok (.iload_n 3, 1) := by decide +kernel
theorem dX5_watchersOfLight_31 : decode cX5_watchersOfLight 31 = .ok (.invokevirtual 114, 3) := by decide +kernel
theorem dX5_watchersOfLight_34 : decode cX5_watchersOfLight 34 = .ok (.if_icmp .gt 7, 3) := by decide +kernel
theorem dX5_watchersOfLight_37 : decode cX5_watchersOfLight 37 = .ok (.iconst 1, 1) := by decide +kernel
theorem dX5_watchersOfLight_38 : decode cX5_watchersOfLight 38 = .ok (.goto 4, 3) := by decide +kernel
theorem dX5_watchersOfLight_41 : decode cX5_watchersOfLight 41 = .ok (.iconst 0, 1) := by decide +kernel
theorem dX5_watchersOfLight_42 : decode cX5_watchersOfLight 42 = .ok (.iadd, 1) := by decide +kernel
theorem dX5_watchersOfLight_43 : decode cX5_watchersOfLight 43 = .ok (.istore_n 2, 1) := by decide +kernel
theorem dX5_watchersOfLight_44 : decode cX5_watchersOfLight 44 = .ok (.iinc 3 1, 3) := by decide +kernel
theorem dX5_watchersOfLight_47 : decode cX5_watchersOfLight 47 = .ok (.goto (-43), 3) := by decide +kernel
theorem dX5_watchersOfLight_50 : decode cX5_watchersOfLight 50 = .ok (.iload_n 2, 1) := by decide +kernel
theorem dX5_watchersOfLight_51 : decode cX5_watchersOfLight 51 = .ok (.ireturn, 1) := by decide +kernel
theorem dX5_watchersOf_0 : decode cX5_watchersOf 0 = .ok (.iconst 0, 1) := by decide +kernel
theorem dX5_watchersOf_1 : decode cX5_watchersOf 1 = .ok (.istore_n 2, 1) := by decide +kernel
theorem dX5_watchersOf_2 : decode cX5_watchersOf 2 = .ok (.iconst 0, 1) := by decide +kernel
theorem dX5_watchersOf_3 : decode cX5_watchersOf 3 = .ok (.istore_n 3, 1) := by decide +kernel
theorem dX5_watchersOf_4 : decode cX5_watchersOf 4 = .ok (.iload_n 3, 1) := by decide +kernel
theorem dX5_watchersOf_5 : decode cX5_watchersOf 5 = .ok (.aload_n 0, 1) := by decide +kernel
theorem dX5_watchersOf_6 : decode cX5_watchersOf 6 = .ok (.getfield 85, 3) := by decide +kernel
theorem dX5_watchersOf_9 : decode cX5_watchersOf 9 = .ok (.if_icmp .ge 36, 3) := by decide +kernel
theorem dX5_watchersOf_12 : decode cX5_watchersOf 12 = .ok (.iload_n 2, 1) := by decide +kernel
theorem dX5_watchersOf_13 : decode cX5_watchersOf 13 = .ok (.aload_n 0, 1) := by decide +kernel
theorem dX5_watchersOf_14 : decode cX5_watchersOf 14 = .ok (.getfield 42, 3) := by decide +kernel
theorem dX5_watchersOf_17 : decode cX5_watchersOf 17 = .ok (.iload_n 3, 1) := by decide +kernel
theorem dX5_watchersOf_18 : decode cX5_watchersOf 18 = .ok (.iaload, 1) := by decide +kernel
theorem dX5_watchersOf_19 : decode cX5_watchersOf 19 = .ok (.iload_n 1, 1) := by decide +kernel
theorem dX5_watchersOf_20 : decode cX5_watchersOf 20 = .ok (.isub, 1) := by decide +kernel
theorem dX5_watchersOf_21 : decode cX5_watchersOf 21 = .ok (.invokestatic 101, 3) := by decide +kernel
theorem dX5_watchersOf_24 : decode cX5_watchersOf 24 = .ok (.aload_n 0, 1) := by decide +kernel
theorem dX5_watchersOf_25 : decode cX5_watchersOf 25 = .ok (.iload_n 3, 1) := by decide +kernel
theorem dX5_watchersOf_26 : decode cX5_watchersOf 26 = .ok (.invokevirtual 117, 3) := by decide +kernel
theorem dX5_watchersOf_29 : decode cX5_watchersOf 29 = .ok (.if_icmp .gt 7, 3) := by decide +kernel
theorem dX5_watchersOf_32 : decode cX5_watchersOf 32 = .ok (.iconst 1, 1) := by decide +kernel
theorem dX5_watchersOf_33 : decode cX5_watchersOf 33 = .ok (.goto 4, 3) := by decide +kernel
theorem dX5_watchersOf_36 : decode cX5_watchersOf 36 = .ok (.iconst 0, 1) := by decide +kernel
theorem dX5_watchersOf_37 : decode cX5_watchersOf 37 = .ok (.iadd, 1) := by decide +kernel
theorem dX5_watchersOf_38 : decode cX5_watchersOf 38 = .ok (.istore_n 2, 1) := by decide +kernel
theorem dX5_watchersOf_39 : decode cX5_watchersOf 39 = .ok (.iinc 3 1, 3) := by decide +kernel
theorem dX5_watchersOf_42 : decode cX5_watchersOf 42 = .ok (.goto (-38), 3) := by decide +kernel
theorem dX5_watchersOf_45 : decode cX5_watchersOf 45 = .ok (.iload_n 2, 1) := by decide +kernel
theorem dX5_watchersOf_46 : decode cX5_watchersOf 46 = .ok (.ireturn, 1) := by decide +kernel
theorem dX5_isKnown_0 : decode cX5_isKnown 0 = .ok (.iload_n 1, 1) := by decide +kernel
theorem dX5_isKnown_1 : decode cX5_isKnown 1 = .ok (.ifCond .le 17, 3) := by decide +kernel
theorem dX5_isKnown_4 : decode cX5_isKnown 4 = .ok (.aload_n 0, 1) := by decide +kernel
theorem dX5_isKnown_5 : decode cX5_isKnown 5 = .ok (.getfield 21, 3) := by decide +kernel
theorem dX5_isKnown_8 : decode cX5_isKnown 8 = .ok (.iload_n 1, 1) := by decide +kernel
theorem dX5_isKnown_9 : decode cX5_isKnown 9 = .ok (.iaload, 1) := by decide +kernel
theorem dX5_isKnown_10 : decode cX5_isKnown 10 = .ok (.iconst 3, 1) := by decide +kernel
theorem dX5_isKnown_11 : decode cX5_isKnown 11 = .ok (.if_icmp .lt 7, 3) := by decide +kernel
theorem dX5_isKnown_14 : decode cX5_isKnown 14 = .ok (.iconst 1, 1) := by decide +kernel
theorem dX5_isKnown_15 : decode cX5_isKnown 15 = .ok (.goto 4, 3) := by decide +kernel
theorem dX5_isKnown_18 : decode cX5_isKnown 18 = .ok (.iconst 0, 1) := by decide +kernel
theorem dX5_isKnown_19 : decode cX5_isKnown 19 = .ok (.ireturn, 1) := by decide +kernel
theorem dX5_isThere_0 : decode cX5_isThere 0 = .ok (.aload_n 0, 1) := by decide +kernel
theorem dX5_isThere_1 : decode cX5_isThere 1 = .ok (.getfield 66, 3) := by decide +kernel
theorem dX5_isThere_4 : decode cX5_isThere 4 = .ok (.iload_n 1, 1) := by decide +kernel
theorem dX5_isThere_5 : decode cX5_isThere 5 = .ok (.iaload, 1) := by decide +kernel
theorem dX5_isThere_6 : decode cX5_isThere 6 = .ok (.ifCond .ne 22, 3) := by decide +kernel
theorem dX5_isThere_9 : decode cX5_isThere 9 = .ok (.aload_n 0, 1) := by decide +kernel
theorem dX5_isThere_10 : decode cX5_isThere 10 = .ok (.getfield 57, 3) := by decide +kernel
theorem dX5_isThere_13 : decode cX5_isThere 13 = .ok (.iload_n 1, 1) := by decide +kernel
theorem dX5_isThere_14 : decode cX5_isThere 14 = .ok (.iaload, 1) := by decide +kernel
theorem dX5_isThere_15 : decode cX5_isThere 15 = .ok (.aload_n 0, 1) := by decide +kernel
theorem dX5_isThere_16 : decode cX5_isThere 16 = .ok (.getfield 51, 3) := by decide +kernel
theorem dX5_isThere_19 : decode cX5_isThere 19 = .ok (.iload_n 1, 1) := by decide +kernel
theorem dX5_isThere_20 : decode cX5_isThere 20 = .ok (.iaload, 1) := by decide +kernel
theorem dX5_isThere_21 : decode cX5_isThere 21 = .ok (.if_icmp .ne 7, 3) := by decide +kernel
theorem dX5_isThere_24 : decode cX5_isThere 24 = .ok (.iconst 1, 1) := by decide +kernel
theorem dX5_isThere_25 : decode cX5_isThere 25 = .ok (.goto 4, 3) := by decide +kernel
theorem dX5_isThere_28 : decode cX5_isThere 28 = .ok (.iconst 0, 1) := by decide +kernel
theorem dX5_isThere_29 : decode cX5_isThere 29 = .ok (.ireturn, 1) := by decide +kernel
theorem dX5_note_0 : decode cX5_note 0 = .ok (.iconst 0, 1) := by decide +kernel
theorem dX5_note_1 : decode cX5_note 1 = .ok (.istore_n 1, 1) := by decide +kernel
theorem dX5_note_2 : decode cX5_note 2 = .ok (.iload_n 1, 1) := by decide +kernel
theorem dX5_note_3 : decode cX5_note 3 = .ok (.aload_n 0, 1) := by decide +kernel
theorem dX5_note_4 : decode cX5_note 4 = .ok (.getfield 82, 3) := by decide +kernel
theorem dX5_note_7 : decode cX5_note 7 = .ok (.if_icmp .ge 52, 3) := by decide +kernel
theorem dX5_note_10 : decode cX5_note 10 = .ok (.aload_n 0, 1) := by decide +kernel
theorem dX5_note_11 : decode cX5_note 11 = .ok (.iload_n 1, 1) := by decide +kernel
theorem dX5_note_12 : decode cX5_note 12 = .ok (.invokevirtual 120, 3) := by decide +kernel
theorem dX5_note_15 : decode cX5_note 15 = .ok (.ifCond .eq 38, 3) := by decide +kernel
theorem dX5_note_18 : decode cX5_note 18 = .ok (.aload_n 0, 1) := by decide +kernel
theorem dX5_note_19 : decode cX5_note 19 = .ok (.iload_n 1, 1) := by decide +kernel
theorem dX5_note_20 : decode cX5_note 20 = .ok (.invokevirtual 123, 3) := by decide +kernel
theorem dX5_note_23 : decode cX5_note 23 = .ok (.ifCond .ne 6, 3) := by decide +kernel
theorem dX5_note_26 : decode cX5_note 26 = .ok (.goto 27, 3) := by decide +kernel
theorem dX5_note_29 : decode cX5_note 29 = .ok (.aload_n 0, 1) := by decide +kernel
theorem dX5_note_30 : decode cX5_note 30 = .ok (.getfield 21, 3) := by decide +kernel
theorem dX5_note_33 : decode cX5_note 33 = .ok (.aload_n 0, 1) := by decide +kernel
theorem dX5_note_34 : decode cX5_note 34 = .ok (.iload_n 1, 1) := by decide +kernel
theorem dX5_note_35 : decode cX5_note 35 = .ok (.invokevirtual 120, 3) := by decide +kernel
theorem dX5_note_38 : decode cX5_note 38 = .ok (.dup2, 1) := by decide +kernel
theorem dX5_note_39 : decode cX5_note 39 = .ok (.iaload, 1) := by decide +kernel
theorem dX5_note_40 : decode cX5_note 40 = .ok (.iconst 1, 1) := by decide +kernel
theorem dX5_note_41 : decode cX5_note 41 = .ok (.iadd, 1) := by decide +kernel
theorem dX5_note_42 : decode cX5_note 42 = .ok (.iastore, 1) := by decide +kernel
theorem dX5_note_43 : decode cX5_note 43 = .ok (.aload_n 0, 1) := by decide +kernel
theorem dX5_note_44 : decode cX5_note 44 = .ok (.getfield 30, 3) := by decide +kernel
theorem dX5_note_47 : decode cX5_note 47 = .ok (.iload_n 1, 1) := by decide +kernel
theorem dX5_note_48 : decode cX5_note 48 = .ok (.dup2, 1) := by decide +kernel
theorem dX5_note_49 : decode cX5_note 49 = .ok (.iaload, 1) := by decide +kernel
theorem dX5_note_50 : decode cX5_note 50 = .ok (.iconst 1, 1) := by decide +kernel
theorem dX5_note_51 : decode cX5_note 51 = .ok (.iadd, 1) := by decide +kernel
theorem dX5_note_52 : decode cX5_note 52 = .ok (.iastore, 1) := by decide +kernel
theorem dX5_note_53 : decode cX5_note 53 = .ok (.iinc 1 1, 3) := by decide +kernel
theorem dX5_note_56 : decode cX5_note 56 = .ok (.goto (-54), 3) := by decide +kernel
theorem dX5_note_59 : decode cX5_note 59 = .ok (.return_, 1) := by decide +kernel
theorem dX5_unload_0 : decode cX5_unload 0 = .ok (.aload_n 0, 1) := by decide +kernel
theorem dX5_unload_1 : decode cX5_unload 1 = .ok (.getfield 51, 3) := by decide +kernel
theorem dX5_unload_4 : decode cX5_unload 4 = .ok (.iload_n 1, 1) := by decide +kernel
theorem dX5_unload_5 : decode cX5_unload 5 = .ok (.iaload, 1) := by decide +kernel
theorem dX5_unload_6 : decode cX5_unload 6 = .ok (.istore_n 2, 1) := by decide +kernel
theorem dX5_unload_7 : decode cX5_unload 7 = .ok (.iconst 4, 1) := by decide +kernel
theorem dX5_unload_8 : decode cX5_unload 8 = .ok (.aload_n 0, 1) := by decide +kernel
theorem dX5_unload_9 : decode cX5_unload 9 = .ok (.getfield 54, 3) := by decide +kernel
theorem dX5_unload_12 : decode cX5_unload 12 = .ok (.iload_n 1, 1) := by decide +kernel
theorem dX5_unload_13 : decode cX5_unload 13 = .ok (.iaload, 1) := by decide +kernel
theorem dX5_unload_14 : decode cX5_unload 14 = .ok (.invokestatic 126, 3) := by decide +kernel
theorem dX5_unload_17 : decode cX5_unload 17 = .ok (.aload_n 0, 1) := by decide +kernel
theorem dX5_unload_18 : decode cX5_unload 18 = .ok (.getfield 9, 3) := by decide +kernel
theorem dX5_unload_21 : decode cX5_unload 21 = .ok (.iload_n 2, 1) := by decide +kernel
theorem dX5_unload_22 : decode cX5_unload 22 = .ok (.iaload, 1) := by decide +kernel
theorem dX5_unload_23 : decode cX5_unload 23 = .ok (.aload_n 0, 1) := by decide +kernel
theorem dX5_unload_24 : decode cX5_unload 24 = .ok (.getfield 15, 3) := by decide +kernel
theorem dX5_unload_27 : decode cX5_unload 27 = .ok (.iload_n 2, 1) := by decide +kernel
theorem dX5_unload_28 : decode cX5_unload 28 = .ok (.iaload, 1) := by decide +kernel
theorem dX5_unload_29 : decode cX5_unload 29 = .ok (.isub, 1) := by decide +kernel
theorem dX5_unload_30 : decode cX5_unload 30 = .ok (.invokestatic 126, 3) := by decide +kernel
theorem dX5_unload_33 : decode cX5_unload 33 = .ok (.istore_n 3, 1) := by decide +kernel
theorem dX5_unload_34 : decode cX5_unload 34 = .ok (.aload_n 0, 1) := by decide +kernel
theorem dX5_unload_35 : decode cX5_unload 35 = .ok (.getfield 15, 3) := by decide +kernel
theorem dX5_unload_38 : decode cX5_unload 38 = .ok (.iload_n 2, 1) := by decide +kernel
theorem dX5_unload_39 : decode cX5_unload 39 = .ok (.dup2, 1) := by decide +kernel
theorem dX5_unload_40 : decode cX5_unload 40 = .ok (.iaload, 1) := by decide +kernel
theorem dX5_unload_41 : decode cX5_unload 41 = .ok (.iload_n 3, 1) := by decide +kernel
theorem dX5_unload_42 : decode cX5_unload 42 = .ok (.iadd, 1) := by decide +kernel
theorem dX5_unload_43 : decode cX5_unload 43 = .ok (.iastore, 1) := by decide +kernel
theorem dX5_unload_44 : decode cX5_unload 44 = .ok (.aload_n 0, 1) := by decide +kernel
theorem dX5_unload_45 : decode cX5_unload 45 = .ok (.getfield 54, 3) := by decide +kernel
theorem dX5_unload_48 : decode cX5_unload 48 = .ok (.iload_n 1, 1) := by decide +kernel
theorem dX5_unload_49 : decode cX5_unload 49 = .ok (.dup2, 1) := by decide +kernel
theorem dX5_unload_50 : decode cX5_unload 50 = .ok (.iaload, 1) := by decide +kernel
theorem dX5_unload_51 : decode cX5_unload 51 = .ok (.iload_n 3, 1) := by decide +kernel
theorem dX5_unload_52 : decode cX5_unload 52 = .ok (.isub, 1) := by decide +kernel
theorem dX5_unload_53 : decode cX5_unload 53 = .ok (.iastore, 1) := by decide +kernel
theorem dX5_unload_54 : decode cX5_unload 54 = .ok (.aload_n 0, 1) := by decide +kernel
theorem dX5_unload_55 : decode cX5_unload 55 = .ok (.getfield 69, 3) := by decide +kernel
theorem dX5_unload_58 : decode cX5_unload 58 = .ok (.iload_n 1, 1) := by decide +kernel
theorem dX5_unload_59 : decode cX5_unload 59 = .ok (.dup2, 1) := by decide +kernel
theorem dX5_unload_60 : decode cX5_unload 60 = .ok (.iaload, 1) := by decide +kernel
theorem dX5_unload_61 : decode cX5_unload 61 = .ok (.iload_n 3, 1) := by decide +kernel
theorem dX5_unload_62 : decode cX5_unload 62 = .ok (.iadd, 1) := by decide +kernel
theorem dX5_unload_63 : decode cX5_unload 63 = .ok (.iastore, 1) := by decide +kernel
theorem dX5_unload_64 : decode cX5_unload 64 = .ok (.aload_n 0, 1) := by decide +kernel
theorem dX5_unload_65 : decode cX5_unload 65 = .ok (.getfield 54, 3) := by decide +kernel
theorem dX5_unload_68 : decode cX5_unload 68 = .ok (.iload_n 1, 1) := by decide +kernel
theorem dX5_unload_69 : decode cX5_unload 69 = .ok (.iaload, 1) := by decide +kernel
theorem dX5_unload_70 : decode cX5_unload 70 = .ok (.ifCond .ne 10, 3) := by decide +kernel
theorem dX5_unload_73 : decode cX5_unload 73 = .ok (.aload_n 0, 1) := by decide +kernel
theorem dX5_unload_74 : decode cX5_unload 74 = .ok (.getfield 66, 3) := by decide +kernel
theorem dX5_unload_77 : decode cX5_unload 77 = .ok (.iload_n 1, 1) := by decide +kernel
theorem dX5_unload_78 : decode cX5_unload 78 = .ok (.iconst 1, 1) := by decide +kernel
theorem dX5_unload_79 : decode cX5_unload 79 = .ok (.iastore, 1) := by decide +kernel
theorem dX5_unload_80 : decode cX5_unload 80 = .ok (.iload_n 3, 1) := by decide +kernel
theorem dX5_unload_81 : decode cX5_unload 81 = .ok (.ireturn, 1) := by decide +kernel
theorem dX5_read_0 : decode cX5_read 0 = .ok (.iconst (-1), 1) := by decide +kernel
theorem dX5_read_1 : decode cX5_read 1 = .ok (.istore_n 2, 1) := by decide +kernel
theorem dX5_read_2 : decode cX5_read 2 = .ok (.iconst 0, 1) := by decide +kernel
theorem dX5_read_3 : decode cX5_read 3 = .ok (.istore_n 3, 1) := by decide +kernel
theorem dX5_read_4 : decode cX5_read 4 = .ok (.iload_n 3, 1) := by decide +kernel
theorem dX5_read_5 : decode cX5_read 5 = .ok (.aload_n 0, 1) := by decide +kernel
theorem dX5_read_6 : decode cX5_read 6 = .ok (.getfield 82, 3) := by decide +kernel
theorem dX5_read_9 : decode cX5_read 9 = .ok (.if_icmp .ge 92, 3) := by decide +kernel
theorem dX5_read_12 : decode cX5_read 12 = .ok (.aload_n 0, 1) := by decide +kernel
theorem dX5_read_13 : decode cX5_read 13 = .ok (.getfield 24, 3) := by decide +kernel
theorem dX5_read_16 : decode cX5_read 16 = .ok (.iload_n 3, 1) := by decide +kernel
theorem dX5_read_17 : decode cX5_read 17 = .ok (.iaload, 1) := by decide +kernel
theorem dX5_read_18 : decode cX5_read 18 = .ok (.aload_n 0, 1) := by decide +kernel
theorem dX5_read_19 : decode cX5_read 19 = .ok (.getfield 51, 3) := by decide +kernel
theorem dX5_read_22 : decode cX5_read 22 = .ok (.iload_n 1, 1) := by decide +kernel
theorem dX5_read_23 : decode cX5_read 23 = .ok (.iaload, 1) := by decide +kernel
theorem dX5_read_24 : decode cX5_read 24 = .ok (.isub, 1) := by decide +kernel
theorem dX5_read_25 : decode cX5_read 25 = .ok (.invokestatic 101, 3) := by decide +kernel
theorem dX5_read_28 : decode cX5_read 28 = .ok (.istore 4, 2) := by decide +kernel
theorem dX5_read_30 : decode cX5_read 30 = .ok (.aload_n 0, 1) := by decide +kernel
theorem dX5_read_31 : decode cX5_read 31 = .ok (.iload_n 3, 1) := by decide +kernel
theorem dX5_read_32 : decode cX5_read 32 = .ok (.invokevirtual 120, 3) := by decide +kernel
theorem dX5_read_35 : decode cX5_read 35 = .ok (.ifCond .eq 60, 3) := by decide +kernel
theorem dX5_read_38 : decode cX5_read 38 = .ok (.aload_n 0, 1) := by decide +kernel
theorem dX5_read_39 : decode cX5_read 39 = .ok (.getfield 18, 3) := by decide +kernel
theorem dX5_read_42 : decode cX5_read 42 = .ok (.aload_n 0, 1) := by decide +kernel
theorem dX5_read_43 : decode cX5_read 43 = .ok (.iload_n 3, 1) := by decide +kernel
theorem dX5_read_44 : decode cX5_read 44 = .ok (.invokevirtual 120, 3) := by decide +kernel
theorem dX5_read_47 : decode cX5_read 47 = .ok (.iaload, 1) := by decide +kernel
theorem dX5_read_48 : decode cX5_read 48 = .ok (.iconst (-1), 1) := by decide +kernel
theorem dX5_read_49 : decode cX5_read 49 = .ok (.if_icmp .eq 46, 3) := by decide +kernel
theorem dX5_read_52 : decode cX5_read 52 = .ok (.iload 4, 2) := by decide +kernel
theorem dX5_read_54 : decode cX5_read 54 = .ok (.bipush 9, 2) := by decide +kernel
theorem dX5_read_56 : decode cX5_read 56 = .ok (.aload_n 0, 1) := by decide +kernel
theorem dX5_read_57 : decode cX5_read 57 = .ok (.invokevirtual 110, 3) := by decide +kernel
theorem dX5_read_60 : decode cX5_read 60 = .ok (.isub, 1) := by decide +kernel
theorem dX5_read_61 : decode cX5_read 61 = .ok (.if_icmp .gt 34, 3) := by decide +kernel
theorem dX5_read_64 : decode cX5_read 64 = .ok (.iload_n 2, 1) := by decide +kernel
theorem dX5_read_65 : decode cX5_read 65 = .ok (.iconst (-1), 1) := by decide +kernel
theorem dX5_read_66 : decode cX5_read 66 = .ok (.if_icmp .eq 27, 3) := by decide +kernel
theorem dX5_read_69 : decode cX5_read 69 = .ok (.iload 4, 2) := by decide +kernel
theorem dX5_read_71 : decode cX5_read 71 = .ok (.aload_n 0, 1) := by decide +kernel
theorem dX5_read_72 : decode cX5_read 72 = .ok (.getfield 24, 3) := by decide +kernel
theorem dX5_read_75 : decode cX5_read 75 = .ok (.iload_n 2, 1) := by decide +kernel
theorem dX5_read_76 : decode cX5_read 76 = .ok (.iaload, 1) := by decide +kernel
theorem dX5_read_77 : decode cX5_read 77 = .ok (.aload_n 0, 1) := by decide +kernel
theorem dX5_read_78 : decode cX5_read 78 = .ok (.getfield 51, 3) := by decide +kernel
theorem dX5_read_81 : decode cX5_read 81 = .ok (.iload_n 1, 1) := by decide +kernel
theorem dX5_read_82 : decode cX5_read 82 = .ok (.iaload, 1) := by decide +kernel
theorem dX5_read_83 : decode cX5_read 83 = .ok (.isub, 1) := by decide +kernel
theorem dX5_read_84 : decode cX5_read 84 = .ok (.invokestatic 101, 3) := by decide +kernel
theorem dX5_read_87 : decode cX5_read 87 = .ok (.if_icmp .lt 6, 3) := by decide +kernel
theorem dX5_read_90 : decode cX5_read 90 = .ok (.goto 5, 3) := by decide +kernel
theorem dX5_read_93 : decode cX5_read 93 = .ok (.iload_n 3, 1) := by decide +kernel
theorem dX5_read_94 : decode cX5_read 94 = .ok (.istore_n 2, 1) := by decide +kernel
theorem dX5_read_95 : decode cX5_read 95 = .ok (.iinc 3 1, 3) := by decide +kernel
theorem dX5_read_98 : decode cX5_read 98 = .ok (.goto (-94), 3) := by decide +kernel
theorem dX5_read_101 : decode cX5_read 101 = .ok (.iload_n 2, 1) := by decide +kernel
theorem dX5_read_102 : decode cX5_read 102 = .ok (.iconst (-1), 1) := by decide +kernel
theorem dX5_read_103 : decode cX5_read 103 = .ok (.if_icmp .ne 4, 3) := by decide +kernel
theorem dX5_read_106 : decode cX5_read 106 = .ok (.return_, 1) := by decide +kernel
theorem dX5_read_107 : decode cX5_read 107 = .ok (.aload_n 0, 1) := by decide +kernel
theorem dX5_read_108 : decode cX5_read 108 = .ok (.getfield 60, 3) := by decide +kernel
theorem dX5_read_111 : decode cX5_read 111 = .ok (.iload_n 1, 1) := by decide +kernel
theorem dX5_read_112 : decode cX5_read 112 = .ok (.aload_n 0, 1) := by decide +kernel
theorem dX5_read_113 : decode cX5_read 113 = .ok (.iload_n 2, 1) := by decide +kernel
theorem dX5_read_114 : decode cX5_read 114 = .ok (.invokevirtual 120, 3) := by decide +kernel
theorem dX5_read_117 : decode cX5_read 117 = .ok (.iastore, 1) := by decide +kernel
theorem dX5_read_118 : decode cX5_read 118 = .ok (.aload_n 0, 1) := by decide +kernel
theorem dX5_read_119 : decode cX5_read 119 = .ok (.getfield 57, 3) := by decide +kernel
theorem dX5_read_122 : decode cX5_read 122 = .ok (.iload_n 1, 1) := by decide +kernel
theorem dX5_read_123 : decode cX5_read 123 = .ok (.aload_n 0, 1) := by decide +kernel
theorem dX5_read_124 : decode cX5_read 124 = .ok (.getfield 18, 3) := by decide +kernel
theorem dX5_read_127 : decode cX5_read 127 = .ok (.aload_n 0, 1) := by decide +kernel
theorem dX5_read_128 : decode cX5_read 128 = .ok (.iload_n 2, 1) := by decide +kernel
theorem dX5_read_129 : decode cX5_read 129 = .ok (.invokevirtual 120, 3) := by decide +kernel
theorem dX5_read_132 : decode cX5_read 132 = .ok (.iaload, 1) := by decide +kernel
theorem dX5_read_133 : decode cX5_read 133 = .ok (.iastore, 1) := by decide +kernel
theorem dX5_read_134 : decode cX5_read 134 = .ok (.return_, 1) := by decide +kernel
theorem dX5_sail_0 : decode cX5_sail 0 = .ok (.aload_n 0, 1) := by decide +kernel
theorem dX5_sail_1 : decode cX5_sail 1 = .ok (.getfield 63, 3) := by decide +kernel
theorem dX5_sail_4 : decode cX5_sail 4 = .ok (.iload_n 1, 1) := by decide +kernel
theorem dX5_sail_5 : decode cX5_sail 5 = .ok (.iaload, 1) := by decide +kernel
theorem dX5_sail_6 : decode cX5_sail 6 = .ok (.iconst 1, 1) := by decide +kernel
theorem dX5_sail_7 : decode cX5_sail 7 = .ok (.if_icmp .ne 8, 3) := by decide +kernel
theorem dX5_sail_10 : decode cX5_sail 10 = .ok (.aload_n 0, 1) := by decide +kernel
theorem dX5_sail_11 : decode cX5_sail 11 = .ok (.iload_n 1, 1) := by decide +kernel
theorem dX5_sail_12 : decode cX5_sail 12 = .ok (.invokevirtual 130, 3) := by decide +kernel
theorem dX5_sail_15 : decode cX5_sail 15 = .ok (.aload_n 0, 1) := by decide +kernel
theorem dX5_sail_16 : decode cX5_sail 16 = .ok (.getfield 57, 3) := by decide +kernel
theorem dX5_sail_19 : decode cX5_sail 19 = .ok (.iload_n 1, 1) := by decide +kernel
theorem dX5_sail_20 : decode cX5_sail 20 = .ok (.iaload, 1) := by decide +kernel
theorem dX5_sail_21 : decode cX5_sail 21 = .ok (.iconst (-1), 1) := by decide +kernel
theorem dX5_sail_22 : decode cX5_sail 22 = .ok (.if_icmp .ne 4, 3) := by decide +kernel
theorem dX5_sail_25 : decode cX5_sail 25 = .ok (.return_, 1) := by decide +kernel
theorem dX5_sail_26 : decode cX5_sail 26 = .ok (.aload_n 0, 1) := by decide +kernel
theorem dX5_sail_27 : decode cX5_sail 27 = .ok (.getfield 51, 3) := by decide +kernel
theorem dX5_sail_30 : decode cX5_sail 30 = .ok (.iload_n 1, 1) := by decide +kernel
theorem dX5_sail_31 : decode cX5_sail 31 = .ok (.dup2, 1) := by decide +kernel
theorem dX5_sail_32 : decode cX5_sail 32 = .ok (.iaload, 1) := by decide +kernel
theorem dX5_sail_33 : decode cX5_sail 33 = .ok (.bipush (-2), 2) := by decide +kernel
theorem dX5_sail_35 : decode cX5_sail 35 = .ok (.iconst 2, 1) := by decide +kernel
theorem dX5_sail_36 : decode cX5_sail 36 = .ok (.aload_n 0, 1) := by decide +kernel
theorem dX5_sail_37 : decode cX5_sail 37 = .ok (.getfield 57, 3) := by decide +kernel
theorem dX5_sail_40 : decode cX5_sail 40 = .ok (.iload_n 1, 1) := by decide +kernel
theorem dX5_sail_41 : decode cX5_sail 41 = .ok (.iaload, 1) := by decide +kernel
theorem dX5_sail_42 : decode cX5_sail 42 = .ok (.aload_n 0, 1) := by decide +kernel
theorem dX5_sail_43 : decode cX5_sail 43 = .ok (.getfield 51, 3) := by decide +kernel
theorem dX5_sail_46 : decode cX5_sail 46 = .ok (.iload_n 1, 1) := by decide +kernel
theorem dX5_sail_47 : decode cX5_sail 47 = .ok (.iaload, 1) := by decide +kernel
theorem dX5_sail_48 : decode cX5_sail 48 = .ok (.isub, 1) := by decide +kernel
theorem dX5_sail_49 : decode cX5_sail 49 = .ok (.invokestatic 126, 3) := by decide +kernel
theorem dX5_sail_52 : decode cX5_sail 52 = .ok (.invokestatic 134, 3) := by decide +kernel
theorem dX5_sail_55 : decode cX5_sail 55 = .ok (.iadd, 1) := by decide +kernel
theorem dX5_sail_56 : decode cX5_sail 56 = .ok (.iastore, 1) := by decide +kernel
theorem dX5_sail_57 : decode cX5_sail 57 = .ok (.return_, 1) := by decide +kernel
theorem dX5_walk_0 : decode cX5_walk 0 = .ok (.aload_n 0, 1) := by decide +kernel
theorem dX5_walk_1 : decode cX5_walk 1 = .ok (.getfield 33, 3) := by decide +kernel
theorem dX5_walk_4 : decode cX5_walk 4 = .ok (.iload_n 1, 1) := by decide +kernel
theorem dX5_walk_5 : decode cX5_walk 5 = .ok (.iaload, 1) := by decide +kernel
theorem dX5_walk_6 : decode cX5_walk 6 = .ok (.aload_n 0, 1) := by decide +kernel
theorem dX5_walk_7 : decode cX5_walk 7 = .ok (.getfield 36, 3) := by decide +kernel
theorem dX5_walk_10 : decode cX5_walk 10 = .ok (.iload_n 1, 1) := by decide +kernel
theorem dX5_walk_11 : decode cX5_walk 11 = .ok (.iaload, 1) := by decide +kernel
theorem dX5_walk_12 : decode cX5_walk 12 = .ok (.if_icmp .ne 4, 3) := by decide +kernel
end
section
theorem dX5_walk_15 : decode cX5_walk 15 = .ok (.return_, 1) := by decide +kernel
theorem dX5_walk_16 : decode cX5_walk 16 = .ok (.aload_n 0, 1) := by decide +kernel
theorem dX5_walk_17 : decode cX5_walk 17 = .ok (.getfield 42, 3) := by decide +kernel
theorem dX5_walk_20 : decode cX5_walk 20 = .ok (.iload_n 1, 1) := by decide +kernel
theorem dX5_walk_21 : decode cX5_walk 21 = .ok (.iaload, 1) := by decide +kernel
theorem dX5_walk_22 : decode cX5_walk 22 = .ok (.aload_n 0, 1) := by decide +kernel
theorem dX5_walk_23 : decode cX5_walk 23 = .ok (.getfield 45, 3) := by decide +kernel
theorem dX5_walk_26 : decode cX5_walk 26 = .ok (.iload_n 1, 1) := by decide +kernel
theorem dX5_walk_27 : decode cX5_walk 27 = .ok (.iaload, 1) := by decide +kernel
theorem dX5_walk_28 : decode cX5_walk 28 = .ok (.ifCond .le 12, 3) := by decide +kernel
theorem dX5_walk_31 : decode cX5_walk 31 = .ok (.aload_n 0, 1) := by decide +kernel
theorem dX5_walk_32 : decode cX5_walk 32 = .ok (.getfield 36, 3) := by decide +kernel
theorem dX5_walk_35 : decode cX5_walk 35 = .ok (.iload_n 1, 1) := by decide +kernel
theorem dX5_walk_36 : decode cX5_walk 36 = .ok (.iaload, 1) := by decide +kernel
theorem dX5_walk_37 : decode cX5_walk 37 = .ok (.goto 9, 3) := by decide +kernel
theorem dX5_walk_40 : decode cX5_walk 40 = .ok (.aload_n 0, 1) := by decide +kernel
theorem dX5_walk_41 : decode cX5_walk 41 = .ok (.getfield 33, 3) := by decide +kernel
theorem dX5_walk_44 : decode cX5_walk 44 = .ok (.iload_n 1, 1) := by decide +kernel
theorem dX5_walk_45 : decode cX5_walk 45 = .ok (.iaload, 1) := by decide +kernel
theorem dX5_walk_46 : decode cX5_walk 46 = .ok (.if_icmp .ne 16, 3) := by decide +kernel
theorem dX5_walk_49 : decode cX5_walk 49 = .ok (.aload_n 0, 1) := by decide +kernel
theorem dX5_walk_50 : decode cX5_walk 50 = .ok (.getfield 45, 3) := by decide +kernel
theorem dX5_walk_53 : decode cX5_walk 53 = .ok (.iload_n 1, 1) := by decide +kernel
theorem dX5_walk_54 : decode cX5_walk 54 = .ok (.aload_n 0, 1) := by decide +kernel
theorem dX5_walk_55 : decode cX5_walk 55 = .ok (.getfield 45, 3) := by decide +kernel
theorem dX5_walk_58 : decode cX5_walk 58 = .ok (.iload_n 1, 1) := by decide +kernel
theorem dX5_walk_59 : decode cX5_walk 59 = .ok (.iaload, 1) := by decide +kernel
theorem dX5_walk_60 : decode cX5_walk 60 = .ok (.ineg, 1) := by decide +kernel
theorem dX5_walk_61 : decode cX5_walk 61 = .ok (.iastore, 1) := by decide +kernel
theorem dX5_walk_62 : decode cX5_walk 62 = .ok (.aload_n 0, 1) := by decide +kernel
theorem dX5_walk_63 : decode cX5_walk 63 = .ok (.getfield 42, 3) := by decide +kernel
theorem dX5_walk_66 : decode cX5_walk 66 = .ok (.iload_n 1, 1) := by decide +kernel
theorem dX5_walk_67 : decode cX5_walk 67 = .ok (.dup2, 1) := by decide +kernel
theorem dX5_walk_68 : decode cX5_walk 68 = .ok (.iaload, 1) := by decide +kernel
theorem dX5_walk_69 : decode cX5_walk 69 = .ok (.aload_n 0, 1) := by decide +kernel
theorem dX5_walk_70 : decode cX5_walk 70 = .ok (.getfield 45, 3) := by decide +kernel
theorem dX5_walk_73 : decode cX5_walk 73 = .ok (.iload_n 1, 1) := by decide +kernel
theorem dX5_walk_74 : decode cX5_walk 74 = .ok (.iaload, 1) := by decide +kernel
theorem dX5_walk_75 : decode cX5_walk 75 = .ok (.iadd, 1) := by decide +kernel
theorem dX5_walk_76 : decode cX5_walk 76 = .ok (.iastore, 1) := by decide +kernel
theorem dX5_walk_77 : decode cX5_walk 77 = .ok (.return_, 1) := by decide +kernel
theorem dX5_seize_0 : decode cX5_seize 0 = .ok (.iconst 0, 1) := by decide +kernel
theorem dX5_seize_1 : decode cX5_seize 1 = .ok (.istore_n 2, 1) := by decide +kernel
theorem dX5_seize_2 : decode cX5_seize 2 = .ok (.iload_n 2, 1) := by decide +kernel
theorem dX5_seize_3 : decode cX5_seize 3 = .ok (.aload_n 0, 1) := by decide +kernel
theorem dX5_seize_4 : decode cX5_seize 4 = .ok (.getfield 88, 3) := by decide +kernel
theorem dX5_seize_7 : decode cX5_seize 7 = .ok (.if_icmp .ge 105, 3) := by decide +kernel
theorem dX5_seize_10 : decode cX5_seize 10 = .ok (.aload_n 0, 1) := by decide +kernel
theorem dX5_seize_11 : decode cX5_seize 11 = .ok (.iload_n 1, 1) := by decide +kernel
theorem dX5_seize_12 : decode cX5_seize 12 = .ok (.invokevirtual 117, 3) := by decide +kernel
theorem dX5_seize_15 : decode cX5_seize 15 = .ok (.aload_n 0, 1) := by decide +kernel
theorem dX5_seize_16 : decode cX5_seize 16 = .ok (.aload_n 0, 1) := by decide +kernel
theorem dX5_seize_17 : decode cX5_seize 17 = .ok (.getfield 60, 3) := by decide +kernel
theorem dX5_seize_20 : decode cX5_seize 20 = .ok (.iload_n 2, 1) := by decide +kernel
theorem dX5_seize_21 : decode cX5_seize 21 = .ok (.iaload, 1) := by decide +kernel
theorem dX5_seize_22 : decode cX5_seize 22 = .ok (.invokevirtual 137, 3) := by decide +kernel
theorem dX5_seize_25 : decode cX5_seize 25 = .ok (.ifCond .eq 7, 3) := by decide +kernel
theorem dX5_seize_28 : decode cX5_seize 28 = .ok (.iconst 3, 1) := by decide +kernel
theorem dX5_seize_29 : decode cX5_seize 29 = .ok (.goto 4, 3) := by decide +kernel
theorem dX5_seize_32 : decode cX5_seize 32 = .ok (.iconst 0, 1) := by decide +kernel
theorem dX5_seize_33 : decode cX5_seize 33 = .ok (.iadd, 1) := by decide +kernel
theorem dX5_seize_34 : decode cX5_seize 34 = .ok (.istore_n 3, 1) := by decide +kernel
theorem dX5_seize_35 : decode cX5_seize 35 = .ok (.aload_n 0, 1) := by decide +kernel
theorem dX5_seize_36 : decode cX5_seize 36 = .ok (.iload_n 2, 1) := by decide +kernel
theorem dX5_seize_37 : decode cX5_seize 37 = .ok (.invokevirtual 141, 3) := by decide +kernel
theorem dX5_seize_40 : decode cX5_seize 40 = .ok (.ifCond .eq 66, 3) := by decide +kernel
theorem dX5_seize_43 : decode cX5_seize 43 = .ok (.aload_n 0, 1) := by decide +kernel
theorem dX5_seize_44 : decode cX5_seize 44 = .ok (.getfield 42, 3) := by decide +kernel
theorem dX5_seize_47 : decode cX5_seize 47 = .ok (.iload_n 1, 1) := by decide +kernel
theorem dX5_seize_48 : decode cX5_seize 48 = .ok (.iaload, 1) := by decide +kernel
theorem dX5_seize_49 : decode cX5_seize 49 = .ok (.aload_n 0, 1) := by decide +kernel
theorem dX5_seize_50 : decode cX5_seize 50 = .ok (.getfield 51, 3) := by decide +kernel
theorem dX5_seize_53 : decode cX5_seize 53 = .ok (.iload_n 2, 1) := by decide +kernel
theorem dX5_seize_54 : decode cX5_seize 54 = .ok (.iaload, 1) := by decide +kernel
theorem dX5_seize_55 : decode cX5_seize 55 = .ok (.isub, 1) := by decide +kernel
theorem dX5_seize_56 : decode cX5_seize 56 = .ok (.invokestatic 101, 3) := by decide +kernel
theorem dX5_seize_59 : decode cX5_seize 59 = .ok (.iload_n 3, 1) := by decide +kernel
theorem dX5_seize_60 : decode cX5_seize 60 = .ok (.if_icmp .le 6, 3) := by decide +kernel
theorem dX5_seize_63 : decode cX5_seize 63 = .ok (.goto 43, 3) := by decide +kernel
theorem dX5_seize_66 : decode cX5_seize 66 = .ok (.aload_n 0, 1) := by decide +kernel
theorem dX5_seize_67 : decode cX5_seize 67 = .ok (.getfield 66, 3) := by decide +kernel
theorem dX5_seize_70 : decode cX5_seize 70 = .ok (.iload_n 2, 1) := by decide +kernel
theorem dX5_seize_71 : decode cX5_seize 71 = .ok (.iconst 2, 1) := by decide +kernel
theorem dX5_seize_72 : decode cX5_seize 72 = .ok (.iastore, 1) := by decide +kernel
theorem dX5_seize_73 : decode cX5_seize 73 = .ok (.aload_n 0, 1) := by decide +kernel
theorem dX5_seize_74 : decode cX5_seize 74 = .ok (.dup, 1) := by decide +kernel
theorem dX5_seize_75 : decode cX5_seize 75 = .ok (.getfield 91, 3) := by decide +kernel
theorem dX5_seize_78 : decode cX5_seize 78 = .ok (.aload_n 0, 1) := by decide +kernel
theorem dX5_seize_79 : decode cX5_seize 79 = .ok (.getfield 54, 3) := by decide +kernel
theorem dX5_seize_82 : decode cX5_seize 82 = .ok (.iload_n 2, 1) := by decide +kernel
theorem dX5_seize_83 : decode cX5_seize 83 = .ok (.iaload, 1) := by decide +kernel
theorem dX5_seize_84 : decode cX5_seize 84 = .ok (.iadd, 1) := by decide +kernel
theorem dX5_seize_85 : decode cX5_seize 85 = .ok (.putfield 91, 3) := by decide +kernel
theorem dX5_seize_88 : decode cX5_seize 88 = .ok (.aload_n 0, 1) := by decide +kernel
theorem dX5_seize_89 : decode cX5_seize 89 = .ok (.getfield 54, 3) := by decide +kernel
theorem dX5_seize_92 : decode cX5_seize 92 = .ok (.iload_n 2, 1) := by decide +kernel
theorem dX5_seize_93 : decode cX5_seize 93 = .ok (.iconst 0, 1) := by decide +kernel
theorem dX5_seize_94 : decode cX5_seize 94 = .ok (.iastore, 1) := by decide +kernel
theorem dX5_seize_95 : decode cX5_seize 95 = .ok (.aload_n 0, 1) := by decide +kernel
theorem dX5_seize_96 : decode cX5_seize 96 = .ok (.getfield 48, 3) := by decide +kernel
theorem dX5_seize_99 : decode cX5_seize 99 = .ok (.iload_n 1, 1) := by decide +kernel
theorem dX5_seize_100 : decode cX5_seize 100 = .ok (.dup2, 1) := by decide +kernel
theorem dX5_seize_101 : decode cX5_seize 101 = .ok (.iaload, 1) := by decide +kernel
theorem dX5_seize_102 : decode cX5_seize 102 = .ok (.iconst 1, 1) := by decide +kernel
theorem dX5_seize_103 : decode cX5_seize 103 = .ok (.iadd, 1) := by decide +kernel
theorem dX5_seize_104 : decode cX5_seize 104 = .ok (.iastore, 1) := by decide +kernel
theorem dX5_seize_105 : decode cX5_seize 105 = .ok (.return_, 1) := by decide +kernel
theorem dX5_seize_106 : decode cX5_seize 106 = .ok (.iinc 2 1, 3) := by decide +kernel
theorem dX5_seize_109 : decode cX5_seize 109 = .ok (.goto (-107), 3) := by decide +kernel
theorem dX5_seize_112 : decode cX5_seize 112 = .ok (.return_, 1) := by decide +kernel
theorem dX5_go_0 : decode cX5_go 0 = .ok (.iconst 0, 1) := by decide +kernel
theorem dX5_go_1 : decode cX5_go 1 = .ok (.istore_n 1, 1) := by decide +kernel
theorem dX5_go_2 : decode cX5_go 2 = .ok (.aload_n 0, 1) := by decide +kernel
theorem dX5_go_3 : decode cX5_go 3 = .ok (.invokevirtual 144, 3) := by decide +kernel
theorem dX5_go_6 : decode cX5_go 6 = .ok (.iconst 0, 1) := by decide +kernel
theorem dX5_go_7 : decode cX5_go 7 = .ok (.istore_n 2, 1) := by decide +kernel
theorem dX5_go_8 : decode cX5_go 8 = .ok (.iload_n 2, 1) := by decide +kernel
theorem dX5_go_9 : decode cX5_go 9 = .ok (.aload_n 0, 1) := by decide +kernel
theorem dX5_go_10 : decode cX5_go 10 = .ok (.getfield 88, 3) := by decide +kernel
theorem dX5_go_13 : decode cX5_go 13 = .ok (.if_icmp .ge 45, 3) := by decide +kernel
theorem dX5_go_16 : decode cX5_go 16 = .ok (.aload_n 0, 1) := by decide +kernel
theorem dX5_go_17 : decode cX5_go 17 = .ok (.getfield 66, 3) := by decide +kernel
theorem dX5_go_20 : decode cX5_go 20 = .ok (.iload_n 2, 1) := by decide +kernel
theorem dX5_go_21 : decode cX5_go 21 = .ok (.iaload, 1) := by decide +kernel
theorem dX5_go_22 : decode cX5_go 22 = .ok (.ifCond .eq 6, 3) := by decide +kernel
theorem dX5_go_25 : decode cX5_go 25 = .ok (.goto 27, 3) := by decide +kernel
theorem dX5_go_28 : decode cX5_go 28 = .ok (.aload_n 0, 1) := by decide +kernel
theorem dX5_go_29 : decode cX5_go 29 = .ok (.iload_n 2, 1) := by decide +kernel
theorem dX5_go_30 : decode cX5_go 30 = .ok (.invokevirtual 141, 3) := by decide +kernel
theorem dX5_go_33 : decode cX5_go 33 = .ok (.ifCond .eq 14, 3) := by decide +kernel
theorem dX5_go_36 : decode cX5_go 36 = .ok (.iload_n 1, 1) := by decide +kernel
theorem dX5_go_37 : decode cX5_go 37 = .ok (.aload_n 0, 1) := by decide +kernel
theorem dX5_go_38 : decode cX5_go 38 = .ok (.iload_n 2, 1) := by decide +kernel
theorem dX5_go_39 : decode cX5_go 39 = .ok (.invokevirtual 147, 3) := by decide +kernel
theorem dX5_go_42 : decode cX5_go 42 = .ok (.iadd, 1) := by decide +kernel
theorem dX5_go_43 : decode cX5_go 43 = .ok (.istore_n 1, 1) := by decide +kernel
theorem dX5_go_44 : decode cX5_go 44 = .ok (.goto 8, 3) := by decide +kernel
theorem dX5_go_47 : decode cX5_go 47 = .ok (.aload_n 0, 1) := by decide +kernel
theorem dX5_go_48 : decode cX5_go 48 = .ok (.iload_n 2, 1) := by decide +kernel
theorem dX5_go_49 : decode cX5_go 49 = .ok (.invokevirtual 150, 3) := by decide +kernel
theorem dX5_go_52 : decode cX5_go 52 = .ok (.iinc 2 1, 3) := by decide +kernel
theorem dX5_go_55 : decode cX5_go 55 = .ok (.goto (-47), 3) := by decide +kernel
theorem dX5_go_58 : decode cX5_go 58 = .ok (.iconst 0, 1) := by decide +kernel
theorem dX5_go_59 : decode cX5_go 59 = .ok (.istore_n 2, 1) := by decide +kernel
theorem dX5_go_60 : decode cX5_go 60 = .ok (.iload_n 2, 1) := by decide +kernel
theorem dX5_go_61 : decode cX5_go 61 = .ok (.aload_n 0, 1) := by decide +kernel
theorem dX5_go_62 : decode cX5_go 62 = .ok (.getfield 85, 3) := by decide +kernel
theorem dX5_go_65 : decode cX5_go 65 = .ok (.if_icmp .ge 19, 3) := by decide +kernel
theorem dX5_go_68 : decode cX5_go 68 = .ok (.aload_n 0, 1) := by decide +kernel
theorem dX5_go_69 : decode cX5_go 69 = .ok (.iload_n 2, 1) := by decide +kernel
theorem dX5_go_70 : decode cX5_go 70 = .ok (.invokevirtual 153, 3) := by decide +kernel
theorem dX5_go_73 : decode cX5_go 73 = .ok (.aload_n 0, 1) := by decide +kernel
theorem dX5_go_74 : decode cX5_go 74 = .ok (.iload_n 2, 1) := by decide +kernel
theorem dX5_go_75 : decode cX5_go 75 = .ok (.invokevirtual 156, 3) := by decide +kernel
theorem dX5_go_78 : decode cX5_go 78 = .ok (.iinc 2 1, 3) := by decide +kernel
theorem dX5_go_81 : decode cX5_go 81 = .ok (.goto (-21), 3) := by decide +kernel
theorem dX5_go_84 : decode cX5_go 84 = .ok (.aload_n 0, 1) := by decide +kernel
theorem dX5_go_85 : decode cX5_go 85 = .ok (.dup, 1) := by decide +kernel
theorem dX5_go_86 : decode cX5_go 86 = .ok (.getfield 78, 3) := by decide +kernel
theorem dX5_go_89 : decode cX5_go 89 = .ok (.iconst 1, 1) := by decide +kernel
theorem dX5_go_90 : decode cX5_go 90 = .ok (.iadd, 1) := by decide +kernel
theorem dX5_go_91 : decode cX5_go 91 = .ok (.putfield 78, 3) := by decide +kernel
theorem dX5_go_94 : decode cX5_go 94 = .ok (.iload_n 1, 1) := by decide +kernel
theorem dX5_go_95 : decode cX5_go 95 = .ok (.ireturn, 1) := by decide +kernel
theorem dX5_in_0 : decode cX5_in 0 = .ok (.iconst 0, 1) := by decide +kernel
theorem dX5_in_1 : decode cX5_in 1 = .ok (.istore_n 2, 1) := by decide +kernel
theorem dX5_in_2 : decode cX5_in 2 = .ok (.iconst 0, 1) := by decide +kernel
theorem dX5_in_3 : decode cX5_in 3 = .ok (.istore_n 3, 1) := by decide +kernel
theorem dX5_in_4 : decode cX5_in 4 = .ok (.iload_n 3, 1) := by decide +kernel
theorem dX5_in_5 : decode cX5_in 5 = .ok (.aload_n 0, 1) := by decide +kernel
theorem dX5_in_6 : decode cX5_in 6 = .ok (.getfield 88, 3) := by decide +kernel
theorem dX5_in_9 : decode cX5_in 9 = .ok (.if_icmp .ge 27, 3) := by decide +kernel
theorem dX5_in_12 : decode cX5_in 12 = .ok (.iload_n 2, 1) := by decide +kernel
theorem dX5_in_13 : decode cX5_in 13 = .ok (.aload_n 0, 1) := by decide +kernel
theorem dX5_in_14 : decode cX5_in 14 = .ok (.getfield 66, 3) := by decide +kernel
theorem dX5_in_17 : decode cX5_in 17 = .ok (.iload_n 3, 1) := by decide +kernel
theorem dX5_in_18 : decode cX5_in 18 = .ok (.iaload, 1) := by decide +kernel
theorem dX5_in_19 : decode cX5_in 19 = .ok (.iload_n 1, 1) := by decide +kernel
theorem dX5_in_20 : decode cX5_in 20 = .ok (.if_icmp .ne 7, 3) := by decide +kernel
theorem dX5_in_23 : decode cX5_in 23 = .ok (.iconst 1, 1) := by decide +kernel
theorem dX5_in_24 : decode cX5_in 24 = .ok (.goto 4, 3) := by decide +kernel
theorem dX5_in_27 : decode cX5_in 27 = .ok (.iconst 0, 1) := by decide +kernel
theorem dX5_in_28 : decode cX5_in 28 = .ok (.iadd, 1) := by decide +kernel
theorem dX5_in_29 : decode cX5_in 29 = .ok (.istore_n 2, 1) := by decide +kernel
theorem dX5_in_30 : decode cX5_in 30 = .ok (.iinc 3 1, 3) := by decide +kernel
theorem dX5_in_33 : decode cX5_in 33 = .ok (.goto (-29), 3) := by decide +kernel
theorem dX5_in_36 : decode cX5_in 36 = .ok (.iload_n 2, 1) := by decide +kernel
theorem dX5_in_37 : decode cX5_in 37 = .ok (.ireturn, 1) := by decide +kernel
theorem dX5_caves_0 : decode cX5_caves 0 = .ok (.iconst 0, 1) := by decide +kernel
theorem dX5_caves_1 : decode cX5_caves 1 = .ok (.istore_n 1, 1) := by decide +kernel
theorem dX5_caves_2 : decode cX5_caves 2 = .ok (.aload_n 0, 1) := by decide +kernel
theorem dX5_caves_3 : decode cX5_caves 3 = .ok (.getfield 15, 3) := by decide +kernel
theorem dX5_caves_6 : decode cX5_caves 6 = .ok (.astore_n 2, 1) := by decide +kernel
theorem dX5_caves_7 : decode cX5_caves 7 = .ok (.aload_n 2, 1) := by decide +kernel
theorem dX5_caves_8 : decode cX5_caves 8 = .ok (.arraylength, 1) := by decide +kernel
theorem dX5_caves_9 : decode cX5_caves 9 = .ok (.istore_n 3, 1) := by decide +kernel
theorem dX5_caves_10 : decode cX5_caves 10 = .ok (.iconst 0, 1) := by decide +kernel
theorem dX5_caves_11 : decode cX5_caves 11 = .ok (.istore 4, 2) := by decide +kernel
theorem dX5_caves_13 : decode cX5_caves 13 = .ok (.iload 4, 2) := by decide +kernel
theorem dX5_caves_15 : decode cX5_caves 15 = .ok (.iload_n 3, 1) := by decide +kernel
theorem dX5_caves_16 : decode cX5_caves 16 = .ok (.if_icmp .ge 20, 3) := by decide +kernel
theorem dX5_caves_19 : decode cX5_caves 19 = .ok (.aload_n 2, 1) := by decide +kernel
theorem dX5_caves_20 : decode cX5_caves 20 = .ok (.iload 4, 2) := by decide +kernel
theorem dX5_caves_22 : decode cX5_caves 22 = .ok (.iaload, 1) := by decide +kernel
theorem dX5_caves_23 : decode cX5_caves 23 = .ok (.istore 5, 2) := by decide +kernel
theorem dX5_caves_25 : decode cX5_caves 25 = .ok (.iload_n 1, 1) := by decide +kernel
theorem dX5_caves_26 : decode cX5_caves 26 = .ok (.iload 5, 2) := by decide +kernel
theorem dX5_caves_28 : decode cX5_caves 28 = .ok (.iadd, 1) := by decide +kernel
theorem dX5_caves_29 : decode cX5_caves 29 = .ok (.istore_n 1, 1) := by decide +kernel
theorem dX5_caves_30 : decode cX5_caves 30 = .ok (.iinc 4 1, 3) := by decide +kernel
theorem dX5_caves_33 : decode cX5_caves 33 = .ok (.goto (-20), 3) := by decide +kernel
theorem dX5_caves_36 : decode cX5_caves 36 = .ok (.iload_n 1, 1) := by decide +kernel
theorem dX5_caves_37 : decode cX5_caves 37 = .ok (.ireturn, 1) := by decide +kernel
theorem dX5_known_0 : decode cX5_known 0 = .ok (.iconst 0, 1) := by decide +kernel
theorem dX5_known_1 : decode cX5_known 1 = .ok (.istore_n 1, 1) := by decide +kernel
theorem dX5_known_2 : decode cX5_known 2 = .ok (.iconst 1, 1) := by decide +kernel
theorem dX5_known_3 : decode cX5_known 3 = .ok (.istore_n 2, 1) := by decide +kernel
theorem dX5_known_4 : decode cX5_known 4 = .ok (.iload_n 2, 1) := by decide +kernel
theorem dX5_known_5 : decode cX5_known 5 = .ok (.bipush 7, 2) := by decide +kernel
theorem dX5_known_7 : decode cX5_known 7 = .ok (.if_icmp .gt 25, 3) := by decide +kernel
theorem dX5_known_10 : decode cX5_known 10 = .ok (.iload_n 1, 1) := by decide +kernel
theorem dX5_known_11 : decode cX5_known 11 = .ok (.aload_n 0, 1) := by decide +kernel
theorem dX5_known_12 : decode cX5_known 12 = .ok (.iload_n 2, 1) := by decide +kernel
theorem dX5_known_13 : decode cX5_known 13 = .ok (.invokevirtual 137, 3) := by decide +kernel
theorem dX5_known_16 : decode cX5_known 16 = .ok (.ifCond .eq 7, 3) := by decide +kernel
theorem dX5_known_19 : decode cX5_known 19 = .ok (.iconst 1, 1) := by decide +kernel
theorem dX5_known_20 : decode cX5_known 20 = .ok (.goto 4, 3) := by decide +kernel
theorem dX5_known_23 : decode cX5_known 23 = .ok (.iconst 0, 1) := by decide +kernel
theorem dX5_known_24 : decode cX5_known 24 = .ok (.iadd, 1) := by decide +kernel
theorem dX5_known_25 : decode cX5_known 25 = .ok (.istore_n 1, 1) := by decide +kernel
theorem dX5_known_26 : decode cX5_known 26 = .ok (.iinc 2 1, 3) := by decide +kernel
theorem dX5_known_29 : decode cX5_known 29 = .ok (.goto (-25), 3) := by decide +kernel
theorem dX5_known_32 : decode cX5_known 32 = .ok (.iload_n 1, 1) := by decide +kernel
theorem dX5_known_33 : decode cX5_known 33 = .ok (.ireturn, 1) := by decide +kernel
theorem dX5_counted_0 : decode cX5_counted 0 = .ok (.iload_n 1, 1) := by decide +kernel
theorem dX5_counted_1 : decode cX5_counted 1 = .ok (.tableswitch 108 0 9 #[55, 60, 65, 70, 75, 81, 87, 93, 98, 103], 55) := by decide +kernel
theorem dX5_counted_56 : decode cX5_counted 56 = .ok (.aload_n 0, 1) := by decide +kernel
theorem dX5_counted_57 : decode cX5_counted 57 = .ok (.getfield 78, 3) := by decide +kernel
theorem dX5_counted_60 : decode cX5_counted 60 = .ok (.ireturn, 1) := by decide +kernel
theorem dX5_counted_61 : decode cX5_counted 61 = .ok (.aload_n 0, 1) := by decide +kernel
theorem dX5_counted_62 : decode cX5_counted 62 = .ok (.getfield 82, 3) := by decide +kernel
theorem dX5_counted_65 : decode cX5_counted 65 = .ok (.ireturn, 1) := by decide +kernel
theorem dX5_counted_66 : decode cX5_counted 66 = .ok (.aload_n 0, 1) := by decide +kernel
theorem dX5_counted_67 : decode cX5_counted 67 = .ok (.getfield 85, 3) := by decide +kernel
theorem dX5_counted_70 : decode cX5_counted 70 = .ok (.ireturn, 1) := by decide +kernel
theorem dX5_counted_71 : decode cX5_counted 71 = .ok (.aload_n 0, 1) := by decide +kernel
theorem dX5_counted_72 : decode cX5_counted 72 = .ok (.getfield 88, 3) := by decide +kernel
theorem dX5_counted_75 : decode cX5_counted 75 = .ok (.ireturn, 1) := by decide +kernel
theorem dX5_counted_76 : decode cX5_counted 76 = .ok (.aload_n 0, 1) := by decide +kernel
theorem dX5_counted_77 : decode cX5_counted 77 = .ok (.iconst 0, 1) := by decide +kernel
theorem dX5_counted_78 : decode cX5_counted 78 = .ok (.invokevirtual 159, 3) := by decide +kernel
theorem dX5_counted_81 : decode cX5_counted 81 = .ok (.ireturn, 1) := by decide +kernel
theorem dX5_counted_82 : decode cX5_counted 82 = .ok (.aload_n 0, 1) := by decide +kernel
theorem dX5_counted_83 : decode cX5_counted 83 = .ok (.iconst 1, 1) := by decide +kernel
theorem dX5_counted_84 : decode cX5_counted 84 = .ok (.invokevirtual 159, 3) := by decide +kernel
theorem dX5_counted_87 : decode cX5_counted 87 = .ok (.ireturn, 1) := by decide +kernel
theorem dX5_counted_88 : decode cX5_counted 88 = .ok (.aload_n 0, 1) := by decide +kernel
theorem dX5_counted_89 : decode cX5_counted 89 = .ok (.iconst 2, 1) := by decide +kernel
theorem dX5_counted_90 : decode cX5_counted 90 = .ok (.invokevirtual 159, 3) := by decide +kernel
theorem dX5_counted_93 : decode cX5_counted 93 = .ok (.ireturn, 1) := by decide +kernel
theorem dX5_counted_94 : decode cX5_counted 94 = .ok (.aload_n 0, 1) := by decide +kernel
theorem dX5_counted_95 : decode cX5_counted 95 = .ok (.invokevirtual 162, 3) := by decide +kernel
theorem dX5_counted_98 : decode cX5_counted 98 = .ok (.ireturn, 1) := by decide +kernel
theorem dX5_counted_99 : decode cX5_counted 99 = .ok (.aload_n 0, 1) := by decide +kernel
theorem dX5_counted_100 : decode cX5_counted 100 = .ok (.getfield 91, 3) := by decide +kernel
theorem dX5_counted_103 : decode cX5_counted 103 = .ok (.ireturn, 1) := by decide +kernel
theorem dX5_counted_104 : decode cX5_counted 104 = .ok (.aload_n 0, 1) := by decide +kernel
theorem dX5_counted_105 : decode cX5_counted 105 = .ok (.getfield 94, 3) := by decide +kernel
theorem dX5_counted_108 : decode cX5_counted 108 = .ok (.ireturn, 1) := by decide +kernel
theorem dX5_counted_109 : decode cX5_counted 109 = .ok (.aload_n 0, 1) := by decide +kernel
theorem dX5_counted_110 : decode cX5_counted 110 = .ok (.invokevirtual 165, 3) := by decide +kernel
theorem dX5_counted_113 : decode cX5_counted 113 = .ok (.ireturn, 1) := by decide +kernel
theorem dX5_send_0 : decode cX5_send 0 = .ok (.aload_n 0, 1) := by decide +kernel
theorem dX5_send_1 : decode cX5_send 1 = .ok (.getfield 57, 3) := by decide +kernel
theorem dX5_send_4 : decode cX5_send 4 = .ok (.iload_n 1, 1) := by decide +kernel
theorem dX5_send_5 : decode cX5_send 5 = .ok (.iload_n 2, 1) := by decide +kernel
theorem dX5_send_6 : decode cX5_send 6 = .ok (.iastore, 1) := by decide +kernel
theorem dX5_send_7 : decode cX5_send 7 = .ok (.aload_n 0, 1) := by decide +kernel
theorem dX5_send_8 : decode cX5_send 8 = .ok (.getfield 63, 3) := by decide +kernel
theorem dX5_send_11 : decode cX5_send 11 = .ok (.iload_n 1, 1) := by decide +kernel
theorem dX5_send_12 : decode cX5_send 12 = .ok (.iload_n 2, 1) := by decide +kernel
theorem dX5_send_13 : decode cX5_send 13 = .ok (.iconst (-1), 1) := by decide +kernel
theorem dX5_send_14 : decode cX5_send 14 = .ok (.if_icmp .ne 7, 3) := by decide +kernel
theorem dX5_send_17 : decode cX5_send 17 = .ok (.iconst 1, 1) := by decide +kernel
theorem dX5_send_18 : decode cX5_send 18 = .ok (.goto 4, 3) := by decide +kernel
theorem dX5_send_21 : decode cX5_send 21 = .ok (.iconst 0, 1) := by decide +kernel
theorem dX5_send_22 : decode cX5_send 22 = .ok (.iastore, 1) := by decide +kernel
theorem dX5_send_23 : decode cX5_send 23 = .ok (.aload_n 0, 1) := by decide +kernel
theorem dX5_send_24 : decode cX5_send 24 = .ok (.getfield 60, 3) := by decide +kernel
theorem dX5_send_27 : decode cX5_send 27 = .ok (.iload_n 1, 1) := by decide +kernel
theorem dX5_send_28 : decode cX5_send 28 = .ok (.iconst 0, 1) := by decide +kernel
theorem dX5_send_29 : decode cX5_send 29 = .ok (.iastore, 1) := by decide +kernel
theorem dX5_send_30 : decode cX5_send 30 = .ok (.return_, 1) := by decide +kernel
theorem dX6_init_0 : decode cX6_init 0 = .ok (.aload_n 0, 1) := by decide +kernel
theorem dX6_init_1 : decode cX6_init 1 = .ok (.invokespecial 1, 3) := by decide +kernel
theorem dX6_init_4 : decode cX6_init 4 = .ok (.aload_n 0, 1) := by decide +kernel
theorem dX6_init_5 : decode cX6_init 5 = .ok (.new 7, 3) := by decide +kernel
theorem dX6_init_8 : decode cX6_init 8 = .ok (.dup, 1) := by decide +kernel
theorem dX6_init_9 : decode cX6_init 9 = .ok (.invokespecial 9, 3) := by decide +kernel
theorem dX6_init_12 : decode cX6_init 12 = .ok (.putfield 10, 3) := by decide +kernel
theorem dX6_init_15 : decode cX6_init 15 = .ok (.aload_n 0, 1) := by decide +kernel
theorem dX6_init_16 : decode cX6_init 16 = .ok (.new 7, 3) := by decide +kernel
theorem dX6_init_19 : decode cX6_init 19 = .ok (.dup, 1) := by decide +kernel
theorem dX6_init_20 : decode cX6_init 20 = .ok (.invokespecial 9, 3) := by decide +kernel
theorem dX6_init_23 : decode cX6_init 23 = .ok (.putfield 16, 3) := by decide +kernel
theorem dX6_init_26 : decode cX6_init 26 = .ok (.return_, 1) := by decide +kernel
theorem dX6_thrown_0 : decode cX6_thrown 0 = .ok (.aload_n 0, 1) := by decide +kernel
theorem dX6_thrown_1 : decode cX6_thrown 1 = .ok (.getfield 19, 3) := by decide +kernel
theorem dX6_thrown_4 : decode cX6_thrown 4 = .ok (.ireturn, 1) := by decide +kernel
theorem dX6_no_0 : decode cX6_no 0 = .ok (.aload_n 0, 1) := by decide +kernel
theorem dX6_no_1 : decode cX6_no 1 = .ok (.iload_n 1, 1) := by decide +kernel
theorem dX6_no_2 : decode cX6_no 2 = .ok (.putfield 19, 3) := by decide +kernel
theorem dX6_no_5 : decode cX6_no 5 = .ok (.iconst 0, 1) := by decide +kernel
theorem dX6_no_6 : decode cX6_no 6 = .ok (.ireturn, 1) := by decide +kernel
theorem dX6_isIn_0 : decode cX6_isIn 0 = .ok (.iload_n 0, 1) := by decide +kernel
theorem dX6_isIn_1 : decode cX6_isIn 1 = .ok (.iload_n 1, 1) := by decide +kernel
theorem dX6_isIn_2 : decode cX6_isIn 2 = .ok (.if_icmp .lt 12, 3) := by decide +kernel
theorem dX6_isIn_5 : decode cX6_isIn 5 = .ok (.iload_n 0, 1) := by decide +kernel
theorem dX6_isIn_6 : decode cX6_isIn 6 = .ok (.iload_n 2, 1) := by decide +kernel
theorem dX6_isIn_7 : decode cX6_isIn 7 = .ok (.if_icmp .gt 7, 3) := by decide +kernel
theorem dX6_isIn_10 : decode cX6_isIn 10 = .ok (.iconst 1, 1) := by decide +kernel
theorem dX6_isIn_11 : decode cX6_isIn 11 = .ok (.goto 4, 3) := by decide +kernel
theorem dX6_isIn_14 : decode cX6_isIn 14 = .ok (.iconst 0, 1) := by decide +kernel
theorem dX6_isIn_15 : decode cX6_isIn 15 = .ok (.ireturn, 1) := by decide +kernel
theorem dX6_isPlace_0 : decode cX6_isPlace 0 = .ok (.iload_n 0, 1) := by decide +kernel
theorem dX6_isPlace_1 : decode cX6_isPlace 1 = .ok (.iconst 0, 1) := by decide +kernel
theorem dX6_isPlace_2 : decode cX6_isPlace 2 = .ok (.bipush 15, 2) := by decide +kernel
theorem dX6_isPlace_4 : decode cX6_isPlace 4 = .ok (.invokestatic 23, 3) := by decide +kernel
theorem dX6_isPlace_7 : decode cX6_isPlace 7 = .ok (.ireturn, 1) := by decide +kernel
theorem dX6_isCode_0 : decode cX6_isCode 0 = .ok (.iload_n 0, 1) := by decide +kernel
theorem dX6_isCode_1 : decode cX6_isCode 1 = .ok (.iconst 1, 1) := by decide +kernel
theorem dX6_isCode_2 : decode cX6_isCode 2 = .ok (.bipush 7, 2) := by decide +kernel
theorem dX6_isCode_4 : decode cX6_isCode 4 = .ok (.invokestatic 23, 3) := by decide +kernel
theorem dX6_isCode_7 : decode cX6_isCode 7 = .ok (.ireturn, 1) := by decide +kernel
theorem dX6_isLantern_0 : decode cX6_isLantern 0 = .ok (.iload_n 1, 1) := by decide +kernel
theorem dX6_isLantern_1 : decode cX6_isLantern 1 = .ok (.iconst 0, 1) := by decide +kernel
theorem dX6_isLantern_2 : decode cX6_isLantern 2 = .ok (.aload_n 0, 1) := by decide +kernel
theorem dX6_isLantern_3 : decode cX6_isLantern 3 = .ok (.getfield 10, 3) := by decide +kernel
theorem dX6_isLantern_6 : decode cX6_isLantern 6 = .ok (.getfield 27, 3) := by decide +kernel
theorem dX6_isLantern_9 : decode cX6_isLantern 9 = .ok (.iconst 1, 1) := by decide +kernel
theorem dX6_isLantern_10 : decode cX6_isLantern 10 = .ok (.isub, 1) := by decide +kernel
theorem dX6_isLantern_11 : decode cX6_isLantern 11 = .ok (.invokestatic 23, 3) := by decide +kernel
theorem dX6_isLantern_14 : decode cX6_isLantern 14 = .ok (.ireturn, 1) := by decide +kernel
theorem dX6_isWatchman_0 : decode cX6_isWatchman 0 = .ok (.iload_n 1, 1) := by decide +kernel
theorem dX6_isWatchman_1 : decode cX6_isWatchman 1 = .ok (.iconst 0, 1) := by decide +kernel
theorem dX6_isWatchman_2 : decode cX6_isWatchman 2 = .ok (.aload_n 0, 1) := by decide +kernel
theorem dX6_isWatchman_3 : decode cX6_isWatchman 3 = .ok (.getfield 10, 3) := by decide +kernel
theorem dX6_isWatchman_6 : decode cX6_isWatchman 6 = .ok (.getfield 30, 3) := by decide +kernel
theorem dX6_isWatchman_9 : decode cX6_isWatchman 9 = .ok (.iconst 1, 1) := by decide +kernel
theorem dX6_isWatchman_10 : decode cX6_isWatchman 10 = .ok (.isub, 1) := by decide +kernel
theorem dX6_isWatchman_11 : decode cX6_isWatchman 11 = .ok (.invokestatic 23, 3) := by decide +kernel
theorem dX6_isWatchman_14 : decode cX6_isWatchman 14 = .ok (.ireturn, 1) := by decide +kernel
theorem dX6_isBoat_0 : decode cX6_isBoat 0 = .ok (.iload_n 1, 1) := by decide +kernel
theorem dX6_isBoat_1 : decode cX6_isBoat 1 = .ok (.iconst 0, 1) := by decide +kernel
theorem dX6_isBoat_2 : decode cX6_isBoat 2 = .ok (.aload_n 0, 1) := by decide +kernel
theorem dX6_isBoat_3 : decode cX6_isBoat 3 = .ok (.getfield 10, 3) := by decide +kernel
theorem dX6_isBoat_6 : decode cX6_isBoat 6 = .ok (.getfield 33, 3) := by decide +kernel
theorem dX6_isBoat_9 : decode cX6_isBoat 9 = .ok (.iconst 1, 1) := by decide +kernel
theorem dX6_isBoat_10 : decode cX6_isBoat 10 = .ok (.isub, 1) := by decide +kernel
theorem dX6_isBoat_11 : decode cX6_isBoat 11 = .ok (.invokestatic 23, 3) := by decide +kernel
theorem dX6_isBoat_14 : decode cX6_isBoat 14 = .ok (.ireturn, 1) := by decide +kernel
theorem dX6_setRoom_0 : decode cX6_setRoom 0 = .ok (.aload_n 0, 1) := by decide +kernel
theorem dX6_setRoom_1 : decode cX6_setRoom 1 = .ok (.iconst 0, 1) := by decide +kernel
theorem dX6_setRoom_2 : decode cX6_setRoom 2 = .ok (.putfield 19, 3) := by decide +kernel
theorem dX6_setRoom_5 : decode cX6_setRoom 5 = .ok (.iload_n 1, 1) := by decide +kernel
theorem dX6_setRoom_6 : decode cX6_setRoom 6 = .ok (.invokestatic 36, 3) := by decide +kernel
theorem dX6_setRoom_9 : decode cX6_setRoom 9 = .ok (.ifCond .ne 9, 3) := by decide +kernel
theorem dX6_setRoom_12 : decode cX6_setRoom 12 = .ok (.aload_n 0, 1) := by decide +kernel
theorem dX6_setRoom_13 : decode cX6_setRoom 13 = .ok (.iconst 1, 1) := by decide +kernel
theorem dX6_setRoom_14 : decode cX6_setRoom 14 = .ok (.invokevirtual 40, 3) := by decide +kernel
theorem dX6_setRoom_17 : decode cX6_setRoom 17 = .ok (.ireturn, 1) := by decide +kernel
theorem dX6_setRoom_18 : decode cX6_setRoom 18 = .ok (.iload_n 2, 1) := by decide +kernel
theorem dX6_setRoom_19 : decode cX6_setRoom 19 = .ok (.iconst 0, 1) := by decide +kernel
theorem dX6_setRoom_20 : decode cX6_setRoom 20 = .ok (.bipush 30, 2) := by decide +kernel
theorem dX6_setRoom_22 : decode cX6_setRoom 22 = .ok (.invokestatic 23, 3) := by decide +kernel
theorem dX6_setRoom_25 : decode cX6_setRoom 25 = .ok (.ifCond .ne 9, 3) := by decide +kernel
theorem dX6_setRoom_28 : decode cX6_setRoom 28 = .ok (.aload_n 0, 1) := by decide +kernel
theorem dX6_setRoom_29 : decode cX6_setRoom 29 = .ok (.iconst 2, 1) := by decide +kernel
theorem dX6_setRoom_30 : decode cX6_setRoom 30 = .ok (.invokevirtual 40, 3) := by decide +kernel
theorem dX6_setRoom_33 : decode cX6_setRoom 33 = .ok (.ireturn, 1) := by decide +kernel
theorem dX6_setRoom_34 : decode cX6_setRoom 34 = .ok (.aload_n 0, 1) := by decide +kernel
theorem dX6_setRoom_35 : decode cX6_setRoom 35 = .ok (.getfield 10, 3) := by decide +kernel
theorem dX6_setRoom_38 : decode cX6_setRoom 38 = .ok (.getfield 44, 3) := by decide +kernel
theorem dX6_setRoom_41 : decode cX6_setRoom 41 = .ok (.iload_n 1, 1) := by decide +kernel
theorem dX6_setRoom_42 : decode cX6_setRoom 42 = .ok (.iaload, 1) := by decide +kernel
theorem dX6_setRoom_43 : decode cX6_setRoom 43 = .ok (.iload_n 2, 1) := by decide +kernel
theorem dX6_setRoom_44 : decode cX6_setRoom 44 = .ok (.if_icmp .le 9, 3) := by decide +kernel
theorem dX6_setRoom_47 : decode cX6_setRoom 47 = .ok (.aload_n 0, 1) := by decide +kernel
theorem dX6_setRoom_48 : decode cX6_setRoom 48 = .ok (.iconst 3, 1) := by decide +kernel
theorem dX6_setRoom_49 : decode cX6_setRoom 49 = .ok (.invokevirtual 40, 3) := by decide +kernel
theorem dX6_setRoom_52 : decode cX6_setRoom 52 = .ok (.ireturn, 1) := by decide +kernel
theorem dX6_setRoom_53 : decode cX6_setRoom 53 = .ok (.aload_n 0, 1) := by decide +kernel
theorem dX6_setRoom_54 : decode cX6_setRoom 54 = .ok (.getfield 10, 3) := by decide +kernel
theorem dX6_setRoom_57 : decode cX6_setRoom 57 = .ok (.getfield 48, 3) := by decide +kernel
theorem dX6_setRoom_60 : decode cX6_setRoom 60 = .ok (.iload_n 1, 1) := by decide +kernel
theorem dX6_setRoom_61 : decode cX6_setRoom 61 = .ok (.iaload, 1) := by decide +kernel
theorem dX6_setRoom_62 : decode cX6_setRoom 62 = .ok (.istore_n 3, 1) := by decide +kernel
theorem dX6_setRoom_63 : decode cX6_setRoom 63 = .ok (.aload_n 0, 1) := by decide +kernel
theorem dX6_setRoom_64 : decode cX6_setRoom 64 = .ok (.getfield 10, 3) := by decide +kernel
theorem dX6_setRoom_67 : decode cX6_setRoom 67 = .ok (.getfield 48, 3) := by decide +kernel
theorem dX6_setRoom_70 : decode cX6_setRoom 70 = .ok (.iload_n 1, 1) := by decide +kernel
theorem dX6_setRoom_71 : decode cX6_setRoom 71 = .ok (.iload_n 2, 1) := by decide +kernel
theorem dX6_setRoom_72 : decode cX6_setRoom 72 = .ok (.iastore, 1) := by decide +kernel
theorem dX6_setRoom_73 : decode cX6_setRoom 73 = .ok (.iload_n 3, 1) := by decide +kernel
theorem dX6_setRoom_74 : decode cX6_setRoom 74 = .ok (.ireturn, 1) := by decide +kernel
theorem dX6_setCode_0 : decode cX6_setCode 0 = .ok (.aload_n 0, 1) := by decide +kernel
theorem dX6_setCode_1 : decode cX6_setCode 1 = .ok (.iconst 0, 1) := by decide +kernel
theorem dX6_setCode_2 : decode cX6_setCode 2 = .ok (.putfield 19, 3) := by decide +kernel
theorem dX6_setCode_5 : decode cX6_setCode 5 = .ok (.iload_n 1, 1) := by decide +kernel
theorem dX6_setCode_6 : decode cX6_setCode 6 = .ok (.invokestatic 51, 3) := by decide +kernel
theorem dX6_setCode_9 : decode cX6_setCode 9 = .ok (.ifCond .eq 13, 3) := by decide +kernel
theorem dX6_setCode_12 : decode cX6_setCode 12 = .ok (.iload_n 2, 1) := by decide +kernel
theorem dX6_setCode_13 : decode cX6_setCode 13 = .ok (.iconst (-1), 1) := by decide +kernel
theorem dX6_setCode_14 : decode cX6_setCode 14 = .ok (.bipush 15, 2) := by decide +kernel
theorem dX6_setCode_16 : decode cX6_setCode 16 = .ok (.invokestatic 23, 3) := by decide +kernel
theorem dX6_setCode_19 : decode cX6_setCode 19 = .ok (.ifCond .ne 9, 3) := by decide +kernel
theorem dX6_setCode_22 : decode cX6_setCode 22 = .ok (.aload_n 0, 1) := by decide +kernel
theorem dX6_setCode_23 : decode cX6_setCode 23 = .ok (.iconst 1, 1) := by decide +kernel
theorem dX6_setCode_24 : decode cX6_setCode 24 = .ok (.invokevirtual 40, 3) := by decide +kernel
theorem dX6_setCode_27 : decode cX6_setCode 27 = .ok (.ireturn, 1) := by decide +kernel
theorem dX6_setCode_28 : decode cX6_setCode 28 = .ok (.aload_n 0, 1) := by decide +kernel
theorem dX6_setCode_29 : decode cX6_setCode 29 = .ok (.getfield 10, 3) := by decide +kernel
theorem dX6_setCode_32 : decode cX6_setCode 32 = .ok (.getfield 54, 3) := by decide +kernel
theorem dX6_setCode_35 : decode cX6_setCode 35 = .ok (.iload_n 1, 1) := by decide +kernel
theorem dX6_setCode_36 : decode cX6_setCode 36 = .ok (.iaload, 1) := by decide +kernel
theorem dX6_setCode_37 : decode cX6_setCode 37 = .ok (.istore_n 3, 1) := by decide +kernel
theorem dX6_setCode_38 : decode cX6_setCode 38 = .ok (.aload_n 0, 1) := by decide +kernel
theorem dX6_setCode_39 : decode cX6_setCode 39 = .ok (.getfield 10, 3) := by decide +kernel
theorem dX6_setCode_42 : decode cX6_setCode 42 = .ok (.getfield 54, 3) := by decide +kernel
theorem dX6_setCode_45 : decode cX6_setCode 45 = .ok (.iload_n 1, 1) := by decide +kernel
theorem dX6_setCode_46 : decode cX6_setCode 46 = .ok (.iload_n 2, 1) := by decide +kernel
theorem dX6_setCode_47 : decode cX6_setCode 47 = .ok (.iastore, 1) := by decide +kernel
theorem dX6_setCode_48 : decode cX6_setCode 48 = .ok (.aload_n 0, 1) := by decide +kernel
theorem dX6_setCode_49 : decode cX6_setCode 49 = .ok (.getfield 10, 3) := by decide +kernel
theorem dX6_setCode_52 : decode cX6_setCode 52 = .ok (.getfield 57, 3) := by decide +kernel
theorem dX6_setCode_55 : decode cX6_setCode 55 = .ok (.iload_n 1, 1) := by decide +kernel
theorem dX6_setCode_56 : decode cX6_setCode 56 = .ok (.iconst 0, 1) := by decide +kernel
theorem dX6_setCode_57 : decode cX6_setCode 57 = .ok (.iastore, 1) := by decide +kernel
theorem dX6_setCode_58 : decode cX6_setCode 58 = .ok (.iload_n 3, 1) := by decide +kernel
theorem dX6_setCode_59 : decode cX6_setCode 59 = .ok (.ireturn, 1) := by decide +kernel
theorem dX6_lantern_0 : decode cX6_lantern 0 = .ok (.aload_n 0, 1) := by decide +kernel
theorem dX6_lantern_1 : decode cX6_lantern 1 = .ok (.iconst 0, 1) := by decide +kernel
theorem dX6_lantern_2 : decode cX6_lantern 2 = .ok (.putfield 19, 3) := by decide +kernel
theorem dX6_lantern_5 : decode cX6_lantern 5 = .ok (.iload_n 1, 1) := by decide +kernel
theorem dX6_lantern_6 : decode cX6_lantern 6 = .ok (.invokestatic 36, 3) := by decide +kernel
theorem dX6_lantern_9 : decode cX6_lantern 9 = .ok (.ifCond .ne 9, 3) := by decide +kernel
theorem dX6_lantern_12 : decode cX6_lantern 12 = .ok (.aload_n 0, 1) := by decide +kernel
theorem dX6_lantern_13 : decode cX6_lantern 13 = .ok (.iconst 1, 1) := by decide +kernel
theorem dX6_lantern_14 : decode cX6_lantern 14 = .ok (.invokevirtual 40, 3) := by decide +kernel
theorem dX6_lantern_17 : decode cX6_lantern 17 = .ok (.ireturn, 1) := by decide +kernel
theorem dX6_lantern_18 : decode cX6_lantern 18 = .ok (.iconst 0, 1) := by decide +kernel
theorem dX6_lantern_19 : decode cX6_lantern 19 = .ok (.istore_n 2, 1) := by decide +kernel
theorem dX6_lantern_20 : decode cX6_lantern 20 = .ok (.iload_n 2, 1) := by decide +kernel
theorem dX6_lantern_21 : decode cX6_lantern 21 = .ok (.aload_n 0, 1) := by decide +kernel
theorem dX6_lantern_22 : decode cX6_lantern 22 = .ok (.getfield 10, 3) := by decide +kernel
theorem dX6_lantern_25 : decode cX6_lantern 25 = .ok (.getfield 27, 3) := by decide +kernel
theorem dX6_lantern_28 : decode cX6_lantern 28 = .ok (.if_icmp .ge 28, 3) := by decide +kernel
theorem dX6_lantern_31 : decode cX6_lantern 31 = .ok (.aload_n 0, 1) := by decide +kernel
theorem dX6_lantern_32 : decode cX6_lantern 32 = .ok (.getfield 10, 3) := by decide +kernel
theorem dX6_lantern_35 : decode cX6_lantern 35 = .ok (.getfield 60, 3) := by decide +kernel
theorem dX6_lantern_38 : decode cX6_lantern 38 = .ok (.iload_n 2, 1) := by decide +kernel
theorem dX6_lantern_39 : decode cX6_lantern 39 = .ok (.iaload, 1) := by decide +kernel
theorem dX6_lantern_40 : decode cX6_lantern 40 = .ok (.iload_n 1, 1) := by decide +kernel
theorem dX6_lantern_41 : decode cX6_lantern 41 = .ok (.if_icmp .ne 9, 3) := by decide +kernel
theorem dX6_lantern_44 : decode cX6_lantern 44 = .ok (.aload_n 0, 1) := by decide +kernel
theorem dX6_lantern_45 : decode cX6_lantern 45 = .ok (.iconst 2, 1) := by decide +kernel
theorem dX6_lantern_46 : decode cX6_lantern 46 = .ok (.invokevirtual 40, 3) := by decide +kernel
theorem dX6_lantern_49 : decode cX6_lantern 49 = .ok (.ireturn, 1) := by decide +kernel
theorem dX6_lantern_50 : decode cX6_lantern 50 = .ok (.iinc 2 1, 3) := by decide +kernel
theorem dX6_lantern_53 : decode cX6_lantern 53 = .ok (.goto (-33), 3) := by decide +kernel
theorem dX6_lantern_56 : decode cX6_lantern 56 = .ok (.aload_n 0, 1) := by decide +kernel
theorem dX6_lantern_57 : decode cX6_lantern 57 = .ok (.getfield 10, 3) := by decide +kernel
theorem dX6_lantern_60 : decode cX6_lantern 60 = .ok (.getfield 27, 3) := by decide +kernel
theorem dX6_lantern_63 : decode cX6_lantern 63 = .ok (.iconst 5, 1) := by decide +kernel
theorem dX6_lantern_64 : decode cX6_lantern 64 = .ok (.if_icmp .ne 9, 3) := by decide +kernel
theorem dX6_lantern_67 : decode cX6_lantern 67 = .ok (.aload_n 0, 1) := by decide +kernel
theorem dX6_lantern_68 : decode cX6_lantern 68 = .ok (.iconst 2, 1) := by decide +kernel
theorem dX6_lantern_69 : decode cX6_lantern 69 = .ok (.invokevirtual 40, 3) := by decide +kernel
theorem dX6_lantern_72 : decode cX6_lantern 72 = .ok (.ireturn, 1) := by decide +kernel
theorem dX6_lantern_73 : decode cX6_lantern 73 = .ok (.aload_n 0, 1) := by decide +kernel
theorem dX6_lantern_74 : decode cX6_lantern 74 = .ok (.getfield 10, 3) := by decide +kernel
theorem dX6_lantern_77 : decode cX6_lantern 77 = .ok (.getfield 60, 3) := by decide +kernel
theorem dX6_lantern_80 : decode cX6_lantern 80 = .ok (.aload_n 0, 1) := by decide +kernel
theorem dX6_lantern_81 : decode cX6_lantern 81 = .ok (.getfield 10, 3) := by decide +kernel
theorem dX6_lantern_84 : decode cX6_lantern 84 = .ok (.getfield 27, 3) := by decide +kernel
theorem dX6_lantern_87 : decode cX6_lantern 87 = .ok (.iload_n 1, 1) := by decide +kernel
theorem dX6_lantern_88 : decode cX6_lantern 88 = .ok (.iastore, 1) := by decide +kernel
theorem dX6_lantern_89 : decode cX6_lantern 89 = .ok (.aload_n 0, 1) := by decide +kernel
theorem dX6_lantern_90 : decode cX6_lantern 90 = .ok (.getfield 10, 3) := by decide +kernel
theorem dX6_lantern_93 : decode cX6_lantern 93 = .ok (.dup, 1) := by decide +kernel
theorem dX6_lantern_94 : decode cX6_lantern 94 = .ok (.getfield 27, 3) := by decide +kernel
theorem dX6_lantern_97 : decode cX6_lantern 97 = .ok (.iconst 1, 1) := by decide +kernel
theorem dX6_lantern_98 : decode cX6_lantern 98 = .ok (.iadd, 1) := by decide +kernel
theorem dX6_lantern_99 : decode cX6_lantern 99 = .ok (.putfield 27, 3) := by decide +kernel
theorem dX6_lantern_102 : decode cX6_lantern 102 = .ok (.aload_n 0, 1) := by decide +kernel
theorem dX6_lantern_103 : decode cX6_lantern 103 = .ok (.getfield 10, 3) := by decide +kernel
theorem dX6_lantern_106 : decode cX6_lantern 106 = .ok (.getfield 27, 3) := by decide +kernel
theorem dX6_lantern_109 : decode cX6_lantern 109 = .ok (.iconst 1, 1) := by decide +kernel
theorem dX6_lantern_110 : decode cX6_lantern 110 = .ok (.isub, 1) := by decide +kernel
theorem dX6_lantern_111 : decode cX6_lantern 111 = .ok (.ireturn, 1) := by decide +kernel
theorem dX6_setShow_0 : decode cX6_setShow 0 = .ok (.aload_n 0, 1) := by decide +kernel
theorem dX6_setShow_1 : decode cX6_setShow 1 = .ok (.iconst 0, 1) := by decide +kernel
theorem dX6_setShow_2 : decode cX6_setShow 2 = .ok (.putfield 19, 3) := by decide +kernel
theorem dX6_setShow_5 : decode cX6_setShow 5 = .ok (.aload_n 0, 1) := by decide +kernel
theorem dX6_setShow_6 : decode cX6_setShow 6 = .ok (.iload_n 1, 1) := by decide +kernel
theorem dX6_setShow_7 : decode cX6_setShow 7 = .ok (.invokevirtual 63, 3) := by decide +kernel
theorem dX6_setShow_10 : decode cX6_setShow 10 = .ok (.ifCond .eq 13, 3) := by decide +kernel
theorem dX6_setShow_13 : decode cX6_setShow 13 = .ok (.iload_n 2, 1) := by decide +kernel
theorem dX6_setShow_14 : decode cX6_setShow 14 = .ok (.iconst 0, 1) := by decide +kernel
theorem dX6_setShow_15 : decode cX6_setShow 15 = .ok (.bipush 9, 2) := by decide +kernel
theorem dX6_setShow_17 : decode cX6_setShow 17 = .ok (.invokestatic 23, 3) := by decide +kernel
theorem dX6_setShow_20 : decode cX6_setShow 20 = .ok (.ifCond .ne 9, 3) := by decide +kernel
theorem dX6_setShow_23 : decode cX6_setShow 23 = .ok (.aload_n 0, 1) := by decide +kernel
theorem dX6_setShow_24 : decode cX6_setShow 24 = .ok (.iconst 1, 1) := by decide +kernel
theorem dX6_setShow_25 : decode cX6_setShow 25 = .ok (.invokevirtual 40, 3) := by decide +kernel
theorem dX6_setShow_28 : decode cX6_setShow 28 = .ok (.ireturn, 1) := by decide +kernel
theorem dX6_setShow_29 : decode cX6_setShow 29 = .ok (.iload_n 3, 1) := by decide +kernel
theorem dX6_setShow_30 : decode cX6_setShow 30 = .ok (.iconst 0, 1) := by decide +kernel
theorem dX6_setShow_31 : decode cX6_setShow 31 = .ok (.bipush 7, 2) := by decide +kernel
theorem dX6_setShow_33 : decode cX6_setShow 33 = .ok (.invokestatic 23, 3) := by decide +kernel
theorem dX6_setShow_36 : decode cX6_setShow 36 = .ok (.ifCond .ne 9, 3) := by decide +kernel
theorem dX6_setShow_39 : decode cX6_setShow 39 = .ok (.aload_n 0, 1) := by decide +kernel
theorem dX6_setShow_40 : decode cX6_setShow 40 = .ok (.iconst 2, 1) := by decide +kernel
theorem dX6_setShow_41 : decode cX6_setShow 41 = .ok (.invokevirtual 40, 3) := by decide +kernel
theorem dX6_setShow_44 : decode cX6_setShow 44 = .ok (.ireturn, 1) := by decide +kernel
theorem dX6_setShow_45 : decode cX6_setShow 45 = .ok (.bipush 10, 2) := by decide +kernel
theorem dX6_setShow_47 : decode cX6_setShow 47 = .ok (.iload_n 1, 1) := by decide +kernel
theorem dX6_setShow_48 : decode cX6_setShow 48 = .ok (.imul, 1) := by decide +kernel
theorem dX6_setShow_49 : decode cX6_setShow 49 = .ok (.iload_n 2, 1) := by decide +kernel
theorem dX6_setShow_50 : decode cX6_setShow 50 = .ok (.iadd, 1) := by decide +kernel
theorem dX6_setShow_51 : decode cX6_setShow 51 = .ok (.istore 4, 2) := by decide +kernel
theorem dX6_setShow_53 : decode cX6_setShow 53 = .ok (.aload_n 0, 1) := by decide +kernel
theorem dX6_setShow_54 : decode cX6_setShow 54 = .ok (.getfield 10, 3) := by decide +kernel
theorem dX6_setShow_57 : decode cX6_setShow 57 = .ok (.getfield 66, 3) := by decide +kernel
theorem dX6_setShow_60 : decode cX6_setShow 60 = .ok (.iload 4, 2) := by decide +kernel
theorem dX6_setShow_62 : decode cX6_setShow 62 = .ok (.iaload, 1) := by decide +kernel
theorem dX6_setShow_63 : decode cX6_setShow 63 = .ok (.istore 5, 2) := by decide +kernel
theorem dX6_setShow_65 : decode cX6_setShow 65 = .ok (.aload_n 0, 1) := by decide +kernel
theorem dX6_setShow_66 : decode cX6_setShow 66 = .ok (.getfield 10, 3) := by decide +kernel
theorem dX6_setShow_69 : decode cX6_setShow 69 = .ok (.getfield 66, 3) := by decide +kernel
theorem dX6_setShow_72 : decode cX6_setShow 72 = .ok (.iload 4, 2) := by decide +kernel
theorem dX6_setShow_74 : decode cX6_setShow 74 = .ok (.iload_n 3, 1) := by decide +kernel
theorem dX6_setShow_75 : decode cX6_setShow 75 = .ok (.iastore, 1) := by decide +kernel
theorem dX6_setShow_76 : decode cX6_setShow 76 = .ok (.iload 5, 2) := by decide +kernel
theorem dX6_setShow_78 : decode cX6_setShow 78 = .ok (.ireturn, 1) := by decide +kernel
theorem dX6_watchman_0 : decode cX6_watchman 0 = .ok (.aload_n 0, 1) := by decide +kernel
theorem dX6_watchman_1 : decode cX6_watchman 1 = .ok (.iconst 0, 1) := by decide +kernel
theorem dX6_watchman_2 : decode cX6_watchman 2 = .ok (.putfield 19, 3) := by decide +kernel
theorem dX6_watchman_5 : decode cX6_watchman 5 = .ok (.iload_n 1, 1) := by decide +kernel
theorem dX6_watchman_6 : decode cX6_watchman 6 = .ok (.invokestatic 36, 3) := by decide +kernel
theorem dX6_watchman_9 : decode cX6_watchman 9 = .ok (.ifCond .eq 10, 3) := by decide +kernel
theorem dX6_watchman_12 : decode cX6_watchman 12 = .ok (.iload_n 2, 1) := by decide +kernel
theorem dX6_watchman_13 : decode cX6_watchman 13 = .ok (.invokestatic 36, 3) := by decide +kernel
theorem dX6_watchman_16 : decode cX6_watchman 16 = .ok (.ifCond .ne 9, 3) := by decide +kernel
theorem dX6_watchman_19 : decode cX6_watchman 19 = .ok (.aload_n 0, 1) := by decide +kernel
theorem dX6_watchman_20 : decode cX6_watchman 20 = .ok (.iconst 1, 1) := by decide +kernel
theorem dX6_watchman_21 : decode cX6_watchman 21 = .ok (.invokevirtual 40, 3) := by decide +kernel
theorem dX6_watchman_24 : decode cX6_watchman 24 = .ok (.ireturn, 1) := by decide +kernel
theorem dX6_watchman_25 : decode cX6_watchman 25 = .ok (.iload_n 1, 1) := by decide +kernel
theorem dX6_watchman_26 : decode cX6_watchman 26 = .ok (.iload_n 2, 1) := by decide +kernel
theorem dX6_watchman_27 : decode cX6_watchman 27 = .ok (.if_icmp .gt 12, 3) := by decide +kernel
theorem dX6_watchman_30 : decode cX6_watchman 30 = .ok (.iload_n 3, 1) := by decide +kernel
theorem dX6_watchman_31 : decode cX6_watchman 31 = .ok (.iconst 0, 1) := by decide +kernel
theorem dX6_watchman_32 : decode cX6_watchman 32 = .ok (.iconst 3, 1) := by decide +kernel
theorem dX6_watchman_33 : decode cX6_watchman 33 = .ok (.invokestatic 23, 3) := by decide +kernel
theorem dX6_watchman_36 : decode cX6_watchman 36 = .ok (.ifCond .ne 9, 3) := by decide +kernel
theorem dX6_watchman_39 : decode cX6_watchman 39 = .ok (.aload_n 0, 1) := by decide +kernel
theorem dX6_watchman_40 : decode cX6_watchman 40 = .ok (.iconst 2, 1) := by decide +kernel
theorem dX6_watchman_41 : decode cX6_watchman 41 = .ok (.invokevirtual 40, 3) := by decide +kernel
theorem dX6_watchman_44 : decode cX6_watchman 44 = .ok (.ireturn, 1) := by decide +kernel
theorem dX6_watchman_45 : decode cX6_watchman 45 = .ok (.aload_n 0, 1) := by decide +kernel
theorem dX6_watchman_46 : decode cX6_watchman 46 = .ok (.getfield 10, 3) := by decide +kernel
theorem dX6_watchman_49 : decode cX6_watchman 49 = .ok (.getfield 30, 3) := by decide +kernel
theorem dX6_watchman_52 : decode cX6_watchman 52 = .ok (.istore 4, 2) := by decide +kernel
theorem dX6_watchman_54 : decode cX6_watchman 54 = .ok (.iload 4, 2) := by decide +kernel
theorem dX6_watchman_56 : decode cX6_watchman 56 = .ok (.iconst 4, 1) := by decide +kernel
theorem dX6_watchman_57 : decode cX6_watchman 57 = .ok (.if_icmp .ne 9, 3) := by decide +kernel
theorem dX6_watchman_60 : decode cX6_watchman 60 = .ok (.aload_n 0, 1) := by decide +kernel
theorem dX6_watchman_61 : decode cX6_watchman 61 = .ok (.iconst 3, 1) := by decide +kernel
theorem dX6_watchman_62 : decode cX6_watchman 62 = .ok (.invokevirtual 40, 3) := by decide +kernel
theorem dX6_watchman_65 : decode cX6_watchman 65 = .ok (.ireturn, 1) := by decide +kernel
theorem dX6_watchman_66 : decode cX6_watchman 66 = .ok (.aload_n 0, 1) := by decide +kernel
theorem dX6_watchman_67 : decode cX6_watchman 67 = .ok (.getfield 10, 3) := by decide +kernel
theorem dX6_watchman_70 : decode cX6_watchman 70 = .ok (.getfield 69, 3) := by decide +kernel
theorem dX6_watchman_73 : decode cX6_watchman 73 = .ok (.iload 4, 2) := by decide +kernel
theorem dX6_watchman_75 : decode cX6_watchman 75 = .ok (.iload_n 1, 1) := by decide +kernel
theorem dX6_watchman_76 : decode cX6_watchman 76 = .ok (.iastore, 1) := by decide +kernel
theorem dX6_watchman_77 : decode cX6_watchman 77 = .ok (.aload_n 0, 1) := by decide +kernel
theorem dX6_watchman_78 : decode cX6_watchman 78 = .ok (.getfield 10, 3) := by decide +kernel
theorem dX6_watchman_81 : decode cX6_watchman 81 = .ok (.getfield 72, 3) := by decide +kernel
theorem dX6_watchman_84 : decode cX6_watchman 84 = .ok (.iload 4, 2) := by decide +kernel
theorem dX6_watchman_86 : decode cX6_watchman 86 = .ok (.iload_n 2, 1) := by decide +kernel
theorem dX6_watchman_87 : decode cX6_watchman 87 = .ok (.iastore, 1) := by decide +kernel
theorem dX6_watchman_88 : decode cX6_watchman 88 = .ok (.aload_n 0, 1) := by decide +kernel
theorem dX6_watchman_89 : decode cX6_watchman 89 = .ok (.getfield 10, 3) := by decide +kernel
theorem dX6_watchman_92 : decode cX6_watchman 92 = .ok (.getfield 75, 3) := by decide +kernel
theorem dX6_watchman_95 : decode cX6_watchman 95 = .ok (.iload 4, 2) := by decide +kernel
theorem dX6_watchman_97 : decode cX6_watchman 97 = .ok (.iload_n 3, 1) := by decide +kernel
theorem dX6_watchman_98 : decode cX6_watchman 98 = .ok (.iastore, 1) := by decide +kernel
theorem dX6_watchman_99 : decode cX6_watchman 99 = .ok (.aload_n 0, 1) := by decide +kernel
theorem dX6_watchman_100 : decode cX6_watchman 100 = .ok (.getfield 10, 3) := by decide +kernel
theorem dX6_watchman_103 : decode cX6_watchman 103 = .ok (.getfield 78, 3) := by decide +kernel
theorem dX6_watchman_106 : decode cX6_watchman 106 = .ok (.iload 4, 2) := by decide +kernel
theorem dX6_watchman_108 : decode cX6_watchman 108 = .ok (.iload_n 1, 1) := by decide +kernel
theorem dX6_watchman_109 : decode cX6_watchman 109 = .ok (.iastore, 1) := by decide +kernel
theorem dX6_watchman_110 : decode cX6_watchman 110 = .ok (.aload_n 0, 1) := by decide +kernel
theorem dX6_watchman_111 : decode cX6_watchman 111 = .ok (.getfield 10, 3) := by decide +kernel
theorem dX6_watchman_114 : decode cX6_watchman 114 = .ok (.getfield 81, 3) := by decide +kernel
theorem dX6_watchman_117 : decode cX6_watchman 117 = .ok (.iload 4, 2) := by decide +kernel
theorem dX6_watchman_119 : decode cX6_watchman 119 = .ok (.iconst 1, 1) := by decide +kernel
theorem dX6_watchman_120 : decode cX6_watchman 120 = .ok (.iastore, 1) := by decide +kernel
theorem dX6_watchman_121 : decode cX6_watchman 121 = .ok (.aload_n 0, 1) := by decide +kernel
theorem dX6_watchman_122 : decode cX6_watchman 122 = .ok (.getfield 10, 3) := by decide +kernel
theorem dX6_watchman_125 : decode cX6_watchman 125 = .ok (.dup, 1) := by decide +kernel
theorem dX6_watchman_126 : decode cX6_watchman 126 = .ok (.getfield 30, 3) := by decide +kernel
theorem dX6_watchman_129 : decode cX6_watchman 129 = .ok (.iconst 1, 1) := by decide +kernel
theorem dX6_watchman_130 : decode cX6_watchman 130 = .ok (.iadd, 1) := by decide +kernel
theorem dX6_watchman_131 : decode cX6_watchman 131 = .ok (.putfield 30, 3) := by decide +kernel
theorem dX6_watchman_134 : decode cX6_watchman 134 = .ok (.iload 4, 2) := by decide +kernel
theorem dX6_watchman_136 : decode cX6_watchman 136 = .ok (.ireturn, 1) := by decide +kernel
theorem dX6_boat_0 : decode cX6_boat 0 = .ok (.aload_n 0, 1) := by decide +kernel
theorem dX6_boat_1 : decode cX6_boat 1 = .ok (.iconst 0, 1) := by decide +kernel
theorem dX6_boat_2 : decode cX6_boat 2 = .ok (.putfield 19, 3) := by decide +kernel
theorem dX6_boat_5 : decode cX6_boat 5 = .ok (.iload_n 1, 1) := by decide +kernel
theorem dX6_boat_6 : decode cX6_boat 6 = .ok (.invokestatic 36, 3) := by decide +kernel
theorem dX6_boat_9 : decode cX6_boat 9 = .ok (.ifCond .ne 9, 3) := by decide +kernel
theorem dX6_boat_12 : decode cX6_boat 12 = .ok (.aload_n 0, 1) := by decide +kernel
theorem dX6_boat_13 : decode cX6_boat 13 = .ok (.iconst 1, 1) := by decide +kernel
theorem dX6_boat_14 : decode cX6_boat 14 = .ok (.invokevirtual 40, 3) := by decide +kernel
theorem dX6_boat_17 : decode cX6_boat 17 = .ok (.ireturn, 1) := by decide +kernel
theorem dX6_boat_18 : decode cX6_boat 18 = .ok (.iload_n 2, 1) := by decide +kernel
theorem dX6_boat_19 : decode cX6_boat 19 = .ok (.iconst 1, 1) := by decide +kernel
theorem dX6_boat_20 : decode cX6_boat 20 = .ok (.bipush 20, 2) := by decide +kernel
theorem dX6_boat_22 : decode cX6_boat 22 = .ok (.invokestatic 23, 3) := by decide +kernel
theorem dX6_boat_25 : decode cX6_boat 25 = .ok (.ifCond .ne 9, 3) := by decide +kernel
theorem dX6_boat_28 : decode cX6_boat 28 = .ok (.aload_n 0, 1) := by decide +kernel
theorem dX6_boat_29 : decode cX6_boat 29 = .ok (.iconst 2, 1) := by decide +kernel
theorem dX6_boat_30 : decode cX6_boat 30 = .ok (.invokevirtual 40, 3) := by decide +kernel
theorem dX6_boat_33 : decode cX6_boat 33 = .ok (.ireturn, 1) := by decide +kernel
theorem dX6_boat_34 : decode cX6_boat 34 = .ok (.aload_n 0, 1) := by decide +kernel
theorem dX6_boat_35 : decode cX6_boat 35 = .ok (.getfield 10, 3) := by decide +kernel
theorem dX6_boat_38 : decode cX6_boat 38 = .ok (.getfield 33, 3) := by decide +kernel
theorem dX6_boat_41 : decode cX6_boat 41 = .ok (.istore_n 3, 1) := by decide +kernel
theorem dX6_boat_42 : decode cX6_boat 42 = .ok (.iload_n 3, 1) := by decide +kernel
theorem dX6_boat_43 : decode cX6_boat 43 = .ok (.bipush 6, 2) := by decide +kernel
theorem dX6_boat_45 : decode cX6_boat 45 = .ok (.if_icmp .ne 9, 3) := by decide +kernel
theorem dX6_boat_48 : decode cX6_boat 48 = .ok (.aload_n 0, 1) := by decide +kernel
theorem dX6_boat_49 : decode cX6_boat 49 = .ok (.iconst 3, 1) := by decide +kernel
theorem dX6_boat_50 : decode cX6_boat 50 = .ok (.invokevirtual 40, 3) := by decide +kernel
theorem dX6_boat_53 : decode cX6_boat 53 = .ok (.ireturn, 1) := by decide +kernel
theorem dX6_boat_54 : decode cX6_boat 54 = .ok (.aload_n 0, 1) := by decide +kernel
theorem dX6_boat_55 : decode cX6_boat 55 = .ok (.getfield 10, 3) := by decide +kernel
theorem dX6_boat_58 : decode cX6_boat 58 = .ok (.getfield 84, 3) := by decide +kernel
theorem dX6_boat_61 : decode cX6_boat 61 = .ok (.iload_n 3, 1) := by decide +kernel
theorem dX6_boat_62 : decode cX6_boat 62 = .ok (.iload_n 1, 1) := by decide +kernel
theorem dX6_boat_63 : decode cX6_boat 63 = .ok (.iastore, 1) := by decide +kernel
theorem dX6_boat_64 : decode cX6_boat 64 = .ok (.aload_n 0, 1) := by decide +kernel
theorem dX6_boat_65 : decode cX6_boat 65 = .ok (.getfield 10, 3) := by decide +kernel
theorem dX6_boat_68 : decode cX6_boat 68 = .ok (.getfield 87, 3) := by decide +kernel
theorem dX6_boat_71 : decode cX6_boat 71 = .ok (.iload_n 3, 1) := by decide +kernel
theorem dX6_boat_72 : decode cX6_boat 72 = .ok (.iload_n 2, 1) := by decide +kernel
theorem dX6_boat_73 : decode cX6_boat 73 = .ok (.iastore, 1) := by decide +kernel
theorem dX6_boat_74 : decode cX6_boat 74 = .ok (.aload_n 0, 1) := by decide +kernel
theorem dX6_boat_75 : decode cX6_boat 75 = .ok (.getfield 10, 3) := by decide +kernel
theorem dX6_boat_78 : decode cX6_boat 78 = .ok (.iload_n 3, 1) := by decide +kernel
theorem dX6_boat_79 : decode cX6_boat 79 = .ok (.iconst (-1), 1) := by decide +kernel
theorem dX6_boat_80 : decode cX6_boat 80 = .ok (.invokevirtual 90, 3) := by decide +kernel
theorem dX6_boat_83 : decode cX6_boat 83 = .ok (.aload_n 0, 1) := by decide +kernel
theorem dX6_boat_84 : decode cX6_boat 84 = .ok (.getfield 10, 3) := by decide +kernel
theorem dX6_boat_87 : decode cX6_boat 87 = .ok (.dup, 1) := by decide +kernel
theorem dX6_boat_88 : decode cX6_boat 88 = .ok (.getfield 33, 3) := by decide +kernel
theorem dX6_boat_91 : decode cX6_boat 91 = .ok (.iconst 1, 1) := by decide +kernel
theorem dX6_boat_92 : decode cX6_boat 92 = .ok (.iadd, 1) := by decide +kernel
theorem dX6_boat_93 : decode cX6_boat 93 = .ok (.putfield 33, 3) := by decide +kernel
theorem dX6_boat_96 : decode cX6_boat 96 = .ok (.iload_n 3, 1) := by decide +kernel
theorem dX6_boat_97 : decode cX6_boat 97 = .ok (.ireturn, 1) := by decide +kernel
theorem dX6_send_0 : decode cX6_send 0 = .ok (.aload_n 0, 1) := by decide +kernel
theorem dX6_send_1 : decode cX6_send 1 = .ok (.iconst 0, 1) := by decide +kernel
theorem dX6_send_2 : decode cX6_send 2 = .ok (.putfield 19, 3) := by decide +kernel
theorem dX6_send_5 : decode cX6_send 5 = .ok (.aload_n 0, 1) := by decide +kernel
theorem dX6_send_6 : decode cX6_send 6 = .ok (.iload_n 1, 1) := by decide +kernel
theorem dX6_send_7 : decode cX6_send 7 = .ok (.invokevirtual 94, 3) := by decide +kernel
theorem dX6_send_10 : decode cX6_send 10 = .ok (.ifCond .eq 13, 3) := by decide +kernel
theorem dX6_send_13 : decode cX6_send 13 = .ok (.iload_n 2, 1) := by decide +kernel
theorem dX6_send_14 : decode cX6_send 14 = .ok (.iconst (-1), 1) := by decide +kernel
theorem dX6_send_15 : decode cX6_send 15 = .ok (.bipush 15, 2) := by decide +kernel
theorem dX6_send_17 : decode cX6_send 17 = .ok (.invokestatic 23, 3) := by decide +kernel
theorem dX6_send_20 : decode cX6_send 20 = .ok (.ifCond .ne 9, 3) := by decide +kernel
theorem dX6_send_23 : decode cX6_send 23 = .ok (.aload_n 0, 1) := by decide +kernel
theorem dX6_send_24 : decode cX6_send 24 = .ok (.iconst 1, 1) := by decide +kernel
theorem dX6_send_25 : decode cX6_send 25 = .ok (.invokevirtual 40, 3) := by decide +kernel
theorem dX6_send_28 : decode cX6_send 28 = .ok (.ireturn, 1) := by decide +kernel
theorem dX6_send_29 : decode cX6_send 29 = .ok (.aload_n 0, 1) := by decide +kernel
theorem dX6_send_30 : decode cX6_send 30 = .ok (.getfield 10, 3) := by decide +kernel
theorem dX6_send_33 : decode cX6_send 33 = .ok (.getfield 97, 3) := by decide +kernel
theorem dX6_send_36 : decode cX6_send 36 = .ok (.iload_n 1, 1) := by decide +kernel
theorem dX6_send_37 : decode cX6_send 37 = .ok (.iaload, 1) := by decide +kernel
theorem dX6_send_38 : decode cX6_send 38 = .ok (.ifCond .eq 9, 3) := by decide +kernel
theorem dX6_send_41 : decode cX6_send 41 = .ok (.aload_n 0, 1) := by decide +kernel
theorem dX6_send_42 : decode cX6_send 42 = .ok (.iconst 2, 1) := by decide +kernel
theorem dX6_send_43 : decode cX6_send 43 = .ok (.invokevirtual 40, 3) := by decide +kernel
theorem dX6_send_46 : decode cX6_send 46 = .ok (.ireturn, 1) := by decide +kernel
theorem dX6_send_47 : decode cX6_send 47 = .ok (.aload_n 0, 1) := by decide +kernel
theorem dX6_send_48 : decode cX6_send 48 = .ok (.getfield 10, 3) := by decide +kernel
theorem dX6_send_51 : decode cX6_send 51 = .ok (.getfield 100, 3) := by decide +kernel
theorem dX6_send_54 : decode cX6_send 54 = .ok (.iload_n 1, 1) := by decide +kernel
theorem dX6_send_55 : decode cX6_send 55 = .ok (.iaload, 1) := by decide +kernel
theorem dX6_send_56 : decode cX6_send 56 = .ok (.istore_n 3, 1) := by decide +kernel
theorem dX6_send_57 : decode cX6_send 57 = .ok (.aload_n 0, 1) := by decide +kernel
theorem dX6_send_58 : decode cX6_send 58 = .ok (.getfield 10, 3) := by decide +kernel
theorem dX6_send_61 : decode cX6_send 61 = .ok (.iload_n 1, 1) := by decide +kernel
theorem dX6_send_62 : decode cX6_send 62 = .ok (.iload_n 2, 1) := by decide +kernel
theorem dX6_send_63 : decode cX6_send 63 = .ok (.invokevirtual 90, 3) := by decide +kernel
theorem dX6_send_66 : decode cX6_send 66 = .ok (.iload_n 3, 1) := by decide +kernel
theorem dX6_send_67 : decode cX6_send 67 = .ok (.ireturn, 1) := by decide +kernel
theorem dX6_carry_0 : decode cX6_carry 0 = .ok (.aload_n 0, 1) := by decide +kernel
theorem dX6_carry_1 : decode cX6_carry 1 = .ok (.iconst 0, 1) := by decide +kernel
theorem dX6_carry_2 : decode cX6_carry 2 = .ok (.putfield 19, 3) := by decide +kernel
theorem dX6_carry_5 : decode cX6_carry 5 = .ok (.iload_n 1, 1) := by decide +kernel
theorem dX6_carry_6 : decode cX6_carry 6 = .ok (.invokestatic 36, 3) := by decide +kernel
theorem dX6_carry_9 : decode cX6_carry 9 = .ok (.ifCond .ne 9, 3) := by decide +kernel
theorem dX6_carry_12 : decode cX6_carry 12 = .ok (.aload_n 0, 1) := by decide +kernel
theorem dX6_carry_13 : decode cX6_carry 13 = .ok (.iconst 1, 1) := by decide +kernel
theorem dX6_carry_14 : decode cX6_carry 14 = .ok (.invokevirtual 40, 3) := by decide +kernel
theorem dX6_carry_17 : decode cX6_carry 17 = .ok (.ireturn, 1) := by decide +kernel
theorem dX6_carry_18 : decode cX6_carry 18 = .ok (.iload_n 2, 1) := by decide +kernel
theorem dX6_carry_19 : decode cX6_carry 19 = .ok (.iconst 1, 1) := by decide +kernel
theorem dX6_carry_20 : decode cX6_carry 20 = .ok (.bipush 30, 2) := by decide +kernel
theorem dX6_carry_22 : decode cX6_carry 22 = .ok (.invokestatic 23, 3) := by decide +kernel
theorem dX6_carry_25 : decode cX6_carry 25 = .ok (.ifCond .ne 9, 3) := by decide +kernel
theorem dX6_carry_28 : decode cX6_carry 28 = .ok (.aload_n 0, 1) := by decide +kernel
theorem dX6_carry_29 : decode cX6_carry 29 = .ok (.iconst 2, 1) := by decide +kernel
theorem dX6_carry_30 : decode cX6_carry 30 = .ok (.invokevirtual 40, 3) := by decide +kernel
theorem dX6_carry_33 : decode cX6_carry 33 = .ok (.ireturn, 1) := by decide +kernel
theorem dX6_carry_34 : decode cX6_carry 34 = .ok (.aload_n 0, 1) := by decide +kernel
theorem dX6_carry_35 : decode cX6_carry 35 = .ok (.getfield 10, 3) := by decide +kernel
theorem dX6_carry_38 : decode cX6_carry 38 = .ok (.getfield 44, 3) := by decide +kernel
theorem dX6_carry_41 : decode cX6_carry 41 = .ok (.iload_n 1, 1) := by decide +kernel
theorem dX6_carry_42 : decode cX6_carry 42 = .ok (.iaload, 1) := by decide +kernel
theorem dX6_carry_43 : decode cX6_carry 43 = .ok (.iload_n 2, 1) := by decide +kernel
theorem dX6_carry_44 : decode cX6_carry 44 = .ok (.if_icmp .ge 9, 3) := by decide +kernel
theorem dX6_carry_47 : decode cX6_carry 47 = .ok (.aload_n 0, 1) := by decide +kernel
theorem dX6_carry_48 : decode cX6_carry 48 = .ok (.iconst 3, 1) := by decide +kernel
theorem dX6_carry_49 : decode cX6_carry 49 = .ok (.invokevirtual 40, 3) := by decide +kernel
theorem dX6_carry_52 : decode cX6_carry 52 = .ok (.ireturn, 1) := by decide +kernel
theorem dX6_carry_53 : decode cX6_carry 53 = .ok (.aload_n 0, 1) := by decide +kernel
theorem dX6_carry_54 : decode cX6_carry 54 = .ok (.getfield 10, 3) := by decide +kernel
theorem dX6_carry_57 : decode cX6_carry 57 = .ok (.getfield 44, 3) := by decide +kernel
theorem dX6_carry_60 : decode cX6_carry 60 = .ok (.iload_n 1, 1) := by decide +kernel
theorem dX6_carry_61 : decode cX6_carry 61 = .ok (.dup2, 1) := by decide +kernel
theorem dX6_carry_62 : decode cX6_carry 62 = .ok (.iaload, 1) := by decide +kernel
theorem dX6_carry_63 : decode cX6_carry 63 = .ok (.iload_n 2, 1) := by decide +kernel
theorem dX6_carry_64 : decode cX6_carry 64 = .ok (.isub, 1) := by decide +kernel
theorem dX6_carry_65 : decode cX6_carry 65 = .ok (.iastore, 1) := by decide +kernel
theorem dX6_carry_66 : decode cX6_carry 66 = .ok (.aload_n 0, 1) := by decide +kernel
theorem dX6_carry_67 : decode cX6_carry 67 = .ok (.getfield 10, 3) := by decide +kernel
theorem dX6_carry_70 : decode cX6_carry 70 = .ok (.dup, 1) := by decide +kernel
theorem dX6_carry_71 : decode cX6_carry 71 = .ok (.getfield 103, 3) := by decide +kernel
theorem dX6_carry_74 : decode cX6_carry 74 = .ok (.iload_n 2, 1) := by decide +kernel
theorem dX6_carry_75 : decode cX6_carry 75 = .ok (.iadd, 1) := by decide +kernel
theorem dX6_carry_76 : decode cX6_carry 76 = .ok (.putfield 103, 3) := by decide +kernel
theorem dX6_carry_79 : decode cX6_carry 79 = .ok (.aload_n 0, 1) := by decide +kernel
theorem dX6_carry_80 : decode cX6_carry 80 = .ok (.getfield 10, 3) := by decide +kernel
theorem dX6_carry_83 : decode cX6_carry 83 = .ok (.getfield 44, 3) := by decide +kernel
theorem dX6_carry_86 : decode cX6_carry 86 = .ok (.iload_n 1, 1) := by decide +kernel
theorem dX6_carry_87 : decode cX6_carry 87 = .ok (.iaload, 1) := by decide +kernel
theorem dX6_carry_88 : decode cX6_carry 88 = .ok (.ireturn, 1) := by decide +kernel
theorem dX6_state_0 : decode cX6_state 0 = .ok (.aload_n 0, 1) := by decide +kernel
theorem dX6_state_1 : decode cX6_state 1 = .ok (.getfield 10, 3) := by decide +kernel
theorem dX6_state_4 : decode cX6_state 4 = .ok (.getfield 97, 3) := by decide +kernel
theorem dX6_state_7 : decode cX6_state 7 = .ok (.iload_n 1, 1) := by decide +kernel
theorem dX6_state_8 : decode cX6_state 8 = .ok (.iaload, 1) := by decide +kernel
theorem dX6_state_9 : decode cX6_state 9 = .ok (.ifCond .eq 22, 3) := by decide +kernel
theorem dX6_state_12 : decode cX6_state 12 = .ok (.aload_n 0, 1) := by decide +kernel
theorem dX6_state_13 : decode cX6_state 13 = .ok (.getfield 10, 3) := by decide +kernel
theorem dX6_state_16 : decode cX6_state 16 = .ok (.getfield 97, 3) := by decide +kernel
theorem dX6_state_19 : decode cX6_state 19 = .ok (.iload_n 1, 1) := by decide +kernel
theorem dX6_state_20 : decode cX6_state 20 = .ok (.iaload, 1) := by decide +kernel
theorem dX6_state_21 : decode cX6_state 21 = .ok (.iconst 1, 1) := by decide +kernel
theorem dX6_state_22 : decode cX6_state 22 = .ok (.if_icmp .ne 7, 3) := by decide +kernel
theorem dX6_state_25 : decode cX6_state 25 = .ok (.iconst 3, 1) := by decide +kernel
theorem dX6_state_26 : decode cX6_state 26 = .ok (.goto 4, 3) := by decide +kernel
theorem dX6_state_29 : decode cX6_state 29 = .ok (.iconst 4, 1) := by decide +kernel
theorem dX6_state_30 : decode cX6_state 30 = .ok (.ireturn, 1) := by decide +kernel
theorem dX6_state_31 : decode cX6_state 31 = .ok (.aload_n 0, 1) := by decide +kernel
theorem dX6_state_32 : decode cX6_state 32 = .ok (.getfield 10, 3) := by decide +kernel
theorem dX6_state_35 : decode cX6_state 35 = .ok (.getfield 100, 3) := by decide +kernel
theorem dX6_state_38 : decode cX6_state 38 = .ok (.iload_n 1, 1) := by decide +kernel
theorem dX6_state_39 : decode cX6_state 39 = .ok (.iaload, 1) := by decide +kernel
theorem dX6_state_40 : decode cX6_state 40 = .ok (.iconst (-1), 1) := by decide +kernel
theorem dX6_state_41 : decode cX6_state 41 = .ok (.if_icmp .ne 7, 3) := by decide +kernel
theorem dX6_state_44 : decode cX6_state 44 = .ok (.iconst 0, 1) := by decide +kernel
theorem dX6_state_45 : decode cX6_state 45 = .ok (.goto 19, 3) := by decide +kernel
theorem dX6_state_48 : decode cX6_state 48 = .ok (.aload_n 0, 1) := by decide +kernel
theorem dX6_state_49 : decode cX6_state 49 = .ok (.getfield 10, 3) := by decide +kernel
theorem dX6_state_52 : decode cX6_state 52 = .ok (.iload_n 1, 1) := by decide +kernel
theorem dX6_state_53 : decode cX6_state 53 = .ok (.invokevirtual 106, 3) := by decide +kernel
theorem dX6_state_56 : decode cX6_state 56 = .ok (.ifCond .eq 7, 3) := by decide +kernel
theorem dX6_state_59 : decode cX6_state 59 = .ok (.iconst 2, 1) := by decide +kernel
theorem dX6_state_60 : decode cX6_state 60 = .ok (.goto 4, 3) := by decide +kernel
theorem dX6_state_63 : decode cX6_state 63 = .ok (.iconst 1, 1) := by decide +kernel
theorem dX6_state_64 : decode cX6_state 64 = .ok (.ireturn, 1) := by decide +kernel
theorem dX6_boatTold_0 : decode cX6_boatTold 0 = .ok (.iload_n 2, 1) := by decide +kernel
theorem dX6_boatTold_1 : decode cX6_boatTold 1 = .ok (.tableswitch 95 0 5 #[39, 49, 59, 69, 75, 85], 39) := by decide +kernel
theorem dX6_boatTold_40 : decode cX6_boatTold 40 = .ok (.aload_n 0, 1) := by decide +kernel
theorem dX6_boatTold_41 : decode cX6_boatTold 41 = .ok (.getfield 10, 3) := by decide +kernel
theorem dX6_boatTold_44 : decode cX6_boatTold 44 = .ok (.getfield 84, 3) := by decide +kernel
theorem dX6_boatTold_47 : decode cX6_boatTold 47 = .ok (.iload_n 1, 1) := by decide +kernel
theorem dX6_boatTold_48 : decode cX6_boatTold 48 = .ok (.iaload, 1) := by decide +kernel
theorem dX6_boatTold_49 : decode cX6_boatTold 49 = .ok (.ireturn, 1) := by decide +kernel
theorem dX6_boatTold_50 : decode cX6_boatTold 50 = .ok (.aload_n 0, 1) := by decide +kernel
theorem dX6_boatTold_51 : decode cX6_boatTold 51 = .ok (.getfield 10, 3) := by decide +kernel
theorem dX6_boatTold_54 : decode cX6_boatTold 54 = .ok (.getfield 87, 3) := by decide +kernel
theorem dX6_boatTold_57 : decode cX6_boatTold 57 = .ok (.iload_n 1, 1) := by decide +kernel
theorem dX6_boatTold_58 : decode cX6_boatTold 58 = .ok (.iaload, 1) := by decide +kernel
theorem dX6_boatTold_59 : decode cX6_boatTold 59 = .ok (.ireturn, 1) := by decide +kernel
theorem dX6_boatTold_60 : decode cX6_boatTold 60 = .ok (.aload_n 0, 1) := by decide +kernel
theorem dX6_boatTold_61 : decode cX6_boatTold 61 = .ok (.getfield 10, 3) := by decide +kernel
theorem dX6_boatTold_64 : decode cX6_boatTold 64 = .ok (.getfield 100, 3) := by decide +kernel
theorem dX6_boatTold_67 : decode cX6_boatTold 67 = .ok (.iload_n 1, 1) := by decide +kernel
theorem dX6_boatTold_68 : decode cX6_boatTold 68 = .ok (.iaload, 1) := by decide +kernel
theorem dX6_boatTold_69 : decode cX6_boatTold 69 = .ok (.ireturn, 1) := by decide +kernel
theorem dX6_boatTold_70 : decode cX6_boatTold 70 = .ok (.aload_n 0, 1) := by decide +kernel
theorem dX6_boatTold_71 : decode cX6_boatTold 71 = .ok (.iload_n 1, 1) := by decide +kernel
theorem dX6_boatTold_72 : decode cX6_boatTold 72 = .ok (.invokevirtual 109, 3) := by decide +kernel
theorem dX6_boatTold_75 : decode cX6_boatTold 75 = .ok (.ireturn, 1) := by decide +kernel
theorem dX6_boatTold_76 : decode cX6_boatTold 76 = .ok (.aload_n 0, 1) := by decide +kernel
theorem dX6_boatTold_77 : decode cX6_boatTold 77 = .ok (.getfield 10, 3) := by decide +kernel
theorem dX6_boatTold_80 : decode cX6_boatTold 80 = .ok (.getfield 112, 3) := by decide +kernel
theorem dX6_boatTold_83 : decode cX6_boatTold 83 = .ok (.iload_n 1, 1) := by decide +kernel
theorem dX6_boatTold_84 : decode cX6_boatTold 84 = .ok (.iaload, 1) := by decide +kernel
theorem dX6_boatTold_85 : decode cX6_boatTold 85 = .ok (.ireturn, 1) := by decide +kernel
theorem dX6_boatTold_86 : decode cX6_boatTold 86 = .ok (.aload_n 0, 1) := by decide +kernel
theorem dX6_boatTold_87 : decode cX6_boatTold 87 = .ok (.getfield 10, 3) := by decide +kernel
theorem dX6_boatTold_90 : decode cX6_boatTold 90 = .ok (.getfield 115, 3) := by decide +kernel
theorem dX6_boatTold_93 : decode cX6_boatTold 93 = .ok (.iload_n 1, 1) := by decide +kernel
theorem dX6_boatTold_94 : decode cX6_boatTold 94 = .ok (.iaload, 1) := by decide +kernel
theorem dX6_boatTold_95 : decode cX6_boatTold 95 = .ok (.ireturn, 1) := by decide +kernel
theorem dX6_boatTold_96 : decode cX6_boatTold 96 = .ok (.aload_n 0, 1) := by decide +kernel
theorem dX6_boatTold_97 : decode cX6_boatTold 97 = .ok (.getfield 10, 3) := by decide +kernel
theorem dX6_boatTold_100 : decode cX6_boatTold 100 = .ok (.getfield 118, 3) := by decide +kernel
theorem dX6_boatTold_103 : decode cX6_boatTold 103 = .ok (.iload_n 1, 1) := by decide +kernel
theorem dX6_boatTold_104 : decode cX6_boatTold 104 = .ok (.iaload, 1) := by decide +kernel
theorem dX6_boatTold_105 : decode cX6_boatTold 105 = .ok (.ireturn, 1) := by decide +kernel
theorem dX6_told_0 : decode cX6_told 0 = .ok (.aload_n 0, 1) := by decide +kernel
theorem dX6_told_1 : decode cX6_told 1 = .ok (.iconst 0, 1) := by decide +kernel
theorem dX6_told_2 : decode cX6_told 2 = .ok (.putfield 19, 3) := by decide +kernel
theorem dX6_told_5 : decode cX6_told 5 = .ok (.aload_n 0, 1) := by decide +kernel
theorem dX6_told_6 : decode cX6_told 6 = .ok (.iload_n 1, 1) := by decide +kernel
theorem dX6_told_7 : decode cX6_told 7 = .ok (.invokevirtual 94, 3) := by decide +kernel
theorem dX6_told_10 : decode cX6_told 10 = .ok (.ifCond .eq 22, 3) := by decide +kernel
theorem dX6_told_13 : decode cX6_told 13 = .ok (.iload_n 2, 1) := by decide +kernel
theorem dX6_told_14 : decode cX6_told 14 = .ok (.iconst 0, 1) := by decide +kernel
theorem dX6_told_15 : decode cX6_told 15 = .ok (.bipush 6, 2) := by decide +kernel
theorem dX6_told_17 : decode cX6_told 17 = .ok (.invokestatic 23, 3) := by decide +kernel
theorem dX6_told_20 : decode cX6_told 20 = .ok (.ifCond .eq 12, 3) := by decide +kernel
theorem dX6_told_23 : decode cX6_told 23 = .ok (.aload_n 0, 1) := by decide +kernel
theorem dX6_told_24 : decode cX6_told 24 = .ok (.iload_n 1, 1) := by decide +kernel
theorem dX6_told_25 : decode cX6_told 25 = .ok (.iload_n 2, 1) := by decide +kernel
theorem dX6_told_26 : decode cX6_told 26 = .ok (.invokevirtual 121, 3) := by decide +kernel
theorem dX6_told_29 : decode cX6_told 29 = .ok (.goto 8, 3) := by decide +kernel
theorem dX6_told_32 : decode cX6_told 32 = .ok (.aload_n 0, 1) := by decide +kernel
theorem dX6_told_33 : decode cX6_told 33 = .ok (.iconst 1, 1) := by decide +kernel
theorem dX6_told_34 : decode cX6_told 34 = .ok (.invokevirtual 40, 3) := by decide +kernel
theorem dX6_told_37 : decode cX6_told 37 = .ok (.ireturn, 1) := by decide +kernel
theorem dX6_watchmanTold_0 : decode cX6_watchmanTold 0 = .ok (.iload_n 2, 1) := by decide +kernel
theorem dX6_watchmanTold_1 : decode cX6_watchmanTold 1 = .ok (.tableswitch 69 0 3 #[31, 41, 51, 60], 31) := by decide +kernel
theorem dX6_watchmanTold_32 : decode cX6_watchmanTold 32 = .ok (.aload_n 0, 1) := by decide +kernel
theorem dX6_watchmanTold_33 : decode cX6_watchmanTold 33 = .ok (.getfield 10, 3) := by decide +kernel
theorem dX6_watchmanTold_36 : decode cX6_watchmanTold 36 = .ok (.getfield 78, 3) := by decide +kernel
theorem dX6_watchmanTold_39 : decode cX6_watchmanTold 39 = .ok (.iload_n 1, 1) := by decide +kernel
theorem dX6_watchmanTold_40 : decode cX6_watchmanTold 40 = .ok (.iaload, 1) := by decide +kernel
theorem dX6_watchmanTold_41 : decode cX6_watchmanTold 41 = .ok (.ireturn, 1) := by decide +kernel
theorem dX6_watchmanTold_42 : decode cX6_watchmanTold 42 = .ok (.aload_n 0, 1) := by decide +kernel
theorem dX6_watchmanTold_43 : decode cX6_watchmanTold 43 = .ok (.getfield 10, 3) := by decide +kernel
theorem dX6_watchmanTold_46 : decode cX6_watchmanTold 46 = .ok (.getfield 81, 3) := by decide +kernel
theorem dX6_watchmanTold_49 : decode cX6_watchmanTold 49 = .ok (.iload_n 1, 1) := by decide +kernel
theorem dX6_watchmanTold_50 : decode cX6_watchmanTold 50 = .ok (.iaload, 1) := by decide +kernel
theorem dX6_watchmanTold_51 : decode cX6_watchmanTold 51 = .ok (.ireturn, 1) := by decide +kernel
theorem dX6_watchmanTold_52 : decode cX6_watchmanTold 52 = .ok (.aload_n 0, 1) := by decide +kernel
theorem dX6_watchmanTold_53 : decode cX6_watchmanTold 53 = .ok (.getfield 10, 3) := by decide +kernel
theorem dX6_watchmanTold_56 : decode cX6_watchmanTold 56 = .ok (.iload_n 1, 1) := by decide +kernel
theorem dX6_watchmanTold_57 : decode cX6_watchmanTold 57 = .ok (.invokevirtual 125, 3) := by decide +kernel
theorem dX6_watchmanTold_60 : decode cX6_watchmanTold 60 = .ok (.ireturn, 1) := by decide +kernel
theorem dX6_watchmanTold_61 : decode cX6_watchmanTold 61 = .ok (.aload_n 0, 1) := by decide +kernel
theorem dX6_watchmanTold_62 : decode cX6_watchmanTold 62 = .ok (.getfield 10, 3) := by decide +kernel
theorem dX6_watchmanTold_65 : decode cX6_watchmanTold 65 = .ok (.iload_n 1, 1) := by decide +kernel
theorem dX6_watchmanTold_66 : decode cX6_watchmanTold 66 = .ok (.invokevirtual 128, 3) := by decide +kernel
theorem dX6_watchmanTold_69 : decode cX6_watchmanTold 69 = .ok (.ireturn, 1) := by decide +kernel
theorem dX6_watchmanTold_70 : decode cX6_watchmanTold 70 = .ok (.aload_n 0, 1) := by decide +kernel
theorem dX6_watchmanTold_71 : decode cX6_watchmanTold 71 = .ok (.getfield 10, 3) := by decide +kernel
theorem dX6_watchmanTold_74 : decode cX6_watchmanTold 74 = .ok (.getfield 131, 3) := by decide +kernel
theorem dX6_watchmanTold_77 : decode cX6_watchmanTold 77 = .ok (.iload_n 1, 1) := by decide +kernel
theorem dX6_watchmanTold_78 : decode cX6_watchmanTold 78 = .ok (.iaload, 1) := by decide +kernel
theorem dX6_watchmanTold_79 : decode cX6_watchmanTold 79 = .ok (.ireturn, 1) := by decide +kernel
theorem dX6_about_0 : decode cX6_about 0 = .ok (.aload_n 0, 1) := by decide +kernel
theorem dX6_about_1 : decode cX6_about 1 = .ok (.iconst 0, 1) := by decide +kernel
theorem dX6_about_2 : decode cX6_about 2 = .ok (.putfield 19, 3) := by decide +kernel
theorem dX6_about_5 : decode cX6_about 5 = .ok (.aload_n 0, 1) := by decide +kernel
theorem dX6_about_6 : decode cX6_about 6 = .ok (.iload_n 1, 1) := by decide +kernel
theorem dX6_about_7 : decode cX6_about 7 = .ok (.invokevirtual 134, 3) := by decide +kernel
theorem dX6_about_10 : decode cX6_about 10 = .ok (.ifCond .eq 21, 3) := by decide +kernel
theorem dX6_about_13 : decode cX6_about 13 = .ok (.iload_n 2, 1) := by decide +kernel
theorem dX6_about_14 : decode cX6_about 14 = .ok (.iconst 0, 1) := by decide +kernel
theorem dX6_about_15 : decode cX6_about 15 = .ok (.iconst 4, 1) := by decide +kernel
theorem dX6_about_16 : decode cX6_about 16 = .ok (.invokestatic 23, 3) := by decide +kernel
theorem dX6_about_19 : decode cX6_about 19 = .ok (.ifCond .eq 12, 3) := by decide +kernel
theorem dX6_about_22 : decode cX6_about 22 = .ok (.aload_n 0, 1) := by decide +kernel
theorem dX6_about_23 : decode cX6_about 23 = .ok (.iload_n 1, 1) := by decide +kernel
theorem dX6_about_24 : decode cX6_about 24 = .ok (.iload_n 2, 1) := by decide +kernel
theorem dX6_about_25 : decode cX6_about 25 = .ok (.invokevirtual 137, 3) := by decide +kernel
theorem dX6_about_28 : decode cX6_about 28 = .ok (.goto 8, 3) := by decide +kernel
theorem dX6_about_31 : decode cX6_about 31 = .ok (.aload_n 0, 1) := by decide +kernel
theorem dX6_about_32 : decode cX6_about 32 = .ok (.iconst 1, 1) := by decide +kernel
theorem dX6_about_33 : decode cX6_about 33 = .ok (.invokevirtual 40, 3) := by decide +kernel
theorem dX6_about_36 : decode cX6_about 36 = .ok (.ireturn, 1) := by decide +kernel
theorem dX6_lightTold_0 : decode cX6_lightTold 0 = .ok (.iload_n 2, 1) := by decide +kernel
theorem dX6_lightTold_1 : decode cX6_lightTold 1 = .ok (.tableswitch 55 0 2 #[27, 37, 46], 27) := by decide +kernel
theorem dX6_lightTold_28 : decode cX6_lightTold 28 = .ok (.aload_n 0, 1) := by decide +kernel
theorem dX6_lightTold_29 : decode cX6_lightTold 29 = .ok (.getfield 10, 3) := by decide +kernel
theorem dX6_lightTold_32 : decode cX6_lightTold 32 = .ok (.getfield 60, 3) := by decide +kernel
theorem dX6_lightTold_35 : decode cX6_lightTold 35 = .ok (.iload_n 1, 1) := by decide +kernel
theorem dX6_lightTold_36 : decode cX6_lightTold 36 = .ok (.iaload, 1) := by decide +kernel
theorem dX6_lightTold_37 : decode cX6_lightTold 37 = .ok (.ireturn, 1) := by decide +kernel
theorem dX6_lightTold_38 : decode cX6_lightTold 38 = .ok (.aload_n 0, 1) := by decide +kernel
theorem dX6_lightTold_39 : decode cX6_lightTold 39 = .ok (.getfield 10, 3) := by decide +kernel
theorem dX6_lightTold_42 : decode cX6_lightTold 42 = .ok (.iload_n 1, 1) := by decide +kernel
theorem dX6_lightTold_43 : decode cX6_lightTold 43 = .ok (.invokevirtual 140, 3) := by decide +kernel
theorem dX6_lightTold_46 : decode cX6_lightTold 46 = .ok (.ireturn, 1) := by decide +kernel
theorem dX6_lightTold_47 : decode cX6_lightTold 47 = .ok (.aload_n 0, 1) := by decide +kernel
theorem dX6_lightTold_48 : decode cX6_lightTold 48 = .ok (.getfield 10, 3) := by decide +kernel
theorem dX6_lightTold_51 : decode cX6_lightTold 51 = .ok (.iload_n 1, 1) := by decide +kernel
theorem dX6_lightTold_52 : decode cX6_lightTold 52 = .ok (.invokevirtual 143, 3) := by decide +kernel
theorem dX6_lightTold_55 : decode cX6_lightTold 55 = .ok (.ireturn, 1) := by decide +kernel
theorem dX6_lightTold_56 : decode cX6_lightTold 56 = .ok (.aload_n 0, 1) := by decide +kernel
theorem dX6_lightTold_57 : decode cX6_lightTold 57 = .ok (.getfield 10, 3) := by decide +kernel
theorem dX6_lightTold_60 : decode cX6_lightTold 60 = .ok (.getfield 146, 3) := by decide +kernel
theorem dX6_lightTold_63 : decode cX6_lightTold 63 = .ok (.iload_n 1, 1) := by decide +kernel
theorem dX6_lightTold_64 : decode cX6_lightTold 64 = .ok (.iaload, 1) := by decide +kernel
theorem dX6_lightTold_65 : decode cX6_lightTold 65 = .ok (.ireturn, 1) := by decide +kernel
theorem dX6_light_0 : decode cX6_light 0 = .ok (.aload_n 0, 1) := by decide +kernel
theorem dX6_light_1 : decode cX6_light 1 = .ok (.iconst 0, 1) := by decide +kernel
theorem dX6_light_2 : decode cX6_light 2 = .ok (.putfield 19, 3) := by decide +kernel
theorem dX6_light_5 : decode cX6_light 5 = .ok (.aload_n 0, 1) := by decide +kernel
theorem dX6_light_6 : decode cX6_light 6 = .ok (.iload_n 1, 1) := by decide +kernel
theorem dX6_light_7 : decode cX6_light 7 = .ok (.invokevirtual 63, 3) := by decide +kernel
theorem dX6_light_10 : decode cX6_light 10 = .ok (.ifCond .eq 21, 3) := by decide +kernel
theorem dX6_light_13 : decode cX6_light 13 = .ok (.iload_n 2, 1) := by decide +kernel
theorem dX6_light_14 : decode cX6_light 14 = .ok (.iconst 0, 1) := by decide +kernel
theorem dX6_light_15 : decode cX6_light 15 = .ok (.iconst 3, 1) := by decide +kernel
theorem dX6_light_16 : decode cX6_light 16 = .ok (.invokestatic 23, 3) := by decide +kernel
theorem dX6_light_19 : decode cX6_light 19 = .ok (.ifCond .eq 12, 3) := by decide +kernel
theorem dX6_light_22 : decode cX6_light 22 = .ok (.aload_n 0, 1) := by decide +kernel
theorem dX6_light_23 : decode cX6_light 23 = .ok (.iload_n 1, 1) := by decide +kernel
theorem dX6_light_24 : decode cX6_light 24 = .ok (.iload_n 2, 1) := by decide +kernel
theorem dX6_light_25 : decode cX6_light 25 = .ok (.invokevirtual 149, 3) := by decide +kernel
theorem dX6_light_28 : decode cX6_light 28 = .ok (.goto 8, 3) := by decide +kernel
theorem dX6_light_31 : decode cX6_light 31 = .ok (.aload_n 0, 1) := by decide +kernel
theorem dX6_light_32 : decode cX6_light 32 = .ok (.iconst 1, 1) := by decide +kernel
theorem dX6_light_33 : decode cX6_light 33 = .ok (.invokevirtual 40, 3) := by decide +kernel
theorem dX6_light_36 : decode cX6_light 36 = .ok (.ireturn, 1) := by decide +kernel
theorem dX6_codeTold_0 : decode cX6_codeTold 0 = .ok (.iload_n 2, 1) := by decide +kernel
theorem dX6_codeTold_1 : decode cX6_codeTold 1 = .ok (.iconst 2, 1) := by decide +kernel
theorem dX6_codeTold_2 : decode cX6_codeTold 2 = .ok (.if_icmp .ge 29, 3) := by decide +kernel
theorem dX6_codeTold_5 : decode cX6_codeTold 5 = .ok (.iload_n 2, 1) := by decide +kernel
theorem dX6_codeTold_6 : decode cX6_codeTold 6 = .ok (.ifCond .ne 15, 3) := by decide +kernel
theorem dX6_codeTold_9 : decode cX6_codeTold 9 = .ok (.aload_n 0, 1) := by decide +kernel
theorem dX6_codeTold_10 : decode cX6_codeTold 10 = .ok (.getfield 10, 3) := by decide +kernel
theorem dX6_codeTold_13 : decode cX6_codeTold 13 = .ok (.getfield 54, 3) := by decide +kernel
theorem dX6_codeTold_16 : decode cX6_codeTold 16 = .ok (.iload_n 1, 1) := by decide +kernel
theorem dX6_codeTold_17 : decode cX6_codeTold 17 = .ok (.iaload, 1) := by decide +kernel
theorem dX6_codeTold_18 : decode cX6_codeTold 18 = .ok (.goto 12, 3) := by decide +kernel
theorem dX6_codeTold_21 : decode cX6_codeTold 21 = .ok (.aload_n 0, 1) := by decide +kernel
theorem dX6_codeTold_22 : decode cX6_codeTold 22 = .ok (.getfield 10, 3) := by decide +kernel
theorem dX6_codeTold_25 : decode cX6_codeTold 25 = .ok (.getfield 57, 3) := by decide +kernel
theorem dX6_codeTold_28 : decode cX6_codeTold 28 = .ok (.iload_n 1, 1) := by decide +kernel
theorem dX6_codeTold_29 : decode cX6_codeTold 29 = .ok (.iaload, 1) := by decide +kernel
theorem dX6_codeTold_30 : decode cX6_codeTold 30 = .ok (.ireturn, 1) := by decide +kernel
theorem dX6_codeTold_31 : decode cX6_codeTold 31 = .ok (.iload_n 2, 1) := by decide +kernel
theorem dX6_codeTold_32 : decode cX6_codeTold 32 = .ok (.iconst 2, 1) := by decide +kernel
theorem dX6_codeTold_33 : decode cX6_codeTold 33 = .ok (.if_icmp .ne 20, 3) := by decide +kernel
theorem dX6_codeTold_36 : decode cX6_codeTold 36 = .ok (.aload_n 0, 1) := by decide +kernel
theorem dX6_codeTold_37 : decode cX6_codeTold 37 = .ok (.getfield 10, 3) := by decide +kernel
theorem dX6_codeTold_40 : decode cX6_codeTold 40 = .ok (.iload_n 1, 1) := by decide +kernel
theorem dX6_codeTold_41 : decode cX6_codeTold 41 = .ok (.invokevirtual 152, 3) := by decide +kernel
theorem dX6_codeTold_44 : decode cX6_codeTold 44 = .ok (.ifCond .eq 7, 3) := by decide +kernel
theorem dX6_codeTold_47 : decode cX6_codeTold 47 = .ok (.iconst 1, 1) := by decide +kernel
theorem dX6_codeTold_48 : decode cX6_codeTold 48 = .ok (.goto 4, 3) := by decide +kernel
theorem dX6_codeTold_51 : decode cX6_codeTold 51 = .ok (.iconst 0, 1) := by decide +kernel
theorem dX6_codeTold_52 : decode cX6_codeTold 52 = .ok (.ireturn, 1) := by decide +kernel
theorem dX6_codeTold_53 : decode cX6_codeTold 53 = .ok (.iconst 0, 1) := by decide +kernel
theorem dX6_codeTold_54 : decode cX6_codeTold 54 = .ok (.istore_n 3, 1) := by decide +kernel
theorem dX6_codeTold_55 : decode cX6_codeTold 55 = .ok (.iconst 0, 1) := by decide +kernel
theorem dX6_codeTold_56 : decode cX6_codeTold 56 = .ok (.istore 4, 2) := by decide +kernel
theorem dX6_codeTold_58 : decode cX6_codeTold 58 = .ok (.iload 4, 2) := by decide +kernel
theorem dX6_codeTold_60 : decode cX6_codeTold 60 = .ok (.aload_n 0, 1) := by decide +kernel
theorem dX6_codeTold_61 : decode cX6_codeTold 61 = .ok (.getfield 10, 3) := by decide +kernel
theorem dX6_codeTold_64 : decode cX6_codeTold 64 = .ok (.getfield 33, 3) := by decide +kernel
theorem dX6_codeTold_67 : decode cX6_codeTold 67 = .ok (.if_icmp .ge 44, 3) := by decide +kernel
theorem dX6_codeTold_70 : decode cX6_codeTold 70 = .ok (.iload_n 3, 1) := by decide +kernel
theorem dX6_codeTold_71 : decode cX6_codeTold 71 = .ok (.aload_n 0, 1) := by decide +kernel
theorem dX6_codeTold_72 : decode cX6_codeTold 72 = .ok (.getfield 10, 3) := by decide +kernel
theorem dX6_codeTold_75 : decode cX6_codeTold 75 = .ok (.getfield 97, 3) := by decide +kernel
theorem dX6_codeTold_78 : decode cX6_codeTold 78 = .ok (.iload 4, 2) := by decide +kernel
theorem dX6_codeTold_80 : decode cX6_codeTold 80 = .ok (.iaload, 1) := by decide +kernel
theorem dX6_codeTold_81 : decode cX6_codeTold 81 = .ok (.ifCond .ne 21, 3) := by decide +kernel
theorem dX6_codeTold_84 : decode cX6_codeTold 84 = .ok (.aload_n 0, 1) := by decide +kernel
theorem dX6_codeTold_85 : decode cX6_codeTold 85 = .ok (.getfield 10, 3) := by decide +kernel
theorem dX6_codeTold_88 : decode cX6_codeTold 88 = .ok (.getfield 115, 3) := by decide +kernel
theorem dX6_codeTold_91 : decode cX6_codeTold 91 = .ok (.iload 4, 2) := by decide +kernel
theorem dX6_codeTold_93 : decode cX6_codeTold 93 = .ok (.iaload, 1) := by decide +kernel
theorem dX6_codeTold_94 : decode cX6_codeTold 94 = .ok (.iload_n 1, 1) := by decide +kernel
theorem dX6_codeTold_95 : decode cX6_codeTold 95 = .ok (.if_icmp .ne 7, 3) := by decide +kernel
theorem dX6_codeTold_98 : decode cX6_codeTold 98 = .ok (.iconst 1, 1) := by decide +kernel
theorem dX6_codeTold_99 : decode cX6_codeTold 99 = .ok (.goto 4, 3) := by decide +kernel
theorem dX6_codeTold_102 : decode cX6_codeTold 102 = .ok (.iconst 0, 1) := by decide +kernel
theorem dX6_codeTold_103 : decode cX6_codeTold 103 = .ok (.iadd, 1) := by decide +kernel
theorem dX6_codeTold_104 : decode cX6_codeTold 104 = .ok (.istore_n 3, 1) := by decide +kernel
theorem dX6_codeTold_105 : decode cX6_codeTold 105 = .ok (.iinc 4 1, 3) := by decide +kernel
theorem dX6_codeTold_108 : decode cX6_codeTold 108 = .ok (.goto (-50), 3) := by decide +kernel
theorem dX6_codeTold_111 : decode cX6_codeTold 111 = .ok (.iload_n 3, 1) := by decide +kernel
theorem dX6_codeTold_112 : decode cX6_codeTold 112 = .ok (.ireturn, 1) := by decide +kernel
theorem dX6_code_0 : decode cX6_code 0 = .ok (.aload_n 0, 1) := by decide +kernel
theorem dX6_code_1 : decode cX6_code 1 = .ok (.iconst 0, 1) := by decide +kernel
theorem dX6_code_2 : decode cX6_code 2 = .ok (.putfield 19, 3) := by decide +kernel
theorem dX6_code_5 : decode cX6_code 5 = .ok (.iload_n 1, 1) := by decide +kernel
theorem dX6_code_6 : decode cX6_code 6 = .ok (.invokestatic 51, 3) := by decide +kernel
theorem dX6_code_9 : decode cX6_code 9 = .ok (.ifCond .eq 21, 3) := by decide +kernel
theorem dX6_code_12 : decode cX6_code 12 = .ok (.iload_n 2, 1) := by decide +kernel
theorem dX6_code_13 : decode cX6_code 13 = .ok (.iconst 0, 1) := by decide +kernel
theorem dX6_code_14 : decode cX6_code 14 = .ok (.iconst 3, 1) := by decide +kernel
theorem dX6_code_15 : decode cX6_code 15 = .ok (.invokestatic 23, 3) := by decide +kernel
theorem dX6_code_18 : decode cX6_code 18 = .ok (.ifCond .eq 12, 3) := by decide +kernel
theorem dX6_code_21 : decode cX6_code 21 = .ok (.aload_n 0, 1) := by decide +kernel
theorem dX6_code_22 : decode cX6_code 22 = .ok (.iload_n 1, 1) := by decide +kernel
theorem dX6_code_23 : decode cX6_code 23 = .ok (.iload_n 2, 1) := by decide +kernel
theorem dX6_code_24 : decode cX6_code 24 = .ok (.invokevirtual 155, 3) := by decide +kernel
theorem dX6_code_27 : decode cX6_code 27 = .ok (.goto 8, 3) := by decide +kernel
theorem dX6_code_30 : decode cX6_code 30 = .ok (.aload_n 0, 1) := by decide +kernel
theorem dX6_code_31 : decode cX6_code 31 = .ok (.iconst 1, 1) := by decide +kernel
theorem dX6_code_32 : decode cX6_code 32 = .ok (.invokevirtual 40, 3) := by decide +kernel
theorem dX6_code_35 : decode cX6_code 35 = .ok (.ireturn, 1) := by decide +kernel
theorem dX6_placeTold_0 : decode cX6_placeTold 0 = .ok (.iconst 0, 1) := by decide +kernel
theorem dX6_placeTold_1 : decode cX6_placeTold 1 = .ok (.istore_n 3, 1) := by decide +kernel
theorem dX6_placeTold_2 : decode cX6_placeTold 2 = .ok (.iload_n 2, 1) := by decide +kernel
theorem dX6_placeTold_3 : decode cX6_placeTold 3 = .ok (.tableswitch 152 0 3 #[29, 39, 49, 94], 29) := by decide +kernel
theorem dX6_placeTold_32 : decode cX6_placeTold 32 = .ok (.aload_n 0, 1) := by decide +kernel
theorem dX6_placeTold_33 : decode cX6_placeTold 33 = .ok (.getfield 10, 3) := by decide +kernel
theorem dX6_placeTold_36 : decode cX6_placeTold 36 = .ok (.getfield 48, 3) := by decide +kernel
theorem dX6_placeTold_39 : decode cX6_placeTold 39 = .ok (.iload_n 1, 1) := by decide +kernel
theorem dX6_placeTold_40 : decode cX6_placeTold 40 = .ok (.iaload, 1) := by decide +kernel
theorem dX6_placeTold_41 : decode cX6_placeTold 41 = .ok (.ireturn, 1) := by decide +kernel
theorem dX6_placeTold_42 : decode cX6_placeTold 42 = .ok (.aload_n 0, 1) := by decide +kernel
theorem dX6_placeTold_43 : decode cX6_placeTold 43 = .ok (.getfield 10, 3) := by decide +kernel
theorem dX6_placeTold_46 : decode cX6_placeTold 46 = .ok (.getfield 44, 3) := by decide +kernel
theorem dX6_placeTold_49 : decode cX6_placeTold 49 = .ok (.iload_n 1, 1) := by decide +kernel
theorem dX6_placeTold_50 : decode cX6_placeTold 50 = .ok (.iaload, 1) := by decide +kernel
theorem dX6_placeTold_51 : decode cX6_placeTold 51 = .ok (.ireturn, 1) := by decide +kernel
theorem dX6_placeTold_52 : decode cX6_placeTold 52 = .ok (.iconst 0, 1) := by decide +kernel
theorem dX6_placeTold_53 : decode cX6_placeTold 53 = .ok (.istore 4, 2) := by decide +kernel
theorem dX6_placeTold_55 : decode cX6_placeTold 55 = .ok (.iload 4, 2) := by decide +kernel
theorem dX6_placeTold_57 : decode cX6_placeTold 57 = .ok (.aload_n 0, 1) := by decide +kernel
theorem dX6_placeTold_58 : decode cX6_placeTold 58 = .ok (.getfield 10, 3) := by decide +kernel
theorem dX6_placeTold_61 : decode cX6_placeTold 61 = .ok (.getfield 30, 3) := by decide +kernel
theorem dX6_placeTold_64 : decode cX6_placeTold 64 = .ok (.if_icmp .ge 31, 3) := by decide +kernel
theorem dX6_placeTold_67 : decode cX6_placeTold 67 = .ok (.iload_n 3, 1) := by decide +kernel
theorem dX6_placeTold_68 : decode cX6_placeTold 68 = .ok (.aload_n 0, 1) := by decide +kernel
theorem dX6_placeTold_69 : decode cX6_placeTold 69 = .ok (.getfield 10, 3) := by decide +kernel
theorem dX6_placeTold_72 : decode cX6_placeTold 72 = .ok (.getfield 78, 3) := by decide +kernel
theorem dX6_placeTold_75 : decode cX6_placeTold 75 = .ok (.iload 4, 2) := by decide +kernel
theorem dX6_placeTold_77 : decode cX6_placeTold 77 = .ok (.iaload, 1) := by decide +kernel
theorem dX6_placeTold_78 : decode cX6_placeTold 78 = .ok (.iload_n 1, 1) := by decide +kernel
theorem dX6_placeTold_79 : decode cX6_placeTold 79 = .ok (.if_icmp .ne 7, 3) := by decide +kernel
theorem dX6_placeTold_82 : decode cX6_placeTold 82 = .ok (.iconst 1, 1) := by decide +kernel
theorem dX6_placeTold_83 : decode cX6_placeTold 83 = .ok (.goto 4, 3) := by decide +kernel
theorem dX6_placeTold_86 : decode cX6_placeTold 86 = .ok (.iconst 0, 1) := by decide +kernel
theorem dX6_placeTold_87 : decode cX6_placeTold 87 = .ok (.iadd, 1) := by decide +kernel
theorem dX6_placeTold_88 : decode cX6_placeTold 88 = .ok (.istore_n 3, 1) := by decide +kernel
theorem dX6_placeTold_89 : decode cX6_placeTold 89 = .ok (.iinc 4 1, 3) := by decide +kernel
theorem dX6_placeTold_92 : decode cX6_placeTold 92 = .ok (.goto (-37), 3) := by decide +kernel
theorem dX6_placeTold_95 : decode cX6_placeTold 95 = .ok (.iload_n 3, 1) := by decide +kernel
theorem dX6_placeTold_96 : decode cX6_placeTold 96 = .ok (.ireturn, 1) := by decide +kernel
theorem dX6_placeTold_97 : decode cX6_placeTold 97 = .ok (.iconst 0, 1) := by decide +kernel
theorem dX6_placeTold_98 : decode cX6_placeTold 98 = .ok (.istore 4, 2) := by decide +kernel
theorem dX6_placeTold_100 : decode cX6_placeTold 100 = .ok (.iload 4, 2) := by decide +kernel
theorem dX6_placeTold_102 : decode cX6_placeTold 102 = .ok (.aload_n 0, 1) := by decide +kernel
theorem dX6_placeTold_103 : decode cX6_placeTold 103 = .ok (.getfield 10, 3) := by decide +kernel
theorem dX6_placeTold_106 : decode cX6_placeTold 106 = .ok (.getfield 33, 3) := by decide +kernel
theorem dX6_placeTold_109 : decode cX6_placeTold 109 = .ok (.if_icmp .ge 44, 3) := by decide +kernel
theorem dX6_placeTold_112 : decode cX6_placeTold 112 = .ok (.iload_n 3, 1) := by decide +kernel
theorem dX6_placeTold_113 : decode cX6_placeTold 113 = .ok (.aload_n 0, 1) := by decide +kernel
theorem dX6_placeTold_114 : decode cX6_placeTold 114 = .ok (.getfield 10, 3) := by decide +kernel
theorem dX6_placeTold_117 : decode cX6_placeTold 117 = .ok (.getfield 97, 3) := by decide +kernel
theorem dX6_placeTold_120 : decode cX6_placeTold 120 = .ok (.iload 4, 2) := by decide +kernel
theorem dX6_placeTold_122 : decode cX6_placeTold 122 = .ok (.iaload, 1) := by decide +kernel
theorem dX6_placeTold_123 : decode cX6_placeTold 123 = .ok (.ifCond .ne 21, 3) := by decide +kernel
theorem dX6_placeTold_126 : decode cX6_placeTold 126 = .ok (.aload_n 0, 1) := by decide +kernel
theorem dX6_placeTold_127 : decode cX6_placeTold 127 = .ok (.getfield 10, 3) := by decide +kernel
theorem dX6_placeTold_130 : decode cX6_placeTold 130 = .ok (.getfield 84, 3) := by decide +kernel
theorem dX6_placeTold_133 : decode cX6_placeTold 133 = .ok (.iload 4, 2) := by decide +kernel
theorem dX6_placeTold_135 : decode cX6_placeTold 135 = .ok (.iaload, 1) := by decide +kernel
theorem dX6_placeTold_136 : decode cX6_placeTold 136 = .ok (.iload_n 1, 1) := by decide +kernel
theorem dX6_placeTold_137 : decode cX6_placeTold 137 = .ok (.if_icmp .ne 7, 3) := by decide +kernel
theorem dX6_placeTold_140 : decode cX6_placeTold 140 = .ok (.iconst 1, 1) := by decide +kernel
theorem dX6_placeTold_141 : decode cX6_placeTold 141 = .ok (.goto 4, 3) := by decide +kernel
theorem dX6_placeTold_144 : decode cX6_placeTold 144 = .ok (.iconst 0, 1) := by decide +kernel
theorem dX6_placeTold_145 : decode cX6_placeTold 145 = .ok (.iadd, 1) := by decide +kernel
theorem dX6_placeTold_146 : decode cX6_placeTold 146 = .ok (.istore_n 3, 1) := by decide +kernel
theorem dX6_placeTold_147 : decode cX6_placeTold 147 = .ok (.iinc 4 1, 3) := by decide +kernel
theorem dX6_placeTold_150 : decode cX6_placeTold 150 = .ok (.goto (-50), 3) := by decide +kernel
theorem dX6_placeTold_153 : decode cX6_placeTold 153 = .ok (.iload_n 3, 1) := by decide +kernel
theorem dX6_placeTold_154 : decode cX6_placeTold 154 = .ok (.ireturn, 1) := by decide +kernel
theorem dX6_placeTold_155 : decode cX6_placeTold 155 = .ok (.aload_n 0, 1) := by decide +kernel
theorem dX6_placeTold_156 : decode cX6_placeTold 156 = .ok (.getfield 10, 3) := by decide +kernel
theorem dX6_placeTold_159 : decode cX6_placeTold 159 = .ok (.iload_n 1, 1) := by decide +kernel
theorem dX6_placeTold_160 : decode cX6_placeTold 160 = .ok (.invokevirtual 158, 3) := by decide +kernel
theorem dX6_placeTold_163 : decode cX6_placeTold 163 = .ok (.ireturn, 1) := by decide +kernel
theorem dX6_place_0 : decode cX6_place 0 = .ok (.aload_n 0, 1) := by decide +kernel
theorem dX6_place_1 : decode cX6_place 1 = .ok (.iconst 0, 1) := by decide +kernel
theorem dX6_place_2 : decode cX6_place 2 = .ok (.putfield 19, 3) := by decide +kernel
theorem dX6_place_5 : decode cX6_place 5 = .ok (.iload_n 1, 1) := by decide +kernel
theorem dX6_place_6 : decode cX6_place 6 = .ok (.invokestatic 36, 3) := by decide +kernel
theorem dX6_place_9 : decode cX6_place 9 = .ok (.ifCond .eq 21, 3) := by decide +kernel
theorem dX6_place_12 : decode cX6_place 12 = .ok (.iload_n 2, 1) := by decide +kernel
theorem dX6_place_13 : decode cX6_place 13 = .ok (.iconst 0, 1) := by decide +kernel
theorem dX6_place_14 : decode cX6_place 14 = .ok (.iconst 4, 1) := by decide +kernel
theorem dX6_place_15 : decode cX6_place 15 = .ok (.invokestatic 23, 3) := by decide +kernel
theorem dX6_place_18 : decode cX6_place 18 = .ok (.ifCond .eq 12, 3) := by decide +kernel
theorem dX6_place_21 : decode cX6_place 21 = .ok (.aload_n 0, 1) := by decide +kernel
theorem dX6_place_22 : decode cX6_place 22 = .ok (.iload_n 1, 1) := by decide +kernel
theorem dX6_place_23 : decode cX6_place 23 = .ok (.iload_n 2, 1) := by decide +kernel
theorem dX6_place_24 : decode cX6_place 24 = .ok (.invokevirtual 161, 3) := by decide +kernel
theorem dX6_place_27 : decode cX6_place 27 = .ok (.goto 8, 3) := by decide +kernel
theorem dX6_place_30 : decode cX6_place 30 = .ok (.aload_n 0, 1) := by decide +kernel
theorem dX6_place_31 : decode cX6_place 31 = .ok (.iconst 1, 1) := by decide +kernel
theorem dX6_place_32 : decode cX6_place 32 = .ok (.invokevirtual 40, 3) := by decide +kernel
theorem dX6_place_35 : decode cX6_place 35 = .ok (.ireturn, 1) := by decide +kernel
theorem dX6_moon_0 : decode cX6_moon 0 = .ok (.aload_n 0, 1) := by decide +kernel
theorem dX6_moon_1 : decode cX6_moon 1 = .ok (.iconst 0, 1) := by decide +kernel
theorem dX6_moon_2 : decode cX6_moon 2 = .ok (.putfield 19, 3) := by decide +kernel
theorem dX6_moon_5 : decode cX6_moon 5 = .ok (.iload_n 1, 1) := by decide +kernel
theorem dX6_moon_6 : decode cX6_moon 6 = .ok (.iconst 0, 1) := by decide +kernel
theorem dX6_moon_7 : decode cX6_moon 7 = .ok (.sipush 999, 3) := by decide +kernel
theorem dX6_moon_10 : decode cX6_moon 10 = .ok (.invokestatic 23, 3) := by decide +kernel
theorem dX6_moon_13 : decode cX6_moon 13 = .ok (.ifCond .eq 10, 3) := by decide +kernel
theorem dX6_moon_16 : decode cX6_moon 16 = .ok (.iload_n 1, 1) := by decide +kernel
theorem dX6_moon_17 : decode cX6_moon 17 = .ok (.invokestatic 164, 3) := by decide +kernel
theorem dX6_moon_20 : decode cX6_moon 20 = .ok (.goto 8, 3) := by decide +kernel
theorem dX6_moon_23 : decode cX6_moon 23 = .ok (.aload_n 0, 1) := by decide +kernel
theorem dX6_moon_24 : decode cX6_moon 24 = .ok (.iconst 1, 1) := by decide +kernel
theorem dX6_moon_25 : decode cX6_moon 25 = .ok (.invokevirtual 40, 3) := by decide +kernel
theorem dX6_moon_28 : decode cX6_moon 28 = .ok (.ireturn, 1) := by decide +kernel
theorem dX6_count_0 : decode cX6_count 0 = .ok (.aload_n 0, 1) := by decide +kernel
theorem dX6_count_1 : decode cX6_count 1 = .ok (.iconst 0, 1) := by decide +kernel
theorem dX6_count_2 : decode cX6_count 2 = .ok (.putfield 19, 3) := by decide +kernel
theorem dX6_count_5 : decode cX6_count 5 = .ok (.iload_n 1, 1) := by decide +kernel
theorem dX6_count_6 : decode cX6_count 6 = .ok (.iconst 0, 1) := by decide +kernel
theorem dX6_count_7 : decode cX6_count 7 = .ok (.bipush 10, 2) := by decide +kernel
theorem dX6_count_9 : decode cX6_count 9 = .ok (.invokestatic 23, 3) := by decide +kernel
theorem dX6_count_12 : decode cX6_count 12 = .ok (.ifCond .eq 14, 3) := by decide +kernel
theorem dX6_count_15 : decode cX6_count 15 = .ok (.aload_n 0, 1) := by decide +kernel
theorem dX6_count_16 : decode cX6_count 16 = .ok (.getfield 10, 3) := by decide +kernel
theorem dX6_count_19 : decode cX6_count 19 = .ok (.iload_n 1, 1) := by decide +kernel
theorem dX6_count_20 : decode cX6_count 20 = .ok (.invokevirtual 167, 3) := by decide +kernel
theorem dX6_count_23 : decode cX6_count 23 = .ok (.goto 8, 3) := by decide +kernel
theorem dX6_count_26 : decode cX6_count 26 = .ok (.aload_n 0, 1) := by decide +kernel
theorem dX6_count_27 : decode cX6_count 27 = .ok (.iconst 1, 1) := by decide +kernel
theorem dX6_count_28 : decode cX6_count 28 = .ok (.invokevirtual 40, 3) := by decide +kernel
theorem dX6_count_31 : decode cX6_count 31 = .ok (.ireturn, 1) := by decide +kernel
theorem dX6_goOn_0 : decode cX6_goOn 0 = .ok (.iconst 0, 1) := by decide +kernel
theorem dX6_goOn_1 : decode cX6_goOn 1 = .ok (.istore_n 2, 1) := by decide +kernel
theorem dX6_goOn_2 : decode cX6_goOn 2 = .ok (.iconst 0, 1) := by decide +kernel
theorem dX6_goOn_3 : decode cX6_goOn 3 = .ok (.istore_n 3, 1) := by decide +kernel
theorem dX6_goOn_4 : decode cX6_goOn 4 = .ok (.iload_n 3, 1) := by decide +kernel
theorem dX6_goOn_5 : decode cX6_goOn 5 = .ok (.iload_n 1, 1) := by decide +kernel
theorem dX6_goOn_6 : decode cX6_goOn 6 = .ok (.if_icmp .ge 16, 3) := by decide +kernel
theorem dX6_goOn_9 : decode cX6_goOn 9 = .ok (.iload_n 2, 1) := by decide +kernel
theorem dX6_goOn_10 : decode cX6_goOn 10 = .ok (.aload_n 0, 1) := by decide +kernel
theorem dX6_goOn_11 : decode cX6_goOn 11 = .ok (.invokevirtual 170, 3) := by decide +kernel
theorem dX6_goOn_14 : decode cX6_goOn 14 = .ok (.iadd, 1) := by decide +kernel
theorem dX6_goOn_15 : decode cX6_goOn 15 = .ok (.istore_n 2, 1) := by decide +kernel
theorem dX6_goOn_16 : decode cX6_goOn 16 = .ok (.iinc 3 1, 3) := by decide +kernel
theorem dX6_goOn_19 : decode cX6_goOn 19 = .ok (.goto (-15), 3) := by decide +kernel
theorem dX6_goOn_22 : decode cX6_goOn 22 = .ok (.iload_n 2, 1) := by decide +kernel
theorem dX6_goOn_23 : decode cX6_goOn 23 = .ok (.ireturn, 1) := by decide +kernel
theorem dX6_pass_0 : decode cX6_pass 0 = .ok (.aload_n 0, 1) := by decide +kernel
theorem dX6_pass_1 : decode cX6_pass 1 = .ok (.iconst 0, 1) := by decide +kernel
theorem dX6_pass_2 : decode cX6_pass 2 = .ok (.putfield 19, 3) := by decide +kernel
theorem dX6_pass_5 : decode cX6_pass 5 = .ok (.iload_n 1, 1) := by decide +kernel
theorem dX6_pass_6 : decode cX6_pass 6 = .ok (.iconst 1, 1) := by decide +kernel
theorem dX6_pass_7 : decode cX6_pass 7 = .ok (.bipush 60, 2) := by decide +kernel
theorem dX6_pass_9 : decode cX6_pass 9 = .ok (.invokestatic 23, 3) := by decide +kernel
theorem dX6_pass_12 : decode cX6_pass 12 = .ok (.ifCond .eq 14, 3) := by decide +kernel
theorem dX6_pass_15 : decode cX6_pass 15 = .ok (.aload_n 0, 1) := by decide +kernel
theorem dX6_pass_16 : decode cX6_pass 16 = .ok (.getfield 10, 3) := by decide +kernel
theorem dX6_pass_19 : decode cX6_pass 19 = .ok (.iload_n 1, 1) := by decide +kernel
theorem dX6_pass_20 : decode cX6_pass 20 = .ok (.invokestatic 174, 3) := by decide +kernel
theorem dX6_pass_23 : decode cX6_pass 23 = .ok (.goto 8, 3) := by decide +kernel
theorem dX6_pass_26 : decode cX6_pass 26 = .ok (.aload_n 0, 1) := by decide +kernel
theorem dX6_pass_27 : decode cX6_pass 27 = .ok (.iconst 1, 1) := by decide +kernel
theorem dX6_pass_28 : decode cX6_pass 28 = .ok (.invokevirtual 40, 3) := by decide +kernel
theorem dX6_pass_31 : decode cX6_pass 31 = .ok (.ireturn, 1) := by decide +kernel
theorem dX6_until_0 : decode cX6_until 0 = .ok (.aload_n 0, 1) := by decide +kernel
theorem dX6_until_1 : decode cX6_until 1 = .ok (.iconst 0, 1) := by decide +kernel
theorem dX6_until_2 : decode cX6_until 2 = .ok (.putfield 19, 3) := by decide +kernel
theorem dX6_until_5 : decode cX6_until 5 = .ok (.aload_n 0, 1) := by decide +kernel
theorem dX6_until_6 : decode cX6_until 6 = .ok (.iload_n 1, 1) := by decide +kernel
theorem dX6_until_7 : decode cX6_until 7 = .ok (.invokevirtual 94, 3) := by decide +kernel
theorem dX6_until_10 : decode cX6_until 10 = .ok (.ifCond .ne 9, 3) := by decide +kernel
theorem dX6_until_13 : decode cX6_until 13 = .ok (.aload_n 0, 1) := by decide +kernel
theorem dX6_until_14 : decode cX6_until 14 = .ok (.iconst 1, 1) := by decide +kernel
theorem dX6_until_15 : decode cX6_until 15 = .ok (.invokevirtual 40, 3) := by decide +kernel
theorem dX6_until_18 : decode cX6_until 18 = .ok (.ireturn, 1) := by decide +kernel
theorem dX6_until_19 : decode cX6_until 19 = .ok (.aload_n 0, 1) := by decide +kernel
theorem dX6_until_20 : decode cX6_until 20 = .ok (.getfield 16, 3) := by decide +kernel
theorem dX6_until_23 : decode cX6_until 23 = .ok (.aload_n 0, 1) := by decide +kernel
theorem dX6_until_24 : decode cX6_until 24 = .ok (.getfield 10, 3) := by decide +kernel
theorem dX6_until_27 : decode cX6_until 27 = .ok (.invokevirtual 178, 3) := by decide +kernel
theorem dX6_until_30 : decode cX6_until 30 = .ok (.iconst 0, 1) := by decide +kernel
theorem dX6_until_31 : decode cX6_until 31 = .ok (.istore_n 2, 1) := by decide +kernel
theorem dX6_until_32 : decode cX6_until 32 = .ok (.aload_n 0, 1) := by decide +kernel
theorem dX6_until_33 : decode cX6_until 33 = .ok (.getfield 16, 3) := by decide +kernel
theorem dX6_until_36 : decode cX6_until 36 = .ok (.getfield 97, 3) := by decide +kernel
theorem dX6_until_39 : decode cX6_until 39 = .ok (.iload_n 1, 1) := by decide +kernel
theorem dX6_until_40 : decode cX6_until 40 = .ok (.iaload, 1) := by decide +kernel
theorem dX6_until_41 : decode cX6_until 41 = .ok (.ifCond .ne 23, 3) := by decide +kernel
theorem dX6_until_44 : decode cX6_until 44 = .ok (.iload_n 2, 1) := by decide +kernel
theorem dX6_until_45 : decode cX6_until 45 = .ok (.bipush 120, 2) := by decide +kernel
theorem dX6_until_47 : decode cX6_until 47 = .ok (.if_icmp .ge 17, 3) := by decide +kernel
theorem dX6_until_50 : decode cX6_until 50 = .ok (.aload_n 0, 1) := by decide +kernel
theorem dX6_until_51 : decode cX6_until 51 = .ok (.getfield 16, 3) := by decide +kernel
theorem dX6_until_54 : decode cX6_until 54 = .ok (.invokevirtual 170, 3) := by decide +kernel
theorem dX6_until_57 : decode cX6_until 57 = .ok (.pop, 1) := by decide +kernel
theorem dX6_until_58 : decode cX6_until 58 = .ok (.iinc 2 1, 3) := by decide +kernel
theorem dX6_until_61 : decode cX6_until 61 = .ok (.goto (-29), 3) := by decide +kernel
theorem dX6_until_64 : decode cX6_until 64 = .ok (.aload_n 0, 1) := by decide +kernel
theorem dX6_until_65 : decode cX6_until 65 = .ok (.getfield 16, 3) := by decide +kernel
theorem dX6_until_68 : decode cX6_until 68 = .ok (.getfield 97, 3) := by decide +kernel
theorem dX6_until_71 : decode cX6_until 71 = .ok (.iload_n 1, 1) := by decide +kernel
theorem dX6_until_72 : decode cX6_until 72 = .ok (.iaload, 1) := by decide +kernel
theorem dX6_until_73 : decode cX6_until 73 = .ok (.iconst 1, 1) := by decide +kernel
theorem dX6_until_74 : decode cX6_until 74 = .ok (.if_icmp .ne 7, 3) := by decide +kernel
theorem dX6_until_77 : decode cX6_until 77 = .ok (.iload_n 2, 1) := by decide +kernel
theorem dX6_until_78 : decode cX6_until 78 = .ok (.goto 4, 3) := by decide +kernel
theorem dX6_until_81 : decode cX6_until 81 = .ok (.iconst (-1), 1) := by decide +kernel
theorem dX6_until_82 : decode cX6_until 82 = .ok (.ireturn, 1) := by decide +kernel
theorem dX6_foresee_0 : decode cX6_foresee 0 = .ok (.aload_n 0, 1) := by decide +kernel
theorem dX6_foresee_1 : decode cX6_foresee 1 = .ok (.iconst 0, 1) := by decide +kernel
theorem dX6_foresee_2 : decode cX6_foresee 2 = .ok (.putfield 19, 3) := by decide +kernel
theorem dX6_foresee_5 : decode cX6_foresee 5 = .ok (.iload_n 1, 1) := by decide +kernel
theorem dX6_foresee_6 : decode cX6_foresee 6 = .ok (.iconst 1, 1) := by decide +kernel
theorem dX6_foresee_7 : decode cX6_foresee 7 = .ok (.bipush 60, 2) := by decide +kernel
theorem dX6_foresee_9 : decode cX6_foresee 9 = .ok (.invokestatic 23, 3) := by decide +kernel
theorem dX6_foresee_12 : decode cX6_foresee 12 = .ok (.ifCond .ne 9, 3) := by decide +kernel
theorem dX6_foresee_15 : decode cX6_foresee 15 = .ok (.aload_n 0, 1) := by decide +kernel
theorem dX6_foresee_16 : decode cX6_foresee 16 = .ok (.iconst 1, 1) := by decide +kernel
theorem dX6_foresee_17 : decode cX6_foresee 17 = .ok (.invokevirtual 40, 3) := by decide +kernel
theorem dX6_foresee_20 : decode cX6_foresee 20 = .ok (.ireturn, 1) := by decide +kernel
theorem dX6_foresee_21 : decode cX6_foresee 21 = .ok (.iload_n 2, 1) := by decide +kernel
theorem dX6_foresee_22 : decode cX6_foresee 22 = .ok (.iconst 4, 1) := by decide +kernel
theorem dX6_foresee_23 : decode cX6_foresee 23 = .ok (.bipush 10, 2) := by decide +kernel
theorem dX6_foresee_25 : decode cX6_foresee 25 = .ok (.invokestatic 23, 3) := by decide +kernel
theorem dX6_foresee_28 : decode cX6_foresee 28 = .ok (.ifCond .ne 9, 3) := by decide +kernel
theorem dX6_foresee_31 : decode cX6_foresee 31 = .ok (.aload_n 0, 1) := by decide +kernel
theorem dX6_foresee_32 : decode cX6_foresee 32 = .ok (.iconst 2, 1) := by decide +kernel
theorem dX6_foresee_33 : decode cX6_foresee 33 = .ok (.invokevirtual 40, 3) := by decide +kernel
theorem dX6_foresee_36 : decode cX6_foresee 36 = .ok (.ireturn, 1) := by decide +kernel
theorem dX6_foresee_37 : decode cX6_foresee 37 = .ok (.aload_n 0, 1) := by decide +kernel
theorem dX6_foresee_38 : decode cX6_foresee 38 = .ok (.getfield 16, 3) := by decide +kernel
theorem dX6_foresee_41 : decode cX6_foresee 41 = .ok (.aload_n 0, 1) := by decide +kernel
theorem dX6_foresee_42 : decode cX6_foresee 42 = .ok (.getfield 10, 3) := by decide +kernel
theorem dX6_foresee_45 : decode cX6_foresee 45 = .ok (.invokevirtual 178, 3) := by decide +kernel
theorem dX6_foresee_48 : decode cX6_foresee 48 = .ok (.aload_n 0, 1) := by decide +kernel
theorem dX6_foresee_49 : decode cX6_foresee 49 = .ok (.getfield 16, 3) := by decide +kernel
theorem dX6_foresee_52 : decode cX6_foresee 52 = .ok (.iload_n 1, 1) := by decide +kernel
theorem dX6_foresee_53 : decode cX6_foresee 53 = .ok (.invokestatic 174, 3) := by decide +kernel
theorem dX6_foresee_56 : decode cX6_foresee 56 = .ok (.pop, 1) := by decide +kernel
theorem dX6_foresee_57 : decode cX6_foresee 57 = .ok (.aload_n 0, 1) := by decide +kernel
theorem dX6_foresee_58 : decode cX6_foresee 58 = .ok (.getfield 16, 3) := by decide +kernel
theorem dX6_foresee_61 : decode cX6_foresee 61 = .ok (.iload_n 2, 1) := by decide +kernel
theorem dX6_foresee_62 : decode cX6_foresee 62 = .ok (.invokevirtual 167, 3) := by decide +kernel
theorem dX6_foresee_65 : decode cX6_foresee 65 = .ok (.ireturn, 1) := by decide +kernel
theorem dX6_advise_0 : decode cX6_advise 0 = .ok (.aload_n 0, 1) := by decide +kernel
theorem dX6_advise_1 : decode cX6_advise 1 = .ok (.iconst 0, 1) := by decide +kernel
theorem dX6_advise_2 : decode cX6_advise 2 = .ok (.putfield 19, 3) := by decide +kernel
theorem dX6_advise_5 : decode cX6_advise 5 = .ok (.aload_n 0, 1) := by decide +kernel
theorem dX6_advise_6 : decode cX6_advise 6 = .ok (.iload_n 1, 1) := by decide +kernel
theorem dX6_advise_7 : decode cX6_advise 7 = .ok (.invokevirtual 94, 3) := by decide +kernel
theorem dX6_advise_10 : decode cX6_advise 10 = .ok (.ifCond .ne 9, 3) := by decide +kernel
theorem dX6_advise_13 : decode cX6_advise 13 = .ok (.aload_n 0, 1) := by decide +kernel
theorem dX6_advise_14 : decode cX6_advise 14 = .ok (.iconst 1, 1) := by decide +kernel
theorem dX6_advise_15 : decode cX6_advise 15 = .ok (.invokevirtual 40, 3) := by decide +kernel
theorem dX6_advise_18 : decode cX6_advise 18 = .ok (.ireturn, 1) := by decide +kernel
theorem dX6_advise_19 : decode cX6_advise 19 = .ok (.aload_n 0, 1) := by decide +kernel
theorem dX6_advise_20 : decode cX6_advise 20 = .ok (.getfield 10, 3) := by decide +kernel
theorem dX6_advise_23 : decode cX6_advise 23 = .ok (.getfield 97, 3) := by decide +kernel
theorem dX6_advise_26 : decode cX6_advise 26 = .ok (.iload_n 1, 1) := by decide +kernel
theorem dX6_advise_27 : decode cX6_advise 27 = .ok (.iaload, 1) := by decide +kernel
theorem dX6_advise_28 : decode cX6_advise 28 = .ok (.ifCond .eq 9, 3) := by decide +kernel
theorem dX6_advise_31 : decode cX6_advise 31 = .ok (.aload_n 0, 1) := by decide +kernel
theorem dX6_advise_32 : decode cX6_advise 32 = .ok (.iconst 2, 1) := by decide +kernel
theorem dX6_advise_33 : decode cX6_advise 33 = .ok (.invokevirtual 40, 3) := by decide +kernel
theorem dX6_advise_36 : decode cX6_advise 36 = .ok (.ireturn, 1) := by decide +kernel
theorem dX6_advise_37 : decode cX6_advise 37 = .ok (.iconst 0, 1) := by decide +kernel
theorem dX6_advise_38 : decode cX6_advise 38 = .ok (.istore_n 2, 1) := by decide +kernel
theorem dX6_advise_39 : decode cX6_advise 39 = .ok (.iconst (-1), 1) := by decide +kernel
theorem dX6_advise_40 : decode cX6_advise 40 = .ok (.istore_n 3, 1) := by decide +kernel
theorem dX6_advise_41 : decode cX6_advise 41 = .ok (.iconst 0, 1) := by decide +kernel
theorem dX6_advise_42 : decode cX6_advise 42 = .ok (.istore 4, 2) := by decide +kernel
theorem dX6_advise_44 : decode cX6_advise 44 = .ok (.iload 4, 2) := by decide +kernel
theorem dX6_advise_46 : decode cX6_advise 46 = .ok (.bipush 16, 2) := by decide +kernel
theorem dX6_advise_48 : decode cX6_advise 48 = .ok (.if_icmp .ge 65, 3) := by decide +kernel
theorem dX6_advise_51 : decode cX6_advise 51 = .ok (.aload_n 0, 1) := by decide +kernel
theorem dX6_advise_52 : decode cX6_advise 52 = .ok (.getfield 16, 3) := by decide +kernel
theorem dX6_advise_55 : decode cX6_advise 55 = .ok (.aload_n 0, 1) := by decide +kernel
theorem dX6_advise_56 : decode cX6_advise 56 = .ok (.getfield 10, 3) := by decide +kernel
theorem dX6_advise_59 : decode cX6_advise 59 = .ok (.invokevirtual 178, 3) := by decide +kernel
theorem dX6_advise_62 : decode cX6_advise 62 = .ok (.aload_n 0, 1) := by decide +kernel
theorem dX6_advise_63 : decode cX6_advise 63 = .ok (.getfield 16, 3) := by decide +kernel
theorem dX6_advise_66 : decode cX6_advise 66 = .ok (.iload_n 1, 1) := by decide +kernel
theorem dX6_advise_67 : decode cX6_advise 67 = .ok (.iload 4, 2) := by decide +kernel
theorem dX6_advise_69 : decode cX6_advise 69 = .ok (.invokevirtual 90, 3) := by decide +kernel
theorem dX6_advise_72 : decode cX6_advise 72 = .ok (.aload_n 0, 1) := by decide +kernel
theorem dX6_advise_73 : decode cX6_advise 73 = .ok (.getfield 16, 3) := by decide +kernel
theorem dX6_advise_76 : decode cX6_advise 76 = .ok (.bipush 40, 2) := by decide +kernel
theorem dX6_advise_78 : decode cX6_advise 78 = .ok (.invokestatic 174, 3) := by decide +kernel
theorem dX6_advise_81 : decode cX6_advise 81 = .ok (.pop, 1) := by decide +kernel
theorem dX6_advise_82 : decode cX6_advise 82 = .ok (.aload_n 0, 1) := by decide +kernel
theorem dX6_advise_83 : decode cX6_advise 83 = .ok (.getfield 16, 3) := by decide +kernel
theorem dX6_advise_86 : decode cX6_advise 86 = .ok (.invokevirtual 182, 3) := by decide +kernel
theorem dX6_advise_89 : decode cX6_advise 89 = .ok (.iload_n 3, 1) := by decide +kernel
theorem dX6_advise_90 : decode cX6_advise 90 = .ok (.if_icmp .gt 6, 3) := by decide +kernel
theorem dX6_advise_93 : decode cX6_advise 93 = .ok (.goto 14, 3) := by decide +kernel
theorem dX6_advise_96 : decode cX6_advise 96 = .ok (.iload 4, 2) := by decide +kernel
theorem dX6_advise_98 : decode cX6_advise 98 = .ok (.istore_n 2, 1) := by decide +kernel
theorem dX6_advise_99 : decode cX6_advise 99 = .ok (.aload_n 0, 1) := by decide +kernel
theorem dX6_advise_100 : decode cX6_advise 100 = .ok (.getfield 16, 3) := by decide +kernel
theorem dX6_advise_103 : decode cX6_advise 103 = .ok (.invokevirtual 182, 3) := by decide +kernel
theorem dX6_advise_106 : decode cX6_advise 106 = .ok (.istore_n 3, 1) := by decide +kernel
theorem dX6_advise_107 : decode cX6_advise 107 = .ok (.iinc 4 1, 3) := by decide +kernel
theorem dX6_advise_110 : decode cX6_advise 110 = .ok (.goto (-66), 3) := by decide +kernel
theorem dX6_advise_113 : decode cX6_advise 113 = .ok (.iload_n 2, 1) := by decide +kernel
theorem dX6_advise_114 : decode cX6_advise 114 = .ok (.ireturn, 1) := by decide +kernel
theorem dX6_quiet_0 : decode cX6_quiet 0 = .ok (.aload_n 0, 1) := by decide +kernel
theorem dX6_quiet_1 : decode cX6_quiet 1 = .ok (.iconst 0, 1) := by decide +kernel
theorem dX6_quiet_2 : decode cX6_quiet 2 = .ok (.putfield 19, 3) := by decide +kernel
theorem dX6_quiet_5 : decode cX6_quiet 5 = .ok (.iload_n 1, 1) := by decide +kernel
theorem dX6_quiet_6 : decode cX6_quiet 6 = .ok (.invokestatic 36, 3) := by decide +kernel
theorem dX6_quiet_9 : decode cX6_quiet 9 = .ok (.ifCond .ne 9, 3) := by decide +kernel
theorem dX6_quiet_12 : decode cX6_quiet 12 = .ok (.aload_n 0, 1) := by decide +kernel
theorem dX6_quiet_13 : decode cX6_quiet 13 = .ok (.iconst 1, 1) := by decide +kernel
theorem dX6_quiet_14 : decode cX6_quiet 14 = .ok (.invokevirtual 40, 3) := by decide +kernel
theorem dX6_quiet_17 : decode cX6_quiet 17 = .ok (.ireturn, 1) := by decide +kernel
theorem dX6_quiet_18 : decode cX6_quiet 18 = .ok (.aload_n 0, 1) := by decide +kernel
theorem dX6_quiet_19 : decode cX6_quiet 19 = .ok (.getfield 16, 3) := by decide +kernel
theorem dX6_quiet_22 : decode cX6_quiet 22 = .ok (.aload_n 0, 1) := by decide +kernel
theorem dX6_quiet_23 : decode cX6_quiet 23 = .ok (.getfield 10, 3) := by decide +kernel
theorem dX6_quiet_26 : decode cX6_quiet 26 = .ok (.invokevirtual 178, 3) := by decide +kernel
theorem dX6_quiet_29 : decode cX6_quiet 29 = .ok (.iconst 0, 1) := by decide +kernel
theorem dX6_quiet_30 : decode cX6_quiet 30 = .ok (.istore_n 2, 1) := by decide +kernel
theorem dX6_quiet_31 : decode cX6_quiet 31 = .ok (.iload_n 2, 1) := by decide +kernel
theorem dX6_quiet_32 : decode cX6_quiet 32 = .ok (.bipush 40, 2) := by decide +kernel
theorem dX6_quiet_34 : decode cX6_quiet 34 = .ok (.if_icmp .gt 30, 3) := by decide +kernel
theorem dX6_quiet_37 : decode cX6_quiet 37 = .ok (.aload_n 0, 1) := by decide +kernel
theorem dX6_quiet_38 : decode cX6_quiet 38 = .ok (.getfield 16, 3) := by decide +kernel
theorem dX6_quiet_41 : decode cX6_quiet 41 = .ok (.iload_n 1, 1) := by decide +kernel
theorem dX6_quiet_42 : decode cX6_quiet 42 = .ok (.invokevirtual 158, 3) := by decide +kernel
theorem dX6_quiet_45 : decode cX6_quiet 45 = .ok (.ifCond .ne 5, 3) := by decide +kernel
theorem dX6_quiet_48 : decode cX6_quiet 48 = .ok (.iload_n 2, 1) := by decide +kernel
theorem dX6_quiet_49 : decode cX6_quiet 49 = .ok (.ireturn, 1) := by decide +kernel
theorem dX6_quiet_50 : decode cX6_quiet 50 = .ok (.aload_n 0, 1) := by decide +kernel
theorem dX6_quiet_51 : decode cX6_quiet 51 = .ok (.getfield 16, 3) := by decide +kernel
theorem dX6_quiet_54 : decode cX6_quiet 54 = .ok (.invokevirtual 170, 3) := by decide +kernel
theorem dX6_quiet_57 : decode cX6_quiet 57 = .ok (.pop, 1) := by decide +kernel
theorem dX6_quiet_58 : decode cX6_quiet 58 = .ok (.iinc 2 1, 3) := by decide +kernel
theorem dX6_quiet_61 : decode cX6_quiet 61 = .ok (.goto (-30), 3) := by decide +kernel
theorem dX6_quiet_64 : decode cX6_quiet 64 = .ok (.iconst (-1), 1) := by decide +kernel
theorem dX6_quiet_65 : decode cX6_quiet 65 = .ok (.ireturn, 1) := by decide +kernel
theorem dX6_mean_0 : decode cX6_mean 0 = .ok (.aload_n 0, 1) := by decide +kernel
theorem dX6_mean_1 : decode cX6_mean 1 = .ok (.iconst 0, 1) := by decide +kernel
theorem dX6_mean_2 : decode cX6_mean 2 = .ok (.putfield 19, 3) := by decide +kernel
theorem dX6_mean_5 : decode cX6_mean 5 = .ok (.iconst 0, 1) := by decide +kernel
theorem dX6_mean_6 : decode cX6_mean 6 = .ok (.istore_n 1, 1) := by decide +kernel
theorem dX6_mean_7 : decode cX6_mean 7 = .ok (.iconst 0, 1) := by decide +kernel
theorem dX6_mean_8 : decode cX6_mean 8 = .ok (.istore_n 2, 1) := by decide +kernel
theorem dX6_mean_9 : decode cX6_mean 9 = .ok (.iload_n 2, 1) := by decide +kernel
theorem dX6_mean_10 : decode cX6_mean 10 = .ok (.aload_n 0, 1) := by decide +kernel
theorem dX6_mean_11 : decode cX6_mean 11 = .ok (.getfield 10, 3) := by decide +kernel
theorem dX6_mean_14 : decode cX6_mean 14 = .ok (.getfield 33, 3) := by decide +kernel
theorem dX6_mean_17 : decode cX6_mean 17 = .ok (.if_icmp .ge 37, 3) := by decide +kernel
theorem dX6_mean_20 : decode cX6_mean 20 = .ok (.iload_n 1, 1) := by decide +kernel
theorem dX6_mean_21 : decode cX6_mean 21 = .ok (.aload_n 0, 1) := by decide +kernel
theorem dX6_mean_22 : decode cX6_mean 22 = .ok (.getfield 10, 3) := by decide +kernel
theorem dX6_mean_25 : decode cX6_mean 25 = .ok (.getfield 97, 3) := by decide +kernel
theorem dX6_mean_28 : decode cX6_mean 28 = .ok (.iload_n 2, 1) := by decide +kernel
theorem dX6_mean_29 : decode cX6_mean 29 = .ok (.iaload, 1) := by decide +kernel
theorem dX6_mean_30 : decode cX6_mean 30 = .ok (.ifCond .ne 15, 3) := by decide +kernel
theorem dX6_mean_33 : decode cX6_mean 33 = .ok (.aload_n 0, 1) := by decide +kernel
theorem dX6_mean_34 : decode cX6_mean 34 = .ok (.getfield 10, 3) := by decide +kernel
theorem dX6_mean_37 : decode cX6_mean 37 = .ok (.getfield 87, 3) := by decide +kernel
theorem dX6_mean_40 : decode cX6_mean 40 = .ok (.iload_n 2, 1) := by decide +kernel
theorem dX6_mean_41 : decode cX6_mean 41 = .ok (.iaload, 1) := by decide +kernel
theorem dX6_mean_42 : decode cX6_mean 42 = .ok (.goto 4, 3) := by decide +kernel
theorem dX6_mean_45 : decode cX6_mean 45 = .ok (.iconst 0, 1) := by decide +kernel
theorem dX6_mean_46 : decode cX6_mean 46 = .ok (.iadd, 1) := by decide +kernel
theorem dX6_mean_47 : decode cX6_mean 47 = .ok (.istore_n 1, 1) := by decide +kernel
theorem dX6_mean_48 : decode cX6_mean 48 = .ok (.iinc 2 1, 3) := by decide +kernel
theorem dX6_mean_51 : decode cX6_mean 51 = .ok (.goto (-42), 3) := by decide +kernel
theorem dX6_mean_54 : decode cX6_mean 54 = .ok (.aload_n 0, 1) := by decide +kernel
theorem dX6_mean_55 : decode cX6_mean 55 = .ok (.getfield 10, 3) := by decide +kernel
theorem dX6_mean_58 : decode cX6_mean 58 = .ok (.iconst 0, 1) := by decide +kernel
theorem dX6_mean_59 : decode cX6_mean 59 = .ok (.invokevirtual 185, 3) := by decide +kernel
theorem dX6_mean_62 : decode cX6_mean 62 = .ok (.ifCond .ne 7, 3) := by decide +kernel
theorem dX6_mean_65 : decode cX6_mean 65 = .ok (.dconst 0, 1) := by decide +kernel
theorem dX6_mean_66 : decode cX6_mean 66 = .ok (.goto 15, 3) := by decide +kernel
theorem dX6_mean_69 : decode cX6_mean 69 = .ok (.iload_n 1, 1) := by decide +kernel
theorem dX6_mean_70 : decode cX6_mean 70 = .ok (.i2d, 1) := by decide +kernel
theorem dX6_mean_71 : decode cX6_mean 71 = .ok (.aload_n 0, 1) := by decide +kernel
theorem dX6_mean_72 : decode cX6_mean 72 = .ok (.getfield 10, 3) := by decide +kernel
theorem dX6_mean_75 : decode cX6_mean 75 = .ok (.iconst 0, 1) := by decide +kernel
theorem dX6_mean_76 : decode cX6_mean 76 = .ok (.invokevirtual 185, 3) := by decide +kernel
theorem dX6_mean_79 : decode cX6_mean 79 = .ok (.i2d, 1) := by decide +kernel
theorem dX6_mean_80 : decode cX6_mean 80 = .ok (.ddiv, 1) := by decide +kernel
theorem dX6_mean_81 : decode cX6_mean 81 = .ok (.dreturn, 1) := by decide +kernel
theorem dX6_digest_0 : decode cX6_digest 0 = .ok (.aload_n 0, 1) := by decide +kernel
theorem dX6_digest_1 : decode cX6_digest 1 = .ok (.iconst 0, 1) := by decide +kernel
theorem dX6_digest_2 : decode cX6_digest 2 = .ok (.putfield 19, 3) := by decide +kernel
theorem dX6_digest_5 : decode cX6_digest 5 = .ok (.ldc2_w 188, 3) := by decide +kernel
theorem dX6_digest_8 : decode cX6_digest 8 = .ok (.lstore_n 1, 1) := by decide +kernel
theorem dX6_digest_9 : decode cX6_digest 9 = .ok (.iconst 0, 1) := by decide +kernel
theorem dX6_digest_10 : decode cX6_digest 10 = .ok (.istore_n 3, 1) := by decide +kernel
theorem dX6_digest_11 : decode cX6_digest 11 = .ok (.iload_n 3, 1) := by decide +kernel
theorem dX6_digest_12 : decode cX6_digest 12 = .ok (.bipush 10, 2) := by decide +kernel
theorem dX6_digest_14 : decode cX6_digest 14 = .ok (.if_icmp .gt 25, 3) := by decide +kernel
theorem dX6_digest_17 : decode cX6_digest 17 = .ok (.lload_n 1, 1) := by decide +kernel
theorem dX6_digest_18 : decode cX6_digest 18 = .ok (.ldc2_w 190, 3) := by decide +kernel
theorem dX6_digest_21 : decode cX6_digest 21 = .ok (.lmul, 1) := by decide +kernel
theorem dX6_digest_22 : decode cX6_digest 22 = .ok (.aload_n 0, 1) := by decide +kernel
theorem dX6_digest_23 : decode cX6_digest 23 = .ok (.getfield 10, 3) := by decide +kernel
theorem dX6_digest_26 : decode cX6_digest 26 = .ok (.iload_n 3, 1) := by decide +kernel
theorem dX6_digest_27 : decode cX6_digest 27 = .ok (.invokevirtual 167, 3) := by decide +kernel
theorem dX6_digest_30 : decode cX6_digest 30 = .ok (.i2l, 1) := by decide +kernel
theorem dX6_digest_31 : decode cX6_digest 31 = .ok (.ladd, 1) := by decide +kernel
theorem dX6_digest_32 : decode cX6_digest 32 = .ok (.lstore_n 1, 1) := by decide +kernel
theorem dX6_digest_33 : decode cX6_digest 33 = .ok (.iinc 3 1, 3) := by decide +kernel
theorem dX6_digest_36 : decode cX6_digest 36 = .ok (.goto (-25), 3) := by decide +kernel
theorem dX6_digest_39 : decode cX6_digest 39 = .ok (.iconst 0, 1) := by decide +kernel
theorem dX6_digest_40 : decode cX6_digest 40 = .ok (.istore_n 3, 1) := by decide +kernel
theorem dX6_digest_41 : decode cX6_digest 41 = .ok (.iload_n 3, 1) := by decide +kernel
theorem dX6_digest_42 : decode cX6_digest 42 = .ok (.bipush 16, 2) := by decide +kernel
theorem dX6_digest_44 : decode cX6_digest 44 = .ok (.if_icmp .ge 39, 3) := by decide +kernel
theorem dX6_digest_47 : decode cX6_digest 47 = .ok (.iconst 0, 1) := by decide +kernel
theorem dX6_digest_48 : decode cX6_digest 48 = .ok (.istore 4, 2) := by decide +kernel
theorem dX6_digest_50 : decode cX6_digest 50 = .ok (.iload 4, 2) := by decide +kernel
theorem dX6_digest_52 : decode cX6_digest 52 = .ok (.iconst 4, 1) := by decide +kernel
theorem dX6_digest_53 : decode cX6_digest 53 = .ok (.if_icmp .gt 24, 3) := by decide +kernel
theorem dX6_digest_56 : decode cX6_digest 56 = .ok (.lload_n 1, 1) := by decide +kernel
theorem dX6_digest_57 : decode cX6_digest 57 = .ok (.ldc2_w 190, 3) := by decide +kernel
theorem dX6_digest_60 : decode cX6_digest 60 = .ok (.lmul, 1) := by decide +kernel
theorem dX6_digest_61 : decode cX6_digest 61 = .ok (.aload_n 0, 1) := by decide +kernel
theorem dX6_digest_62 : decode cX6_digest 62 = .ok (.iload_n 3, 1) := by decide +kernel
theorem dX6_digest_63 : decode cX6_digest 63 = .ok (.iload 4, 2) := by decide +kernel
theorem dX6_digest_65 : decode cX6_digest 65 = .ok (.invokevirtual 161, 3) := by decide +kernel
theorem dX6_digest_68 : decode cX6_digest 68 = .ok (.i2l, 1) := by decide +kernel
theorem dX6_digest_69 : decode cX6_digest 69 = .ok (.ladd, 1) := by decide +kernel
theorem dX6_digest_70 : decode cX6_digest 70 = .ok (.lstore_n 1, 1) := by decide +kernel
theorem dX6_digest_71 : decode cX6_digest 71 = .ok (.iinc 4 1, 3) := by decide +kernel
theorem dX6_digest_74 : decode cX6_digest 74 = .ok (.goto (-24), 3) := by decide +kernel
theorem dX6_digest_77 : decode cX6_digest 77 = .ok (.iinc 3 1, 3) := by decide +kernel
theorem dX6_digest_80 : decode cX6_digest 80 = .ok (.goto (-39), 3) := by decide +kernel
theorem dX6_digest_83 : decode cX6_digest 83 = .ok (.iconst 1, 1) := by decide +kernel
theorem dX6_digest_84 : decode cX6_digest 84 = .ok (.istore_n 3, 1) := by decide +kernel
theorem dX6_digest_85 : decode cX6_digest 85 = .ok (.iload_n 3, 1) := by decide +kernel
theorem dX6_digest_86 : decode cX6_digest 86 = .ok (.bipush 7, 2) := by decide +kernel
theorem dX6_digest_88 : decode cX6_digest 88 = .ok (.if_icmp .gt 39, 3) := by decide +kernel
theorem dX6_digest_91 : decode cX6_digest 91 = .ok (.iconst 0, 1) := by decide +kernel
theorem dX6_digest_92 : decode cX6_digest 92 = .ok (.istore 4, 2) := by decide +kernel
theorem dX6_digest_94 : decode cX6_digest 94 = .ok (.iload 4, 2) := by decide +kernel
theorem dX6_digest_96 : decode cX6_digest 96 = .ok (.iconst 3, 1) := by decide +kernel
theorem dX6_digest_97 : decode cX6_digest 97 = .ok (.if_icmp .gt 24, 3) := by decide +kernel
theorem dX6_digest_100 : decode cX6_digest 100 = .ok (.lload_n 1, 1) := by decide +kernel
theorem dX6_digest_101 : decode cX6_digest 101 = .ok (.ldc2_w 190, 3) := by decide +kernel
theorem dX6_digest_104 : decode cX6_digest 104 = .ok (.lmul, 1) := by decide +kernel
theorem dX6_digest_105 : decode cX6_digest 105 = .ok (.aload_n 0, 1) := by decide +kernel
theorem dX6_digest_106 : decode cX6_digest 106 = .ok (.iload_n 3, 1) := by decide +kernel
theorem dX6_digest_107 : decode cX6_digest 107 = .ok (.iload 4, 2) := by decide +kernel
theorem dX6_digest_109 : decode cX6_digest 109 = .ok (.invokevirtual 155, 3) := by decide +kernel
theorem dX6_digest_112 : decode cX6_digest 112 = .ok (.i2l, 1) := by decide +kernel
theorem dX6_digest_113 : decode cX6_digest 113 = .ok (.ladd, 1) := by decide +kernel
theorem dX6_digest_114 : decode cX6_digest 114 = .ok (.lstore_n 1, 1) := by decide +kernel
theorem dX6_digest_115 : decode cX6_digest 115 = .ok (.iinc 4 1, 3) := by decide +kernel
theorem dX6_digest_118 : decode cX6_digest 118 = .ok (.goto (-24), 3) := by decide +kernel
theorem dX6_digest_121 : decode cX6_digest 121 = .ok (.iinc 3 1, 3) := by decide +kernel
theorem dX6_digest_124 : decode cX6_digest 124 = .ok (.goto (-39), 3) := by decide +kernel
theorem dX6_digest_127 : decode cX6_digest 127 = .ok (.iconst 0, 1) := by decide +kernel
theorem dX6_digest_128 : decode cX6_digest 128 = .ok (.istore_n 3, 1) := by decide +kernel
theorem dX6_digest_129 : decode cX6_digest 129 = .ok (.iload_n 3, 1) := by decide +kernel
theorem dX6_digest_130 : decode cX6_digest 130 = .ok (.aload_n 0, 1) := by decide +kernel
theorem dX6_digest_131 : decode cX6_digest 131 = .ok (.getfield 10, 3) := by decide +kernel
theorem dX6_digest_134 : decode cX6_digest 134 = .ok (.getfield 27, 3) := by decide +kernel
theorem dX6_digest_137 : decode cX6_digest 137 = .ok (.if_icmp .ge 78, 3) := by decide +kernel
theorem dX6_digest_140 : decode cX6_digest 140 = .ok (.iconst 0, 1) := by decide +kernel
theorem dX6_digest_141 : decode cX6_digest 141 = .ok (.istore 4, 2) := by decide +kernel
theorem dX6_digest_143 : decode cX6_digest 143 = .ok (.iload 4, 2) := by decide +kernel
theorem dX6_digest_145 : decode cX6_digest 145 = .ok (.iconst 3, 1) := by decide +kernel
theorem dX6_digest_146 : decode cX6_digest 146 = .ok (.if_icmp .gt 24, 3) := by decide +kernel
theorem dX6_digest_149 : decode cX6_digest 149 = .ok (.lload_n 1, 1) := by decide +kernel
theorem dX6_digest_150 : decode cX6_digest 150 = .ok (.ldc2_w 190, 3) := by decide +kernel
theorem dX6_digest_153 : decode cX6_digest 153 = .ok (.lmul, 1) := by decide +kernel
theorem dX6_digest_154 : decode cX6_digest 154 = .ok (.aload_n 0, 1) := by decide +kernel
theorem dX6_digest_155 : decode cX6_digest 155 = .ok (.iload_n 3, 1) := by decide +kernel
theorem dX6_digest_156 : decode cX6_digest 156 = .ok (.iload 4, 2) := by decide +kernel
theorem dX6_digest_158 : decode cX6_digest 158 = .ok (.invokevirtual 149, 3) := by decide +kernel
theorem dX6_digest_161 : decode cX6_digest 161 = .ok (.i2l, 1) := by decide +kernel
theorem dX6_digest_162 : decode cX6_digest 162 = .ok (.ladd, 1) := by decide +kernel
theorem dX6_digest_163 : decode cX6_digest 163 = .ok (.lstore_n 1, 1) := by decide +kernel
theorem dX6_digest_164 : decode cX6_digest 164 = .ok (.iinc 4 1, 3) := by decide +kernel
theorem dX6_digest_167 : decode cX6_digest 167 = .ok (.goto (-24), 3) := by decide +kernel
theorem dX6_digest_170 : decode cX6_digest 170 = .ok (.iconst 0, 1) := by decide +kernel
theorem dX6_digest_171 : decode cX6_digest 171 = .ok (.istore 4, 2) := by decide +kernel
theorem dX6_digest_173 : decode cX6_digest 173 = .ok (.iload 4, 2) := by decide +kernel
theorem dX6_digest_175 : decode cX6_digest 175 = .ok (.bipush 10, 2) := by decide +kernel
theorem dX6_digest_177 : decode cX6_digest 177 = .ok (.if_icmp .ge 32, 3) := by decide +kernel
theorem dX6_digest_180 : decode cX6_digest 180 = .ok (.lload_n 1, 1) := by decide +kernel
theorem dX6_digest_181 : decode cX6_digest 181 = .ok (.ldc2_w 190, 3) := by decide +kernel
theorem dX6_digest_184 : decode cX6_digest 184 = .ok (.lmul, 1) := by decide +kernel
theorem dX6_digest_185 : decode cX6_digest 185 = .ok (.aload_n 0, 1) := by decide +kernel
theorem dX6_digest_186 : decode cX6_digest 186 = .ok (.getfield 10, 3) := by decide +kernel
theorem dX6_digest_189 : decode cX6_digest 189 = .ok (.getfield 66, 3) := by decide +kernel
theorem dX6_digest_192 : decode cX6_digest 192 = .ok (.bipush 10, 2) := by decide +kernel
theorem dX6_digest_194 : decode cX6_digest 194 = .ok (.iload_n 3, 1) := by decide +kernel
theorem dX6_digest_195 : decode cX6_digest 195 = .ok (.imul, 1) := by decide +kernel
theorem dX6_digest_196 : decode cX6_digest 196 = .ok (.iload 4, 2) := by decide +kernel
theorem dX6_digest_198 : decode cX6_digest 198 = .ok (.iadd, 1) := by decide +kernel
theorem dX6_digest_199 : decode cX6_digest 199 = .ok (.iaload, 1) := by decide +kernel
theorem dX6_digest_200 : decode cX6_digest 200 = .ok (.i2l, 1) := by decide +kernel
theorem dX6_digest_201 : decode cX6_digest 201 = .ok (.ladd, 1) := by decide +kernel
theorem dX6_digest_202 : decode cX6_digest 202 = .ok (.lstore_n 1, 1) := by decide +kernel
theorem dX6_digest_203 : decode cX6_digest 203 = .ok (.iinc 4 1, 3) := by decide +kernel
theorem dX6_digest_206 : decode cX6_digest 206 = .ok (.goto (-33), 3) := by decide +kernel
theorem dX6_digest_209 : decode cX6_digest 209 = .ok (.iinc 3 1, 3) := by decide +kernel
theorem dX6_digest_212 : decode cX6_digest 212 = .ok (.goto (-83), 3) := by decide +kernel
theorem dX6_digest_215 : decode cX6_digest 215 = .ok (.iconst 0, 1) := by decide +kernel
theorem dX6_digest_216 : decode cX6_digest 216 = .ok (.istore_n 3, 1) := by decide +kernel
theorem dX6_digest_217 : decode cX6_digest 217 = .ok (.iload_n 3, 1) := by decide +kernel
theorem dX6_digest_218 : decode cX6_digest 218 = .ok (.aload_n 0, 1) := by decide +kernel
theorem dX6_digest_219 : decode cX6_digest 219 = .ok (.getfield 10, 3) := by decide +kernel
theorem dX6_digest_222 : decode cX6_digest 222 = .ok (.getfield 30, 3) := by decide +kernel
theorem dX6_digest_225 : decode cX6_digest 225 = .ok (.if_icmp .ge 39, 3) := by decide +kernel
theorem dX6_digest_228 : decode cX6_digest 228 = .ok (.iconst 0, 1) := by decide +kernel
theorem dX6_digest_229 : decode cX6_digest 229 = .ok (.istore 4, 2) := by decide +kernel
theorem dX6_digest_231 : decode cX6_digest 231 = .ok (.iload 4, 2) := by decide +kernel
theorem dX6_digest_233 : decode cX6_digest 233 = .ok (.iconst 4, 1) := by decide +kernel
theorem dX6_digest_234 : decode cX6_digest 234 = .ok (.if_icmp .gt 24, 3) := by decide +kernel
theorem dX6_digest_237 : decode cX6_digest 237 = .ok (.lload_n 1, 1) := by decide +kernel
theorem dX6_digest_238 : decode cX6_digest 238 = .ok (.ldc2_w 190, 3) := by decide +kernel
theorem dX6_digest_241 : decode cX6_digest 241 = .ok (.lmul, 1) := by decide +kernel
theorem dX6_digest_242 : decode cX6_digest 242 = .ok (.aload_n 0, 1) := by decide +kernel
theorem dX6_digest_243 : decode cX6_digest 243 = .ok (.iload_n 3, 1) := by decide +kernel
theorem dX6_digest_244 : decode cX6_digest 244 = .ok (.iload 4, 2) := by decide +kernel
theorem dX6_digest_246 : decode cX6_digest 246 = .ok (.invokevirtual 137, 3) := by decide +kernel
theorem dX6_digest_249 : decode cX6_digest 249 = .ok (.i2l, 1) := by decide +kernel
theorem dX6_digest_250 : decode cX6_digest 250 = .ok (.ladd, 1) := by decide +kernel
theorem dX6_digest_251 : decode cX6_digest 251 = .ok (.lstore_n 1, 1) := by decide +kernel
theorem dX6_digest_252 : decode cX6_digest 252 = .ok (.iinc 4 1, 3) := by decide +kernel
theorem dX6_digest_255 : decode cX6_digest 255 = .ok (.goto (-24), 3) := by decide +kernel
theorem dX6_digest_258 : decode cX6_digest 258 = .ok (.iinc 3 1, 3) := by decide +kernel
theorem dX6_digest_261 : decode cX6_digest 261 = .ok (.goto (-44), 3) := by decide +kernel
theorem dX6_digest_264 : decode cX6_digest 264 = .ok (.iconst 0, 1) := by decide +kernel
theorem dX6_digest_265 : decode cX6_digest 265 = .ok (.istore_n 3, 1) := by decide +kernel
theorem dX6_digest_266 : decode cX6_digest 266 = .ok (.iload_n 3, 1) := by decide +kernel
theorem dX6_digest_267 : decode cX6_digest 267 = .ok (.aload_n 0, 1) := by decide +kernel
theorem dX6_digest_268 : decode cX6_digest 268 = .ok (.getfield 10, 3) := by decide +kernel
theorem dX6_digest_271 : decode cX6_digest 271 = .ok (.getfield 33, 3) := by decide +kernel
theorem dX6_digest_274 : decode cX6_digest 274 = .ok (.if_icmp .ge 40, 3) := by decide +kernel
theorem dX6_digest_277 : decode cX6_digest 277 = .ok (.iconst 0, 1) := by decide +kernel
theorem dX6_digest_278 : decode cX6_digest 278 = .ok (.istore 4, 2) := by decide +kernel
theorem dX6_digest_280 : decode cX6_digest 280 = .ok (.iload 4, 2) := by decide +kernel
theorem dX6_digest_282 : decode cX6_digest 282 = .ok (.bipush 6, 2) := by decide +kernel
theorem dX6_digest_284 : decode cX6_digest 284 = .ok (.if_icmp .gt 24, 3) := by decide +kernel
theorem dX6_digest_287 : decode cX6_digest 287 = .ok (.lload_n 1, 1) := by decide +kernel
theorem dX6_digest_288 : decode cX6_digest 288 = .ok (.ldc2_w 190, 3) := by decide +kernel
theorem dX6_digest_291 : decode cX6_digest 291 = .ok (.lmul, 1) := by decide +kernel
theorem dX6_digest_292 : decode cX6_digest 292 = .ok (.aload_n 0, 1) := by decide +kernel
theorem dX6_digest_293 : decode cX6_digest 293 = .ok (.iload_n 3, 1) := by decide +kernel
theorem dX6_digest_294 : decode cX6_digest 294 = .ok (.iload 4, 2) := by decide +kernel
theorem dX6_digest_296 : decode cX6_digest 296 = .ok (.invokevirtual 121, 3) := by decide +kernel
theorem dX6_digest_299 : decode cX6_digest 299 = .ok (.i2l, 1) := by decide +kernel
theorem dX6_digest_300 : decode cX6_digest 300 = .ok (.ladd, 1) := by decide +kernel
theorem dX6_digest_301 : decode cX6_digest 301 = .ok (.lstore_n 1, 1) := by decide +kernel
theorem dX6_digest_302 : decode cX6_digest 302 = .ok (.iinc 4 1, 3) := by decide +kernel
theorem dX6_digest_305 : decode cX6_digest 305 = .ok (.goto (-25), 3) := by decide +kernel
theorem dX6_digest_308 : decode cX6_digest 308 = .ok (.iinc 3 1, 3) := by decide +kernel
theorem dX6_digest_311 : decode cX6_digest 311 = .ok (.goto (-45), 3) := by decide +kernel
theorem dX6_digest_314 : decode cX6_digest 314 = .ok (.lload_n 1, 1) := by decide +kernel
theorem dX6_digest_315 : decode cX6_digest 315 = .ok (.lreturn, 1) := by decide +kernel
theorem dJ9_floorMod_7cf53_0 : decode cJ9_floorMod_7cf53 0 = .ok (.iload_n 0, 1) := by decide +kernel
theorem dJ9_floorMod_7cf53_1 : decode cJ9_floorMod_7cf53 1 = .ok (.iload_n 1, 1) := by decide +kernel
theorem dJ9_floorMod_7cf53_2 : decode cJ9_floorMod_7cf53 2 = .ok (.irem, 1) := by decide +kernel
theorem dJ9_floorMod_7cf53_3 : decode cJ9_floorMod_7cf53 3 = .ok (.istore_n 2, 1) := by decide +kernel
theorem dJ9_floorMod_7cf53_4 : decode cJ9_floorMod_7cf53 4 = .ok (.iload_n 0, 1) := by decide +kernel
theorem dJ9_floorMod_7cf53_5 : decode cJ9_floorMod_7cf53 5 = .ok (.iload_n 1, 1) := by decide +kernel
theorem dJ9_floorMod_7cf53_6 : decode cJ9_floorMod_7cf53 6 = .ok (.ixor, 1) := by decide +kernel
theorem dJ9_floorMod_7cf53_7 : decode cJ9_floorMod_7cf53 7 = .ok (.ifCond .ge 11, 3) := by decide +kernel
theorem dJ9_floorMod_7cf53_10 : decode cJ9_floorMod_7cf53 10 = .ok (.iload_n 2, 1) := by decide +kernel
theorem dJ9_floorMod_7cf53_11 : decode cJ9_floorMod_7cf53 11 = .ok (.ifCond .eq 7, 3) := by decide +kernel
theorem dJ9_floorMod_7cf53_14 : decode cJ9_floorMod_7cf53 14 = .ok (.iload_n 2, 1) := by decide +kernel
theorem dJ9_floorMod_7cf53_15 : decode cJ9_floorMod_7cf53 15 = .ok (.iload_n 1, 1) := by decide +kernel
theorem dJ9_floorMod_7cf53_16 : decode cJ9_floorMod_7cf53 16 = .ok (.iadd, 1) := by decide +kernel
theorem dJ9_floorMod_7cf53_17 : decode cJ9_floorMod_7cf53 17 = .ok (.ireturn, 1) := by decide +kernel
theorem dJ9_floorMod_7cf53_18 : decode cJ9_floorMod_7cf53 18 = .ok (.iload_n 2, 1) := by decide +kernel
theorem dJ9_floorMod_7cf53_19 : decode cJ9_floorMod_7cf53 19 = .ok (.ireturn, 1) := by decide +kernel
theorem dJ9_abs_0f7a4_0 : decode cJ9_abs_0f7a4 0 = .ok (.iload_n 0, 1) := by decide +kernel
theorem dJ9_abs_0f7a4_1 : decode cJ9_abs_0f7a4 1 = .ok (.ifCond .ge 8, 3) := by decide +kernel
theorem dJ9_abs_0f7a4_4 : decode cJ9_abs_0f7a4 4 = .ok (.iload_n 0, 1) := by decide +kernel
theorem dJ9_abs_0f7a4_5 : decode cJ9_abs_0f7a4 5 = .ok (.ineg, 1) := by decide +kernel
theorem dJ9_abs_0f7a4_6 : decode cJ9_abs_0f7a4 6 = .ok (.goto 4, 3) := by decide +kernel
theorem dJ9_abs_0f7a4_9 : decode cJ9_abs_0f7a4 9 = .ok (.iload_n 0, 1) := by decide +kernel
theorem dJ9_abs_0f7a4_10 : decode cJ9_abs_0f7a4 10 = .ok (.ireturn, 1) := by decide +kernel
theorem dJ9_max_7cf53_0 : decode cJ9_max_7cf53 0 = .ok (.iload_n 0, 1) := by decide +kernel
theorem dJ9_max_7cf53_1 : decode cJ9_max_7cf53 1 = .ok (.iload_n 1, 1) := by decide +kernel
theorem dJ9_max_7cf53_2 : decode cJ9_max_7cf53 2 = .ok (.if_icmp .lt 7, 3) := by decide +kernel
theorem dJ9_max_7cf53_5 : decode cJ9_max_7cf53 5 = .ok (.iload_n 0, 1) := by decide +kernel
theorem dJ9_max_7cf53_6 : decode cJ9_max_7cf53 6 = .ok (.goto 4, 3) := by decide +kernel
theorem dJ9_max_7cf53_9 : decode cJ9_max_7cf53 9 = .ok (.iload_n 1, 1) := by decide +kernel
theorem dJ9_max_7cf53_10 : decode cJ9_max_7cf53 10 = .ok (.ireturn, 1) := by decide +kernel
theorem dJ9_min_7cf53_0 : decode cJ9_min_7cf53 0 = .ok (.iload_n 0, 1) := by decide +kernel
theorem dJ9_min_7cf53_1 : decode cJ9_min_7cf53 1 = .ok (.iload_n 1, 1) := by decide +kernel
theorem dJ9_min_7cf53_2 : decode cJ9_min_7cf53 2 = .ok (.if_icmp .gt 7, 3) := by decide +kernel
theorem dJ9_min_7cf53_5 : decode cJ9_min_7cf53 5 = .ok (.iload_n 0, 1) := by decide +kernel
theorem dJ9_min_7cf53_6 : decode cJ9_min_7cf53 6 = .ok (.goto 4, 3) := by decide +kernel
theorem dJ9_min_7cf53_9 : decode cJ9_min_7cf53 9 = .ok (.iload_n 1, 1) := by decide +kernel
theorem dJ9_min_7cf53_10 : decode cJ9_min_7cf53 10 = .ok (.ireturn, 1) := by decide +kernel
theorem dL_setRoom_0 : decode cL_setRoom 0 = .ok (.aload_n 3, 1) := by decide +kernel
theorem dL_setRoom_1 : decode cL_setRoom 1 = .ok (.iconst 0, 1) := by decide +kernel
theorem dL_setRoom_2 : decode cL_setRoom 2 = .ok (.aload_n 0, 1) := by decide +kernel
theorem dL_setRoom_3 : decode cL_setRoom 3 = .ok (.iload_n 1, 1) := by decide +kernel
theorem dL_setRoom_4 : decode cL_setRoom 4 = .ok (.iload_n 2, 1) := by decide +kernel
theorem dL_setRoom_5 : decode cL_setRoom 5 = .ok (.invokevirtual 7, 3) := by decide +kernel
theorem dL_setRoom_8 : decode cL_setRoom 8 = .ok (.i2l, 1) := by decide +kernel
theorem dL_setRoom_9 : decode cL_setRoom 9 = .ok (.lastore, 1) := by decide +kernel
theorem dL_setRoom_10 : decode cL_setRoom 10 = .ok (.goto 15, 3) := by decide +kernel
theorem dL_setRoom_13 : decode cL_setRoom 13 = .ok (.astore 4, 2) := by decide +kernel
theorem dL_setRoom_15 : decode cL_setRoom 15 = .ok (.iconst 1, 1) := by decide +kernel
theorem dL_setRoom_16 : decode cL_setRoom 16 = .ok (.ireturn, 1) := by decide +kernel
theorem dL_setRoom_17 : decode cL_setRoom 17 = .ok (.astore 4, 2) := by decide +kernel
theorem dL_setRoom_19 : decode cL_setRoom 19 = .ok (.iconst 2, 1) := by decide +kernel
theorem dL_setRoom_20 : decode cL_setRoom 20 = .ok (.ireturn, 1) := by decide +kernel
theorem dL_setRoom_21 : decode cL_setRoom 21 = .ok (.astore 4, 2) := by decide +kernel
theorem dL_setRoom_23 : decode cL_setRoom 23 = .ok (.iconst 3, 1) := by decide +kernel
theorem dL_setRoom_24 : decode cL_setRoom 24 = .ok (.ireturn, 1) := by decide +kernel
theorem dL_setRoom_25 : decode cL_setRoom 25 = .ok (.iconst 0, 1) := by decide +kernel
theorem dL_setRoom_26 : decode cL_setRoom 26 = .ok (.ireturn, 1) := by decide +kernel
theorem dL_setCode_0 : decode cL_setCode 0 = .ok (.aload_n 3, 1) := by decide +kernel
theorem dL_setCode_1 : decode cL_setCode 1 = .ok (.iconst 0, 1) := by decide +kernel
theorem dL_setCode_2 : decode cL_setCode 2 = .ok (.aload_n 0, 1) := by decide +kernel
theorem dL_setCode_3 : decode cL_setCode 3 = .ok (.iload_n 1, 1) := by decide +kernel
theorem dL_setCode_4 : decode cL_setCode 4 = .ok (.iload_n 2, 1) := by decide +kernel
theorem dL_setCode_5 : decode cL_setCode 5 = .ok (.invokevirtual 19, 3) := by decide +kernel
theorem dL_setCode_8 : decode cL_setCode 8 = .ok (.i2l, 1) := by decide +kernel
theorem dL_setCode_9 : decode cL_setCode 9 = .ok (.lastore, 1) := by decide +kernel
theorem dL_setCode_10 : decode cL_setCode 10 = .ok (.goto 7, 3) := by decide +kernel
theorem dL_setCode_13 : decode cL_setCode 13 = .ok (.astore 4, 2) := by decide +kernel
theorem dL_setCode_15 : decode cL_setCode 15 = .ok (.iconst 1, 1) := by decide +kernel
theorem dL_setCode_16 : decode cL_setCode 16 = .ok (.ireturn, 1) := by decide +kernel
theorem dL_setCode_17 : decode cL_setCode 17 = .ok (.iconst 0, 1) := by decide +kernel
theorem dL_setCode_18 : decode cL_setCode 18 = .ok (.ireturn, 1) := by decide +kernel
theorem dL_lantern_0 : decode cL_lantern 0 = .ok (.aload_n 2, 1) := by decide +kernel
theorem dL_lantern_1 : decode cL_lantern 1 = .ok (.iconst 0, 1) := by decide +kernel
theorem dL_lantern_2 : decode cL_lantern 2 = .ok (.aload_n 0, 1) := by decide +kernel
theorem dL_lantern_3 : decode cL_lantern 3 = .ok (.iload_n 1, 1) := by decide +kernel
theorem dL_lantern_4 : decode cL_lantern 4 = .ok (.invokevirtual 22, 3) := by decide +kernel
theorem dL_lantern_7 : decode cL_lantern 7 = .ok (.i2l, 1) := by decide +kernel
theorem dL_lantern_8 : decode cL_lantern 8 = .ok (.lastore, 1) := by decide +kernel
theorem dL_lantern_9 : decode cL_lantern 9 = .ok (.goto 9, 3) := by decide +kernel
theorem dL_lantern_12 : decode cL_lantern 12 = .ok (.astore_n 3, 1) := by decide +kernel
theorem dL_lantern_13 : decode cL_lantern 13 = .ok (.iconst 1, 1) := by decide +kernel
theorem dL_lantern_14 : decode cL_lantern 14 = .ok (.ireturn, 1) := by decide +kernel
theorem dL_lantern_15 : decode cL_lantern 15 = .ok (.astore_n 3, 1) := by decide +kernel
theorem dL_lantern_16 : decode cL_lantern 16 = .ok (.iconst 2, 1) := by decide +kernel
theorem dL_lantern_17 : decode cL_lantern 17 = .ok (.ireturn, 1) := by decide +kernel
theorem dL_lantern_18 : decode cL_lantern 18 = .ok (.iconst 0, 1) := by decide +kernel
theorem dL_lantern_19 : decode cL_lantern 19 = .ok (.ireturn, 1) := by decide +kernel
theorem dL_setShow_0 : decode cL_setShow 0 = .ok (.aload 4, 2) := by decide +kernel
theorem dL_setShow_2 : decode cL_setShow 2 = .ok (.iconst 0, 1) := by decide +kernel
theorem dL_setShow_3 : decode cL_setShow 3 = .ok (.aload_n 0, 1) := by decide +kernel
theorem dL_setShow_4 : decode cL_setShow 4 = .ok (.iload_n 1, 1) := by decide +kernel
theorem dL_setShow_5 : decode cL_setShow 5 = .ok (.iload_n 2, 1) := by decide +kernel
theorem dL_setShow_6 : decode cL_setShow 6 = .ok (.iload_n 3, 1) := by decide +kernel
theorem dL_setShow_7 : decode cL_setShow 7 = .ok (.invokevirtual 26, 3) := by decide +kernel
theorem dL_setShow_10 : decode cL_setShow 10 = .ok (.i2l, 1) := by decide +kernel
theorem dL_setShow_11 : decode cL_setShow 11 = .ok (.lastore, 1) := by decide +kernel
theorem dL_setShow_12 : decode cL_setShow 12 = .ok (.goto 11, 3) := by decide +kernel
theorem dL_setShow_15 : decode cL_setShow 15 = .ok (.astore 5, 2) := by decide +kernel
theorem dL_setShow_17 : decode cL_setShow 17 = .ok (.iconst 1, 1) := by decide +kernel
theorem dL_setShow_18 : decode cL_setShow 18 = .ok (.ireturn, 1) := by decide +kernel
theorem dL_setShow_19 : decode cL_setShow 19 = .ok (.astore 5, 2) := by decide +kernel
theorem dL_setShow_21 : decode cL_setShow 21 = .ok (.iconst 2, 1) := by decide +kernel
theorem dL_setShow_22 : decode cL_setShow 22 = .ok (.ireturn, 1) := by decide +kernel
theorem dL_setShow_23 : decode cL_setShow 23 = .ok (.iconst 0, 1) := by decide +kernel
theorem dL_setShow_24 : decode cL_setShow 24 = .ok (.ireturn, 1) := by decide +kernel
theorem dL_watchman_0 : decode cL_watchman 0 = .ok (.aload 4, 2) := by decide +kernel
theorem dL_watchman_2 : decode cL_watchman 2 = .ok (.iconst 0, 1) := by decide +kernel
theorem dL_watchman_3 : decode cL_watchman 3 = .ok (.aload_n 0, 1) := by decide +kernel
theorem dL_watchman_4 : decode cL_watchman 4 = .ok (.iload_n 1, 1) := by decide +kernel
theorem dL_watchman_5 : decode cL_watchman 5 = .ok (.iload_n 2, 1) := by decide +kernel
theorem dL_watchman_6 : decode cL_watchman 6 = .ok (.iload_n 3, 1) := by decide +kernel
theorem dL_watchman_7 : decode cL_watchman 7 = .ok (.invokevirtual 30, 3) := by decide +kernel
theorem dL_watchman_10 : decode cL_watchman 10 = .ok (.i2l, 1) := by decide +kernel
theorem dL_watchman_11 : decode cL_watchman 11 = .ok (.lastore, 1) := by decide +kernel
theorem dL_watchman_12 : decode cL_watchman 12 = .ok (.goto 15, 3) := by decide +kernel
theorem dL_watchman_15 : decode cL_watchman 15 = .ok (.astore 5, 2) := by decide +kernel
theorem dL_watchman_17 : decode cL_watchman 17 = .ok (.iconst 1, 1) := by decide +kernel
theorem dL_watchman_18 : decode cL_watchman 18 = .ok (.ireturn, 1) := by decide +kernel
theorem dL_watchman_19 : decode cL_watchman 19 = .ok (.astore 5, 2) := by decide +kernel
theorem dL_watchman_21 : decode cL_watchman 21 = .ok (.iconst 2, 1) := by decide +kernel
theorem dL_watchman_22 : decode cL_watchman 22 = .ok (.ireturn, 1) := by decide +kernel
theorem dL_watchman_23 : decode cL_watchman 23 = .ok (.astore 5, 2) := by decide +kernel
theorem dL_watchman_25 : decode cL_watchman 25 = .ok (.iconst 3, 1) := by decide +kernel
theorem dL_watchman_26 : decode cL_watchman 26 = .ok (.ireturn, 1) := by decide +kernel
theorem dL_watchman_27 : decode cL_watchman 27 = .ok (.iconst 0, 1) := by decide +kernel
theorem dL_watchman_28 : decode cL_watchman 28 = .ok (.ireturn, 1) := by decide +kernel
theorem dL_boat_0 : decode cL_boat 0 = .ok (.aload_n 3, 1) := by decide +kernel
theorem dL_boat_1 : decode cL_boat 1 = .ok (.iconst 0, 1) := by decide +kernel
theorem dL_boat_2 : decode cL_boat 2 = .ok (.aload_n 0, 1) := by decide +kernel
theorem dL_boat_3 : decode cL_boat 3 = .ok (.iload_n 1, 1) := by decide +kernel
theorem dL_boat_4 : decode cL_boat 4 = .ok (.iload_n 2, 1) := by decide +kernel
theorem dL_boat_5 : decode cL_boat 5 = .ok (.invokevirtual 33, 3) := by decide +kernel
theorem dL_boat_8 : decode cL_boat 8 = .ok (.i2l, 1) := by decide +kernel
theorem dL_boat_9 : decode cL_boat 9 = .ok (.lastore, 1) := by decide +kernel
theorem dL_boat_10 : decode cL_boat 10 = .ok (.goto 15, 3) := by decide +kernel
theorem dL_boat_13 : decode cL_boat 13 = .ok (.astore 4, 2) := by decide +kernel
theorem dL_boat_15 : decode cL_boat 15 = .ok (.iconst 1, 1) := by decide +kernel
theorem dL_boat_16 : decode cL_boat 16 = .ok (.ireturn, 1) := by decide +kernel
theorem dL_boat_17 : decode cL_boat 17 = .ok (.astore 4, 2) := by decide +kernel
theorem dL_boat_19 : decode cL_boat 19 = .ok (.iconst 2, 1) := by decide +kernel
theorem dL_boat_20 : decode cL_boat 20 = .ok (.ireturn, 1) := by decide +kernel
theorem dL_boat_21 : decode cL_boat 21 = .ok (.astore 4, 2) := by decide +kernel
theorem dL_boat_23 : decode cL_boat 23 = .ok (.iconst 3, 1) := by decide +kernel
theorem dL_boat_24 : decode cL_boat 24 = .ok (.ireturn, 1) := by decide +kernel
theorem dL_boat_25 : decode cL_boat 25 = .ok (.iconst 0, 1) := by decide +kernel
theorem dL_boat_26 : decode cL_boat 26 = .ok (.ireturn, 1) := by decide +kernel
theorem dL_send_0 : decode cL_send 0 = .ok (.aload_n 3, 1) := by decide +kernel
theorem dL_send_1 : decode cL_send 1 = .ok (.iconst 0, 1) := by decide +kernel
theorem dL_send_2 : decode cL_send 2 = .ok (.aload_n 0, 1) := by decide +kernel
theorem dL_send_3 : decode cL_send 3 = .ok (.iload_n 1, 1) := by decide +kernel
theorem dL_send_4 : decode cL_send 4 = .ok (.iload_n 2, 1) := by decide +kernel
theorem dL_send_5 : decode cL_send 5 = .ok (.invokevirtual 36, 3) := by decide +kernel
theorem dL_send_8 : decode cL_send 8 = .ok (.i2l, 1) := by decide +kernel
theorem dL_send_9 : decode cL_send 9 = .ok (.lastore, 1) := by decide +kernel
theorem dL_send_10 : decode cL_send 10 = .ok (.goto 11, 3) := by decide +kernel
theorem dL_send_13 : decode cL_send 13 = .ok (.astore 4, 2) := by decide +kernel
theorem dL_send_15 : decode cL_send 15 = .ok (.iconst 1, 1) := by decide +kernel
theorem dL_send_16 : decode cL_send 16 = .ok (.ireturn, 1) := by decide +kernel
theorem dL_send_17 : decode cL_send 17 = .ok (.astore 4, 2) := by decide +kernel
theorem dL_send_19 : decode cL_send 19 = .ok (.iconst 2, 1) := by decide +kernel
theorem dL_send_20 : decode cL_send 20 = .ok (.ireturn, 1) := by decide +kernel
theorem dL_send_21 : decode cL_send 21 = .ok (.iconst 0, 1) := by decide +kernel
theorem dL_send_22 : decode cL_send 22 = .ok (.ireturn, 1) := by decide +kernel
theorem dL_carry_0 : decode cL_carry 0 = .ok (.aload_n 3, 1) := by decide +kernel
theorem dL_carry_1 : decode cL_carry 1 = .ok (.iconst 0, 1) := by decide +kernel
theorem dL_carry_2 : decode cL_carry 2 = .ok (.aload_n 0, 1) := by decide +kernel
theorem dL_carry_3 : decode cL_carry 3 = .ok (.iload_n 1, 1) := by decide +kernel
theorem dL_carry_4 : decode cL_carry 4 = .ok (.iload_n 2, 1) := by decide +kernel
theorem dL_carry_5 : decode cL_carry 5 = .ok (.invokevirtual 39, 3) := by decide +kernel
theorem dL_carry_8 : decode cL_carry 8 = .ok (.i2l, 1) := by decide +kernel
theorem dL_carry_9 : decode cL_carry 9 = .ok (.lastore, 1) := by decide +kernel
theorem dL_carry_10 : decode cL_carry 10 = .ok (.goto 15, 3) := by decide +kernel
theorem dL_carry_13 : decode cL_carry 13 = .ok (.astore 4, 2) := by decide +kernel
theorem dL_carry_15 : decode cL_carry 15 = .ok (.iconst 1, 1) := by decide +kernel
theorem dL_carry_16 : decode cL_carry 16 = .ok (.ireturn, 1) := by decide +kernel
theorem dL_carry_17 : decode cL_carry 17 = .ok (.astore 4, 2) := by decide +kernel
theorem dL_carry_19 : decode cL_carry 19 = .ok (.iconst 2, 1) := by decide +kernel
theorem dL_carry_20 : decode cL_carry 20 = .ok (.ireturn, 1) := by decide +kernel
theorem dL_carry_21 : decode cL_carry 21 = .ok (.astore 4, 2) := by decide +kernel
theorem dL_carry_23 : decode cL_carry 23 = .ok (.iconst 3, 1) := by decide +kernel
theorem dL_carry_24 : decode cL_carry 24 = .ok (.ireturn, 1) := by decide +kernel
theorem dL_carry_25 : decode cL_carry 25 = .ok (.iconst 0, 1) := by decide +kernel
theorem dL_carry_26 : decode cL_carry 26 = .ok (.ireturn, 1) := by decide +kernel
theorem dL_told_0 : decode cL_told 0 = .ok (.aload_n 3, 1) := by decide +kernel
theorem dL_told_1 : decode cL_told 1 = .ok (.iconst 0, 1) := by decide +kernel
theorem dL_told_2 : decode cL_told 2 = .ok (.aload_n 0, 1) := by decide +kernel
theorem dL_told_3 : decode cL_told 3 = .ok (.iload_n 1, 1) := by decide +kernel
theorem dL_told_4 : decode cL_told 4 = .ok (.iload_n 2, 1) := by decide +kernel
theorem dL_told_5 : decode cL_told 5 = .ok (.invokevirtual 42, 3) := by decide +kernel
theorem dL_told_8 : decode cL_told 8 = .ok (.i2l, 1) := by decide +kernel
theorem dL_told_9 : decode cL_told 9 = .ok (.lastore, 1) := by decide +kernel
theorem dL_told_10 : decode cL_told 10 = .ok (.goto 7, 3) := by decide +kernel
theorem dL_told_13 : decode cL_told 13 = .ok (.astore 4, 2) := by decide +kernel
theorem dL_told_15 : decode cL_told 15 = .ok (.iconst 1, 1) := by decide +kernel
theorem dL_told_16 : decode cL_told 16 = .ok (.ireturn, 1) := by decide +kernel
theorem dL_told_17 : decode cL_told 17 = .ok (.iconst 0, 1) := by decide +kernel
theorem dL_told_18 : decode cL_told 18 = .ok (.ireturn, 1) := by decide +kernel
theorem dL_about_0 : decode cL_about 0 = .ok (.aload_n 3, 1) := by decide +kernel
theorem dL_about_1 : decode cL_about 1 = .ok (.iconst 0, 1) := by decide +kernel
theorem dL_about_2 : decode cL_about 2 = .ok (.aload_n 0, 1) := by decide +kernel
theorem dL_about_3 : decode cL_about 3 = .ok (.iload_n 1, 1) := by decide +kernel
theorem dL_about_4 : decode cL_about 4 = .ok (.iload_n 2, 1) := by decide +kernel
theorem dL_about_5 : decode cL_about 5 = .ok (.invokevirtual 45, 3) := by decide +kernel
theorem dL_about_8 : decode cL_about 8 = .ok (.i2l, 1) := by decide +kernel
theorem dL_about_9 : decode cL_about 9 = .ok (.lastore, 1) := by decide +kernel
theorem dL_about_10 : decode cL_about 10 = .ok (.goto 7, 3) := by decide +kernel
theorem dL_about_13 : decode cL_about 13 = .ok (.astore 4, 2) := by decide +kernel
theorem dL_about_15 : decode cL_about 15 = .ok (.iconst 1, 1) := by decide +kernel
theorem dL_about_16 : decode cL_about 16 = .ok (.ireturn, 1) := by decide +kernel
theorem dL_about_17 : decode cL_about 17 = .ok (.iconst 0, 1) := by decide +kernel
theorem dL_about_18 : decode cL_about 18 = .ok (.ireturn, 1) := by decide +kernel
theorem dL_light_0 : decode cL_light 0 = .ok (.aload_n 3, 1) := by decide +kernel
theorem dL_light_1 : decode cL_light 1 = .ok (.iconst 0, 1) := by decide +kernel
theorem dL_light_2 : decode cL_light 2 = .ok (.aload_n 0, 1) := by decide +kernel
theorem dL_light_3 : decode cL_light 3 = .ok (.iload_n 1, 1) := by decide +kernel
theorem dL_light_4 : decode cL_light 4 = .ok (.iload_n 2, 1) := by decide +kernel
theorem dL_light_5 : decode cL_light 5 = .ok (.invokevirtual 48, 3) := by decide +kernel
theorem dL_light_8 : decode cL_light 8 = .ok (.i2l, 1) := by decide +kernel
theorem dL_light_9 : decode cL_light 9 = .ok (.lastore, 1) := by decide +kernel
theorem dL_light_10 : decode cL_light 10 = .ok (.goto 7, 3) := by decide +kernel
theorem dL_light_13 : decode cL_light 13 = .ok (.astore 4, 2) := by decide +kernel
theorem dL_light_15 : decode cL_light 15 = .ok (.iconst 1, 1) := by decide +kernel
theorem dL_light_16 : decode cL_light 16 = .ok (.ireturn, 1) := by decide +kernel
theorem dL_light_17 : decode cL_light 17 = .ok (.iconst 0, 1) := by decide +kernel
theorem dL_light_18 : decode cL_light 18 = .ok (.ireturn, 1) := by decide +kernel
theorem dL_code_0 : decode cL_code 0 = .ok (.aload_n 3, 1) := by decide +kernel
theorem dL_code_1 : decode cL_code 1 = .ok (.iconst 0, 1) := by decide +kernel
theorem dL_code_2 : decode cL_code 2 = .ok (.aload_n 0, 1) := by decide +kernel
theorem dL_code_3 : decode cL_code 3 = .ok (.iload_n 1, 1) := by decide +kernel
theorem dL_code_4 : decode cL_code 4 = .ok (.iload_n 2, 1) := by decide +kernel
theorem dL_code_5 : decode cL_code 5 = .ok (.invokevirtual 51, 3) := by decide +kernel
theorem dL_code_8 : decode cL_code 8 = .ok (.i2l, 1) := by decide +kernel
theorem dL_code_9 : decode cL_code 9 = .ok (.lastore, 1) := by decide +kernel
theorem dL_code_10 : decode cL_code 10 = .ok (.goto 7, 3) := by decide +kernel
theorem dL_code_13 : decode cL_code 13 = .ok (.astore 4, 2) := by decide +kernel
theorem dL_code_15 : decode cL_code 15 = .ok (.iconst 1, 1) := by decide +kernel
theorem dL_code_16 : decode cL_code 16 = .ok (.ireturn, 1) := by decide +kernel
theorem dL_code_17 : decode cL_code 17 = .ok (.iconst 0, 1) := by decide +kernel
theorem dL_code_18 : decode cL_code 18 = .ok (.ireturn, 1) := by decide +kernel
theorem dL_place_0 : decode cL_place 0 = .ok (.aload_n 3, 1) := by decide +kernel
theorem dL_place_1 : decode cL_place 1 = .ok (.iconst 0, 1) := by decide +kernel
theorem dL_place_2 : decode cL_place 2 = .ok (.aload_n 0, 1) := by decide +kernel
theorem dL_place_3 : decode cL_place 3 = .ok (.iload_n 1, 1) := by decide +kernel
theorem dL_place_4 : decode cL_place 4 = .ok (.iload_n 2, 1) := by decide +kernel
theorem dL_place_5 : decode cL_place 5 = .ok (.invokevirtual 54, 3) := by decide +kernel
theorem dL_place_8 : decode cL_place 8 = .ok (.i2l, 1) := by decide +kernel
theorem dL_place_9 : decode cL_place 9 = .ok (.lastore, 1) := by decide +kernel
theorem dL_place_10 : decode cL_place 10 = .ok (.goto 7, 3) := by decide +kernel
theorem dL_place_13 : decode cL_place 13 = .ok (.astore 4, 2) := by decide +kernel
theorem dL_place_15 : decode cL_place 15 = .ok (.iconst 1, 1) := by decide +kernel
theorem dL_place_16 : decode cL_place 16 = .ok (.ireturn, 1) := by decide +kernel
theorem dL_place_17 : decode cL_place 17 = .ok (.iconst 0, 1) := by decide +kernel
theorem dL_place_18 : decode cL_place 18 = .ok (.ireturn, 1) := by decide +kernel
theorem dL_moon_0 : decode cL_moon 0 = .ok (.aload_n 2, 1) := by decide +kernel
theorem dL_moon_1 : decode cL_moon 1 = .ok (.iconst 0, 1) := by decide +kernel
theorem dL_moon_2 : decode cL_moon 2 = .ok (.aload_n 0, 1) := by decide +kernel
theorem dL_moon_3 : decode cL_moon 3 = .ok (.iload_n 1, 1) := by decide +kernel
theorem dL_moon_4 : decode cL_moon 4 = .ok (.invokevirtual 57, 3) := by decide +kernel
theorem dL_moon_7 : decode cL_moon 7 = .ok (.i2l, 1) := by decide +kernel
theorem dL_moon_8 : decode cL_moon 8 = .ok (.lastore, 1) := by decide +kernel
theorem dL_moon_9 : decode cL_moon 9 = .ok (.goto 6, 3) := by decide +kernel
theorem dL_moon_12 : decode cL_moon 12 = .ok (.astore_n 3, 1) := by decide +kernel
theorem dL_moon_13 : decode cL_moon 13 = .ok (.iconst 1, 1) := by decide +kernel
theorem dL_moon_14 : decode cL_moon 14 = .ok (.ireturn, 1) := by decide +kernel
theorem dL_moon_15 : decode cL_moon 15 = .ok (.iconst 0, 1) := by decide +kernel
theorem dL_moon_16 : decode cL_moon 16 = .ok (.ireturn, 1) := by decide +kernel
theorem dL_count_0 : decode cL_count 0 = .ok (.aload_n 2, 1) := by decide +kernel
theorem dL_count_1 : decode cL_count 1 = .ok (.iconst 0, 1) := by decide +kernel
theorem dL_count_2 : decode cL_count 2 = .ok (.aload_n 0, 1) := by decide +kernel
theorem dL_count_3 : decode cL_count 3 = .ok (.iload_n 1, 1) := by decide +kernel
theorem dL_count_4 : decode cL_count 4 = .ok (.invokevirtual 60, 3) := by decide +kernel
theorem dL_count_7 : decode cL_count 7 = .ok (.i2l, 1) := by decide +kernel
theorem dL_count_8 : decode cL_count 8 = .ok (.lastore, 1) := by decide +kernel
theorem dL_count_9 : decode cL_count 9 = .ok (.goto 6, 3) := by decide +kernel
theorem dL_count_12 : decode cL_count 12 = .ok (.astore_n 3, 1) := by decide +kernel
theorem dL_count_13 : decode cL_count 13 = .ok (.iconst 1, 1) := by decide +kernel
theorem dL_count_14 : decode cL_count 14 = .ok (.ireturn, 1) := by decide +kernel
theorem dL_count_15 : decode cL_count 15 = .ok (.iconst 0, 1) := by decide +kernel
theorem dL_count_16 : decode cL_count 16 = .ok (.ireturn, 1) := by decide +kernel
theorem dL_pass_0 : decode cL_pass 0 = .ok (.aload_n 2, 1) := by decide +kernel
theorem dL_pass_1 : decode cL_pass 1 = .ok (.iconst 0, 1) := by decide +kernel
theorem dL_pass_2 : decode cL_pass 2 = .ok (.aload_n 0, 1) := by decide +kernel
theorem dL_pass_3 : decode cL_pass 3 = .ok (.iload_n 1, 1) := by decide +kernel
theorem dL_pass_4 : decode cL_pass 4 = .ok (.invokevirtual 63, 3) := by decide +kernel
theorem dL_pass_7 : decode cL_pass 7 = .ok (.i2l, 1) := by decide +kernel
theorem dL_pass_8 : decode cL_pass 8 = .ok (.lastore, 1) := by decide +kernel
theorem dL_pass_9 : decode cL_pass 9 = .ok (.goto 6, 3) := by decide +kernel
theorem dL_pass_12 : decode cL_pass 12 = .ok (.astore_n 3, 1) := by decide +kernel
theorem dL_pass_13 : decode cL_pass 13 = .ok (.iconst 1, 1) := by decide +kernel
theorem dL_pass_14 : decode cL_pass 14 = .ok (.ireturn, 1) := by decide +kernel
theorem dL_pass_15 : decode cL_pass 15 = .ok (.iconst 0, 1) := by decide +kernel
theorem dL_pass_16 : decode cL_pass 16 = .ok (.ireturn, 1) := by decide +kernel
theorem dL_until_0 : decode cL_until 0 = .ok (.aload_n 2, 1) := by decide +kernel
theorem dL_until_1 : decode cL_until 1 = .ok (.iconst 0, 1) := by decide +kernel
theorem dL_until_2 : decode cL_until 2 = .ok (.aload_n 0, 1) := by decide +kernel
theorem dL_until_3 : decode cL_until 3 = .ok (.iload_n 1, 1) := by decide +kernel
theorem dL_until_4 : decode cL_until 4 = .ok (.invokevirtual 66, 3) := by decide +kernel
theorem dL_until_7 : decode cL_until 7 = .ok (.i2l, 1) := by decide +kernel
theorem dL_until_8 : decode cL_until 8 = .ok (.lastore, 1) := by decide +kernel
theorem dL_until_9 : decode cL_until 9 = .ok (.goto 6, 3) := by decide +kernel
theorem dL_until_12 : decode cL_until 12 = .ok (.astore_n 3, 1) := by decide +kernel
theorem dL_until_13 : decode cL_until 13 = .ok (.iconst 1, 1) := by decide +kernel
theorem dL_until_14 : decode cL_until 14 = .ok (.ireturn, 1) := by decide +kernel
theorem dL_until_15 : decode cL_until 15 = .ok (.iconst 0, 1) := by decide +kernel
theorem dL_until_16 : decode cL_until 16 = .ok (.ireturn, 1) := by decide +kernel
theorem dL_foresee_0 : decode cL_foresee 0 = .ok (.aload_n 3, 1) := by decide +kernel
theorem dL_foresee_1 : decode cL_foresee 1 = .ok (.iconst 0, 1) := by decide +kernel
theorem dL_foresee_2 : decode cL_foresee 2 = .ok (.aload_n 0, 1) := by decide +kernel
theorem dL_foresee_3 : decode cL_foresee 3 = .ok (.iload_n 1, 1) := by decide +kernel
theorem dL_foresee_4 : decode cL_foresee 4 = .ok (.iload_n 2, 1) := by decide +kernel
theorem dL_foresee_5 : decode cL_foresee 5 = .ok (.invokevirtual 69, 3) := by decide +kernel
theorem dL_foresee_8 : decode cL_foresee 8 = .ok (.i2l, 1) := by decide +kernel
theorem dL_foresee_9 : decode cL_foresee 9 = .ok (.lastore, 1) := by decide +kernel
theorem dL_foresee_10 : decode cL_foresee 10 = .ok (.goto 11, 3) := by decide +kernel
theorem dL_foresee_13 : decode cL_foresee 13 = .ok (.astore 4, 2) := by decide +kernel
theorem dL_foresee_15 : decode cL_foresee 15 = .ok (.iconst 1, 1) := by decide +kernel
theorem dL_foresee_16 : decode cL_foresee 16 = .ok (.ireturn, 1) := by decide +kernel
theorem dL_foresee_17 : decode cL_foresee 17 = .ok (.astore 4, 2) := by decide +kernel
theorem dL_foresee_19 : decode cL_foresee 19 = .ok (.iconst 2, 1) := by decide +kernel
theorem dL_foresee_20 : decode cL_foresee 20 = .ok (.ireturn, 1) := by decide +kernel
theorem dL_foresee_21 : decode cL_foresee 21 = .ok (.iconst 0, 1) := by decide +kernel
theorem dL_foresee_22 : decode cL_foresee 22 = .ok (.ireturn, 1) := by decide +kernel
theorem dL_advise_0 : decode cL_advise 0 = .ok (.aload_n 2, 1) := by decide +kernel
theorem dL_advise_1 : decode cL_advise 1 = .ok (.iconst 0, 1) := by decide +kernel
theorem dL_advise_2 : decode cL_advise 2 = .ok (.aload_n 0, 1) := by decide +kernel
theorem dL_advise_3 : decode cL_advise 3 = .ok (.iload_n 1, 1) := by decide +kernel
theorem dL_advise_4 : decode cL_advise 4 = .ok (.invokevirtual 72, 3) := by decide +kernel
theorem dL_advise_7 : decode cL_advise 7 = .ok (.i2l, 1) := by decide +kernel
theorem dL_advise_8 : decode cL_advise 8 = .ok (.lastore, 1) := by decide +kernel
theorem dL_advise_9 : decode cL_advise 9 = .ok (.goto 9, 3) := by decide +kernel
theorem dL_advise_12 : decode cL_advise 12 = .ok (.astore_n 3, 1) := by decide +kernel
theorem dL_advise_13 : decode cL_advise 13 = .ok (.iconst 1, 1) := by decide +kernel
theorem dL_advise_14 : decode cL_advise 14 = .ok (.ireturn, 1) := by decide +kernel
theorem dL_advise_15 : decode cL_advise 15 = .ok (.astore_n 3, 1) := by decide +kernel
theorem dL_advise_16 : decode cL_advise 16 = .ok (.iconst 2, 1) := by decide +kernel
theorem dL_advise_17 : decode cL_advise 17 = .ok (.ireturn, 1) := by decide +kernel
theorem dL_advise_18 : decode cL_advise 18 = .ok (.iconst 0, 1) := by decide +kernel
theorem dL_advise_19 : decode cL_advise 19 = .ok (.ireturn, 1) := by decide +kernel
theorem dL_quiet_0 : decode cL_quiet 0 = .ok (.aload_n 2, 1) := by decide +kernel
theorem dL_quiet_1 : decode cL_quiet 1 = .ok (.iconst 0, 1) := by decide +kernel
theorem dL_quiet_2 : decode cL_quiet 2 = .ok (.aload_n 0, 1) := by decide +kernel
theorem dL_quiet_3 : decode cL_quiet 3 = .ok (.iload_n 1, 1) := by decide +kernel
theorem dL_quiet_4 : decode cL_quiet 4 = .ok (.invokevirtual 75, 3) := by decide +kernel
theorem dL_quiet_7 : decode cL_quiet 7 = .ok (.i2l, 1) := by decide +kernel
theorem dL_quiet_8 : decode cL_quiet 8 = .ok (.lastore, 1) := by decide +kernel
theorem dL_quiet_9 : decode cL_quiet 9 = .ok (.goto 6, 3) := by decide +kernel
theorem dL_quiet_12 : decode cL_quiet 12 = .ok (.astore_n 3, 1) := by decide +kernel
theorem dL_quiet_13 : decode cL_quiet 13 = .ok (.iconst 1, 1) := by decide +kernel
theorem dL_quiet_14 : decode cL_quiet 14 = .ok (.ireturn, 1) := by decide +kernel
theorem dL_quiet_15 : decode cL_quiet 15 = .ok (.iconst 0, 1) := by decide +kernel
theorem dL_quiet_16 : decode cL_quiet 16 = .ok (.ireturn, 1) := by decide +kernel
theorem dL_law_0 : decode cL_law 0 = .ok (.new 8, 3) := by decide +kernel
theorem dL_law_3 : decode cL_law 3 = .ok (.dup, 1) := by decide +kernel
theorem dL_law_4 : decode cL_law 4 = .ok (.invokespecial 78, 3) := by decide +kernel
theorem dL_law_7 : decode cL_law 7 = .ok (.astore_n 1, 1) := by decide +kernel
theorem dL_law_8 : decode cL_law 8 = .ok (.new 79, 3) := by decide +kernel
theorem dL_law_11 : decode cL_law 11 = .ok (.dup, 1) := by decide +kernel
theorem dL_law_12 : decode cL_law 12 = .ok (.invokespecial 81, 3) := by decide +kernel
theorem dL_law_15 : decode cL_law 15 = .ok (.astore_n 2, 1) := by decide +kernel
theorem dL_law_16 : decode cL_law 16 = .ok (.iconst 1, 1) := by decide +kernel
theorem dL_law_17 : decode cL_law 17 = .ok (.newarray .long, 2) := by decide +kernel
theorem dL_law_19 : decode cL_law 19 = .ok (.astore_n 3, 1) := by decide +kernel
theorem dL_law_20 : decode cL_law 20 = .ok (.iconst 0, 1) := by decide +kernel
theorem dL_law_21 : decode cL_law 21 = .ok (.istore 4, 2) := by decide +kernel
theorem dL_law_23 : decode cL_law 23 = .ok (.iload 4, 2) := by decide +kernel
theorem dL_law_25 : decode cL_law 25 = .ok (.aload_n 0, 1) := by decide +kernel
theorem dL_law_26 : decode cL_law 26 = .ok (.arraylength, 1) := by decide +kernel
theorem dL_law_27 : decode cL_law 27 = .ok (.iconst 4, 1) := by decide +kernel
theorem dL_law_28 : decode cL_law 28 = .ok (.isub, 1) := by decide +kernel
theorem dL_law_29 : decode cL_law 29 = .ok (.if_icmp .gt 1472, 3) := by decide +kernel
theorem dL_law_32 : decode cL_law 32 = .ok (.aload_n 0, 1) := by decide +kernel
theorem dL_law_33 : decode cL_law 33 = .ok (.iload 4, 2) := by decide +kernel
theorem dL_law_35 : decode cL_law 35 = .ok (.iaload, 1) := by decide +kernel
theorem dL_law_36 : decode cL_law 36 = .ok (.bipush 31, 2) := by decide +kernel
theorem dL_law_38 : decode cL_law 38 = .ok (.iand, 1) := by decide +kernel
theorem dL_law_39 : decode cL_law 39 = .ok (.tableswitch 1456 0 21 #[101, 169, 237, 293, 373, 453, 521, 589, 657, 725, 793, 861, 929, 997, 1053, 1109, 1165, 1221, 1289, 1345, 1401, 1442], 101) := by decide +kernel
theorem dL_law_140 : decode cL_law 140 = .ok (.aload_n 1, 1) := by decide +kernel
theorem dL_law_141 : decode cL_law 141 = .ok (.aload_n 0, 1) := by decide +kernel
theorem dL_law_142 : decode cL_law 142 = .ok (.iload 4, 2) := by decide +kernel
theorem dL_law_144 : decode cL_law 144 = .ok (.iconst 1, 1) := by decide +kernel
theorem dL_law_145 : decode cL_law 145 = .ok (.iadd, 1) := by decide +kernel
theorem dL_law_146 : decode cL_law 146 = .ok (.iaload, 1) := by decide +kernel
theorem dL_law_147 : decode cL_law 147 = .ok (.aload_n 0, 1) := by decide +kernel
theorem dL_law_148 : decode cL_law 148 = .ok (.iload 4, 2) := by decide +kernel
theorem dL_law_150 : decode cL_law 150 = .ok (.iconst 2, 1) := by decide +kernel
theorem dL_law_151 : decode cL_law 151 = .ok (.iadd, 1) := by decide +kernel
theorem dL_law_152 : decode cL_law 152 = .ok (.iaload, 1) := by decide +kernel
theorem dL_law_153 : decode cL_law 153 = .ok (.aload_n 3, 1) := by decide +kernel
theorem dL_law_154 : decode cL_law 154 = .ok (.invokestatic 82, 3) := by decide +kernel
theorem dL_law_157 : decode cL_law 157 = .ok (.istore 5, 2) := by decide +kernel
theorem dL_law_159 : decode cL_law 159 = .ok (.aload_n 2, 1) := by decide +kernel
theorem dL_law_160 : decode cL_law 160 = .ok (.aload_n 0, 1) := by decide +kernel
theorem dL_law_161 : decode cL_law 161 = .ok (.iload 4, 2) := by decide +kernel
theorem dL_law_163 : decode cL_law 163 = .ok (.iconst 1, 1) := by decide +kernel
theorem dL_law_164 : decode cL_law 164 = .ok (.iadd, 1) := by decide +kernel
theorem dL_law_165 : decode cL_law 165 = .ok (.iaload, 1) := by decide +kernel
theorem dL_law_166 : decode cL_law 166 = .ok (.aload_n 0, 1) := by decide +kernel
theorem dL_law_167 : decode cL_law 167 = .ok (.iload 4, 2) := by decide +kernel
theorem dL_law_169 : decode cL_law 169 = .ok (.iconst 2, 1) := by decide +kernel
theorem dL_law_170 : decode cL_law 170 = .ok (.iadd, 1) := by decide +kernel
theorem dL_law_171 : decode cL_law 171 = .ok (.iaload, 1) := by decide +kernel
theorem dL_law_172 : decode cL_law 172 = .ok (.invokevirtual 87, 3) := by decide +kernel
theorem dL_law_175 : decode cL_law 175 = .ok (.istore 6, 2) := by decide +kernel
theorem dL_law_177 : decode cL_law 177 = .ok (.aload_n 2, 1) := by decide +kernel
theorem dL_law_178 : decode cL_law 178 = .ok (.invokevirtual 88, 3) := by decide +kernel
theorem dL_law_181 : decode cL_law 181 = .ok (.iload 5, 2) := by decide +kernel
theorem dL_law_183 : decode cL_law 183 = .ok (.if_icmp .eq 5, 3) := by decide +kernel
theorem dL_law_186 : decode cL_law 186 = .ok (.iconst 0, 1) := by decide +kernel
theorem dL_law_187 : decode cL_law 187 = .ok (.ireturn, 1) := by decide +kernel
theorem dL_law_188 : decode cL_law 188 = .ok (.iload 5, 2) := by decide +kernel
theorem dL_law_190 : decode cL_law 190 = .ok (.ifCond .ne 15, 3) := by decide +kernel
theorem dL_law_193 : decode cL_law 193 = .ok (.aload_n 3, 1) := by decide +kernel
theorem dL_law_194 : decode cL_law 194 = .ok (.iconst 0, 1) := by decide +kernel
theorem dL_law_195 : decode cL_law 195 = .ok (.laload, 1) := by decide +kernel
theorem dL_law_196 : decode cL_law 196 = .ok (.iload 6, 2) := by decide +kernel
theorem dL_law_198 : decode cL_law 198 = .ok (.i2l, 1) := by decide +kernel
theorem dL_law_199 : decode cL_law 199 = .ok (.lcmp, 1) := by decide +kernel
theorem dL_law_200 : decode cL_law 200 = .ok (.ifCond .eq 5, 3) := by decide +kernel
theorem dL_law_203 : decode cL_law 203 = .ok (.iconst 0, 1) := by decide +kernel
theorem dL_law_204 : decode cL_law 204 = .ok (.ireturn, 1) := by decide +kernel
theorem dL_law_205 : decode cL_law 205 = .ok (.goto 1290, 3) := by decide +kernel
theorem dL_law_208 : decode cL_law 208 = .ok (.aload_n 1, 1) := by decide +kernel
theorem dL_law_209 : decode cL_law 209 = .ok (.aload_n 0, 1) := by decide +kernel
theorem dL_law_210 : decode cL_law 210 = .ok (.iload 4, 2) := by decide +kernel
theorem dL_law_212 : decode cL_law 212 = .ok (.iconst 1, 1) := by decide +kernel
theorem dL_law_213 : decode cL_law 213 = .ok (.iadd, 1) := by decide +kernel
theorem dL_law_214 : decode cL_law 214 = .ok (.iaload, 1) := by decide +kernel
theorem dL_law_215 : decode cL_law 215 = .ok (.aload_n 0, 1) := by decide +kernel
theorem dL_law_216 : decode cL_law 216 = .ok (.iload 4, 2) := by decide +kernel
theorem dL_law_218 : decode cL_law 218 = .ok (.iconst 2, 1) := by decide +kernel
theorem dL_law_219 : decode cL_law 219 = .ok (.iadd, 1) := by decide +kernel
theorem dL_law_220 : decode cL_law 220 = .ok (.iaload, 1) := by decide +kernel
theorem dL_law_221 : decode cL_law 221 = .ok (.aload_n 3, 1) := by decide +kernel
theorem dL_law_222 : decode cL_law 222 = .ok (.invokestatic 92, 3) := by decide +kernel
theorem dL_law_225 : decode cL_law 225 = .ok (.istore 5, 2) := by decide +kernel
theorem dL_law_227 : decode cL_law 227 = .ok (.aload_n 2, 1) := by decide +kernel
theorem dL_law_228 : decode cL_law 228 = .ok (.aload_n 0, 1) := by decide +kernel
theorem dL_law_229 : decode cL_law 229 = .ok (.iload 4, 2) := by decide +kernel
theorem dL_law_231 : decode cL_law 231 = .ok (.iconst 1, 1) := by decide +kernel
theorem dL_law_232 : decode cL_law 232 = .ok (.iadd, 1) := by decide +kernel
theorem dL_law_233 : decode cL_law 233 = .ok (.iaload, 1) := by decide +kernel
theorem dL_law_234 : decode cL_law 234 = .ok (.aload_n 0, 1) := by decide +kernel
theorem dL_law_235 : decode cL_law 235 = .ok (.iload 4, 2) := by decide +kernel
theorem dL_law_237 : decode cL_law 237 = .ok (.iconst 2, 1) := by decide +kernel
theorem dL_law_238 : decode cL_law 238 = .ok (.iadd, 1) := by decide +kernel
theorem dL_law_239 : decode cL_law 239 = .ok (.iaload, 1) := by decide +kernel
theorem dL_law_240 : decode cL_law 240 = .ok (.invokevirtual 94, 3) := by decide +kernel
theorem dL_law_243 : decode cL_law 243 = .ok (.istore 6, 2) := by decide +kernel
theorem dL_law_245 : decode cL_law 245 = .ok (.aload_n 2, 1) := by decide +kernel
theorem dL_law_246 : decode cL_law 246 = .ok (.invokevirtual 88, 3) := by decide +kernel
theorem dL_law_249 : decode cL_law 249 = .ok (.iload 5, 2) := by decide +kernel
theorem dL_law_251 : decode cL_law 251 = .ok (.if_icmp .eq 5, 3) := by decide +kernel
theorem dL_law_254 : decode cL_law 254 = .ok (.iconst 0, 1) := by decide +kernel
theorem dL_law_255 : decode cL_law 255 = .ok (.ireturn, 1) := by decide +kernel
theorem dL_law_256 : decode cL_law 256 = .ok (.iload 5, 2) := by decide +kernel
theorem dL_law_258 : decode cL_law 258 = .ok (.ifCond .ne 15, 3) := by decide +kernel
theorem dL_law_261 : decode cL_law 261 = .ok (.aload_n 3, 1) := by decide +kernel
theorem dL_law_262 : decode cL_law 262 = .ok (.iconst 0, 1) := by decide +kernel
theorem dL_law_263 : decode cL_law 263 = .ok (.laload, 1) := by decide +kernel
theorem dL_law_264 : decode cL_law 264 = .ok (.iload 6, 2) := by decide +kernel
theorem dL_law_266 : decode cL_law 266 = .ok (.i2l, 1) := by decide +kernel
theorem dL_law_267 : decode cL_law 267 = .ok (.lcmp, 1) := by decide +kernel
theorem dL_law_268 : decode cL_law 268 = .ok (.ifCond .eq 5, 3) := by decide +kernel
theorem dL_law_271 : decode cL_law 271 = .ok (.iconst 0, 1) := by decide +kernel
theorem dL_law_272 : decode cL_law 272 = .ok (.ireturn, 1) := by decide +kernel
theorem dL_law_273 : decode cL_law 273 = .ok (.goto 1222, 3) := by decide +kernel
theorem dL_law_276 : decode cL_law 276 = .ok (.aload_n 1, 1) := by decide +kernel
theorem dL_law_277 : decode cL_law 277 = .ok (.aload_n 0, 1) := by decide +kernel
theorem dL_law_278 : decode cL_law 278 = .ok (.iload 4, 2) := by decide +kernel
theorem dL_law_280 : decode cL_law 280 = .ok (.iconst 1, 1) := by decide +kernel
theorem dL_law_281 : decode cL_law 281 = .ok (.iadd, 1) := by decide +kernel
theorem dL_law_282 : decode cL_law 282 = .ok (.iaload, 1) := by decide +kernel
theorem dL_law_283 : decode cL_law 283 = .ok (.aload_n 3, 1) := by decide +kernel
theorem dL_law_284 : decode cL_law 284 = .ok (.invokestatic 95, 3) := by decide +kernel
theorem dL_law_287 : decode cL_law 287 = .ok (.istore 5, 2) := by decide +kernel
theorem dL_law_289 : decode cL_law 289 = .ok (.aload_n 2, 1) := by decide +kernel
theorem dL_law_290 : decode cL_law 290 = .ok (.aload_n 0, 1) := by decide +kernel
theorem dL_law_291 : decode cL_law 291 = .ok (.iload 4, 2) := by decide +kernel
theorem dL_law_293 : decode cL_law 293 = .ok (.iconst 1, 1) := by decide +kernel
theorem dL_law_294 : decode cL_law 294 = .ok (.iadd, 1) := by decide +kernel
theorem dL_law_295 : decode cL_law 295 = .ok (.iaload, 1) := by decide +kernel
theorem dL_law_296 : decode cL_law 296 = .ok (.invokevirtual 98, 3) := by decide +kernel
theorem dL_law_299 : decode cL_law 299 = .ok (.istore 6, 2) := by decide +kernel
theorem dL_law_301 : decode cL_law 301 = .ok (.aload_n 2, 1) := by decide +kernel
theorem dL_law_302 : decode cL_law 302 = .ok (.invokevirtual 88, 3) := by decide +kernel
theorem dL_law_305 : decode cL_law 305 = .ok (.iload 5, 2) := by decide +kernel
theorem dL_law_307 : decode cL_law 307 = .ok (.if_icmp .eq 5, 3) := by decide +kernel
theorem dL_law_310 : decode cL_law 310 = .ok (.iconst 0, 1) := by decide +kernel
theorem dL_law_311 : decode cL_law 311 = .ok (.ireturn, 1) := by decide +kernel
theorem dL_law_312 : decode cL_law 312 = .ok (.iload 5, 2) := by decide +kernel
theorem dL_law_314 : decode cL_law 314 = .ok (.ifCond .ne 15, 3) := by decide +kernel
theorem dL_law_317 : decode cL_law 317 = .ok (.aload_n 3, 1) := by decide +kernel
theorem dL_law_318 : decode cL_law 318 = .ok (.iconst 0, 1) := by decide +kernel
theorem dL_law_319 : decode cL_law 319 = .ok (.laload, 1) := by decide +kernel
theorem dL_law_320 : decode cL_law 320 = .ok (.iload 6, 2) := by decide +kernel
theorem dL_law_322 : decode cL_law 322 = .ok (.i2l, 1) := by decide +kernel
theorem dL_law_323 : decode cL_law 323 = .ok (.lcmp, 1) := by decide +kernel
theorem dL_law_324 : decode cL_law 324 = .ok (.ifCond .eq 5, 3) := by decide +kernel
theorem dL_law_327 : decode cL_law 327 = .ok (.iconst 0, 1) := by decide +kernel
theorem dL_law_328 : decode cL_law 328 = .ok (.ireturn, 1) := by decide +kernel
theorem dL_law_329 : decode cL_law 329 = .ok (.goto 1166, 3) := by decide +kernel
theorem dL_law_332 : decode cL_law 332 = .ok (.aload_n 1, 1) := by decide +kernel
theorem dL_law_333 : decode cL_law 333 = .ok (.aload_n 0, 1) := by decide +kernel
theorem dL_law_334 : decode cL_law 334 = .ok (.iload 4, 2) := by decide +kernel
theorem dL_law_336 : decode cL_law 336 = .ok (.iconst 1, 1) := by decide +kernel
theorem dL_law_337 : decode cL_law 337 = .ok (.iadd, 1) := by decide +kernel
theorem dL_law_338 : decode cL_law 338 = .ok (.iaload, 1) := by decide +kernel
theorem dL_law_339 : decode cL_law 339 = .ok (.aload_n 0, 1) := by decide +kernel
theorem dL_law_340 : decode cL_law 340 = .ok (.iload 4, 2) := by decide +kernel
theorem dL_law_342 : decode cL_law 342 = .ok (.iconst 2, 1) := by decide +kernel
theorem dL_law_343 : decode cL_law 343 = .ok (.iadd, 1) := by decide +kernel
theorem dL_law_344 : decode cL_law 344 = .ok (.iaload, 1) := by decide +kernel
theorem dL_law_345 : decode cL_law 345 = .ok (.aload_n 0, 1) := by decide +kernel
theorem dL_law_346 : decode cL_law 346 = .ok (.iload 4, 2) := by decide +kernel
theorem dL_law_348 : decode cL_law 348 = .ok (.iconst 3, 1) := by decide +kernel
theorem dL_law_349 : decode cL_law 349 = .ok (.iadd, 1) := by decide +kernel
theorem dL_law_350 : decode cL_law 350 = .ok (.iaload, 1) := by decide +kernel
theorem dL_law_351 : decode cL_law 351 = .ok (.aload_n 3, 1) := by decide +kernel
theorem dL_law_352 : decode cL_law 352 = .ok (.invokestatic 99, 3) := by decide +kernel
theorem dL_law_355 : decode cL_law 355 = .ok (.istore 5, 2) := by decide +kernel
theorem dL_law_357 : decode cL_law 357 = .ok (.aload_n 2, 1) := by decide +kernel
theorem dL_law_358 : decode cL_law 358 = .ok (.aload_n 0, 1) := by decide +kernel
theorem dL_law_359 : decode cL_law 359 = .ok (.iload 4, 2) := by decide +kernel
theorem dL_law_361 : decode cL_law 361 = .ok (.iconst 1, 1) := by decide +kernel
theorem dL_law_362 : decode cL_law 362 = .ok (.iadd, 1) := by decide +kernel
theorem dL_law_363 : decode cL_law 363 = .ok (.iaload, 1) := by decide +kernel
theorem dL_law_364 : decode cL_law 364 = .ok (.aload_n 0, 1) := by decide +kernel
theorem dL_law_365 : decode cL_law 365 = .ok (.iload 4, 2) := by decide +kernel
theorem dL_law_367 : decode cL_law 367 = .ok (.iconst 2, 1) := by decide +kernel
theorem dL_law_368 : decode cL_law 368 = .ok (.iadd, 1) := by decide +kernel
theorem dL_law_369 : decode cL_law 369 = .ok (.iaload, 1) := by decide +kernel
theorem dL_law_370 : decode cL_law 370 = .ok (.aload_n 0, 1) := by decide +kernel
theorem dL_law_371 : decode cL_law 371 = .ok (.iload 4, 2) := by decide +kernel
theorem dL_law_373 : decode cL_law 373 = .ok (.iconst 3, 1) := by decide +kernel
theorem dL_law_374 : decode cL_law 374 = .ok (.iadd, 1) := by decide +kernel
theorem dL_law_375 : decode cL_law 375 = .ok (.iaload, 1) := by decide +kernel
theorem dL_law_376 : decode cL_law 376 = .ok (.invokevirtual 102, 3) := by decide +kernel
theorem dL_law_379 : decode cL_law 379 = .ok (.istore 6, 2) := by decide +kernel
theorem dL_law_381 : decode cL_law 381 = .ok (.aload_n 2, 1) := by decide +kernel
theorem dL_law_382 : decode cL_law 382 = .ok (.invokevirtual 88, 3) := by decide +kernel
theorem dL_law_385 : decode cL_law 385 = .ok (.iload 5, 2) := by decide +kernel
theorem dL_law_387 : decode cL_law 387 = .ok (.if_icmp .eq 5, 3) := by decide +kernel
theorem dL_law_390 : decode cL_law 390 = .ok (.iconst 0, 1) := by decide +kernel
theorem dL_law_391 : decode cL_law 391 = .ok (.ireturn, 1) := by decide +kernel
theorem dL_law_392 : decode cL_law 392 = .ok (.iload 5, 2) := by decide +kernel
theorem dL_law_394 : decode cL_law 394 = .ok (.ifCond .ne 15, 3) := by decide +kernel
theorem dL_law_397 : decode cL_law 397 = .ok (.aload_n 3, 1) := by decide +kernel
theorem dL_law_398 : decode cL_law 398 = .ok (.iconst 0, 1) := by decide +kernel
theorem dL_law_399 : decode cL_law 399 = .ok (.laload, 1) := by decide +kernel
theorem dL_law_400 : decode cL_law 400 = .ok (.iload 6, 2) := by decide +kernel
theorem dL_law_402 : decode cL_law 402 = .ok (.i2l, 1) := by decide +kernel
theorem dL_law_403 : decode cL_law 403 = .ok (.lcmp, 1) := by decide +kernel
theorem dL_law_404 : decode cL_law 404 = .ok (.ifCond .eq 5, 3) := by decide +kernel
theorem dL_law_407 : decode cL_law 407 = .ok (.iconst 0, 1) := by decide +kernel
theorem dL_law_408 : decode cL_law 408 = .ok (.ireturn, 1) := by decide +kernel
theorem dL_law_409 : decode cL_law 409 = .ok (.goto 1086, 3) := by decide +kernel
theorem dL_law_412 : decode cL_law 412 = .ok (.aload_n 1, 1) := by decide +kernel
theorem dL_law_413 : decode cL_law 413 = .ok (.aload_n 0, 1) := by decide +kernel
theorem dL_law_414 : decode cL_law 414 = .ok (.iload 4, 2) := by decide +kernel
theorem dL_law_416 : decode cL_law 416 = .ok (.iconst 1, 1) := by decide +kernel
theorem dL_law_417 : decode cL_law 417 = .ok (.iadd, 1) := by decide +kernel
theorem dL_law_418 : decode cL_law 418 = .ok (.iaload, 1) := by decide +kernel
theorem dL_law_419 : decode cL_law 419 = .ok (.aload_n 0, 1) := by decide +kernel
theorem dL_law_420 : decode cL_law 420 = .ok (.iload 4, 2) := by decide +kernel
theorem dL_law_422 : decode cL_law 422 = .ok (.iconst 2, 1) := by decide +kernel
theorem dL_law_423 : decode cL_law 423 = .ok (.iadd, 1) := by decide +kernel
theorem dL_law_424 : decode cL_law 424 = .ok (.iaload, 1) := by decide +kernel
theorem dL_law_425 : decode cL_law 425 = .ok (.aload_n 0, 1) := by decide +kernel
theorem dL_law_426 : decode cL_law 426 = .ok (.iload 4, 2) := by decide +kernel
theorem dL_law_428 : decode cL_law 428 = .ok (.iconst 3, 1) := by decide +kernel
theorem dL_law_429 : decode cL_law 429 = .ok (.iadd, 1) := by decide +kernel
theorem dL_law_430 : decode cL_law 430 = .ok (.iaload, 1) := by decide +kernel
theorem dL_law_431 : decode cL_law 431 = .ok (.aload_n 3, 1) := by decide +kernel
theorem dL_law_432 : decode cL_law 432 = .ok (.invokestatic 103, 3) := by decide +kernel
theorem dL_law_435 : decode cL_law 435 = .ok (.istore 5, 2) := by decide +kernel
theorem dL_law_437 : decode cL_law 437 = .ok (.aload_n 2, 1) := by decide +kernel
theorem dL_law_438 : decode cL_law 438 = .ok (.aload_n 0, 1) := by decide +kernel
theorem dL_law_439 : decode cL_law 439 = .ok (.iload 4, 2) := by decide +kernel
theorem dL_law_441 : decode cL_law 441 = .ok (.iconst 1, 1) := by decide +kernel
theorem dL_law_442 : decode cL_law 442 = .ok (.iadd, 1) := by decide +kernel
theorem dL_law_443 : decode cL_law 443 = .ok (.iaload, 1) := by decide +kernel
theorem dL_law_444 : decode cL_law 444 = .ok (.aload_n 0, 1) := by decide +kernel
theorem dL_law_445 : decode cL_law 445 = .ok (.iload 4, 2) := by decide +kernel
theorem dL_law_447 : decode cL_law 447 = .ok (.iconst 2, 1) := by decide +kernel
theorem dL_law_448 : decode cL_law 448 = .ok (.iadd, 1) := by decide +kernel
theorem dL_law_449 : decode cL_law 449 = .ok (.iaload, 1) := by decide +kernel
theorem dL_law_450 : decode cL_law 450 = .ok (.aload_n 0, 1) := by decide +kernel
theorem dL_law_451 : decode cL_law 451 = .ok (.iload 4, 2) := by decide +kernel
theorem dL_law_453 : decode cL_law 453 = .ok (.iconst 3, 1) := by decide +kernel
theorem dL_law_454 : decode cL_law 454 = .ok (.iadd, 1) := by decide +kernel
theorem dL_law_455 : decode cL_law 455 = .ok (.iaload, 1) := by decide +kernel
theorem dL_law_456 : decode cL_law 456 = .ok (.invokevirtual 105, 3) := by decide +kernel
theorem dL_law_459 : decode cL_law 459 = .ok (.istore 6, 2) := by decide +kernel
theorem dL_law_461 : decode cL_law 461 = .ok (.aload_n 2, 1) := by decide +kernel
theorem dL_law_462 : decode cL_law 462 = .ok (.invokevirtual 88, 3) := by decide +kernel
theorem dL_law_465 : decode cL_law 465 = .ok (.iload 5, 2) := by decide +kernel
theorem dL_law_467 : decode cL_law 467 = .ok (.if_icmp .eq 5, 3) := by decide +kernel
theorem dL_law_470 : decode cL_law 470 = .ok (.iconst 0, 1) := by decide +kernel
theorem dL_law_471 : decode cL_law 471 = .ok (.ireturn, 1) := by decide +kernel
theorem dL_law_472 : decode cL_law 472 = .ok (.iload 5, 2) := by decide +kernel
theorem dL_law_474 : decode cL_law 474 = .ok (.ifCond .ne 15, 3) := by decide +kernel
theorem dL_law_477 : decode cL_law 477 = .ok (.aload_n 3, 1) := by decide +kernel
theorem dL_law_478 : decode cL_law 478 = .ok (.iconst 0, 1) := by decide +kernel
theorem dL_law_479 : decode cL_law 479 = .ok (.laload, 1) := by decide +kernel
theorem dL_law_480 : decode cL_law 480 = .ok (.iload 6, 2) := by decide +kernel
theorem dL_law_482 : decode cL_law 482 = .ok (.i2l, 1) := by decide +kernel
theorem dL_law_483 : decode cL_law 483 = .ok (.lcmp, 1) := by decide +kernel
theorem dL_law_484 : decode cL_law 484 = .ok (.ifCond .eq 5, 3) := by decide +kernel
theorem dL_law_487 : decode cL_law 487 = .ok (.iconst 0, 1) := by decide +kernel
theorem dL_law_488 : decode cL_law 488 = .ok (.ireturn, 1) := by decide +kernel
theorem dL_law_489 : decode cL_law 489 = .ok (.goto 1006, 3) := by decide +kernel
theorem dL_law_492 : decode cL_law 492 = .ok (.aload_n 1, 1) := by decide +kernel
theorem dL_law_493 : decode cL_law 493 = .ok (.aload_n 0, 1) := by decide +kernel
theorem dL_law_494 : decode cL_law 494 = .ok (.iload 4, 2) := by decide +kernel
theorem dL_law_496 : decode cL_law 496 = .ok (.iconst 1, 1) := by decide +kernel
theorem dL_law_497 : decode cL_law 497 = .ok (.iadd, 1) := by decide +kernel
theorem dL_law_498 : decode cL_law 498 = .ok (.iaload, 1) := by decide +kernel
theorem dL_law_499 : decode cL_law 499 = .ok (.aload_n 0, 1) := by decide +kernel
theorem dL_law_500 : decode cL_law 500 = .ok (.iload 4, 2) := by decide +kernel
theorem dL_law_502 : decode cL_law 502 = .ok (.iconst 2, 1) := by decide +kernel
theorem dL_law_503 : decode cL_law 503 = .ok (.iadd, 1) := by decide +kernel
theorem dL_law_504 : decode cL_law 504 = .ok (.iaload, 1) := by decide +kernel
theorem dL_law_505 : decode cL_law 505 = .ok (.aload_n 3, 1) := by decide +kernel
theorem dL_law_506 : decode cL_law 506 = .ok (.invokestatic 106, 3) := by decide +kernel
theorem dL_law_509 : decode cL_law 509 = .ok (.istore 5, 2) := by decide +kernel
theorem dL_law_511 : decode cL_law 511 = .ok (.aload_n 2, 1) := by decide +kernel
theorem dL_law_512 : decode cL_law 512 = .ok (.aload_n 0, 1) := by decide +kernel
theorem dL_law_513 : decode cL_law 513 = .ok (.iload 4, 2) := by decide +kernel
theorem dL_law_515 : decode cL_law 515 = .ok (.iconst 1, 1) := by decide +kernel
theorem dL_law_516 : decode cL_law 516 = .ok (.iadd, 1) := by decide +kernel
theorem dL_law_517 : decode cL_law 517 = .ok (.iaload, 1) := by decide +kernel
theorem dL_law_518 : decode cL_law 518 = .ok (.aload_n 0, 1) := by decide +kernel
theorem dL_law_519 : decode cL_law 519 = .ok (.iload 4, 2) := by decide +kernel
theorem dL_law_521 : decode cL_law 521 = .ok (.iconst 2, 1) := by decide +kernel
theorem dL_law_522 : decode cL_law 522 = .ok (.iadd, 1) := by decide +kernel
theorem dL_law_523 : decode cL_law 523 = .ok (.iaload, 1) := by decide +kernel
theorem dL_law_524 : decode cL_law 524 = .ok (.invokevirtual 108, 3) := by decide +kernel
theorem dL_law_527 : decode cL_law 527 = .ok (.istore 6, 2) := by decide +kernel
theorem dL_law_529 : decode cL_law 529 = .ok (.aload_n 2, 1) := by decide +kernel
theorem dL_law_530 : decode cL_law 530 = .ok (.invokevirtual 88, 3) := by decide +kernel
theorem dL_law_533 : decode cL_law 533 = .ok (.iload 5, 2) := by decide +kernel
theorem dL_law_535 : decode cL_law 535 = .ok (.if_icmp .eq 5, 3) := by decide +kernel
theorem dL_law_538 : decode cL_law 538 = .ok (.iconst 0, 1) := by decide +kernel
theorem dL_law_539 : decode cL_law 539 = .ok (.ireturn, 1) := by decide +kernel
theorem dL_law_540 : decode cL_law 540 = .ok (.iload 5, 2) := by decide +kernel
theorem dL_law_542 : decode cL_law 542 = .ok (.ifCond .ne 15, 3) := by decide +kernel
theorem dL_law_545 : decode cL_law 545 = .ok (.aload_n 3, 1) := by decide +kernel
theorem dL_law_546 : decode cL_law 546 = .ok (.iconst 0, 1) := by decide +kernel
theorem dL_law_547 : decode cL_law 547 = .ok (.laload, 1) := by decide +kernel
theorem dL_law_548 : decode cL_law 548 = .ok (.iload 6, 2) := by decide +kernel
theorem dL_law_550 : decode cL_law 550 = .ok (.i2l, 1) := by decide +kernel
theorem dL_law_551 : decode cL_law 551 = .ok (.lcmp, 1) := by decide +kernel
theorem dL_law_552 : decode cL_law 552 = .ok (.ifCond .eq 5, 3) := by decide +kernel
theorem dL_law_555 : decode cL_law 555 = .ok (.iconst 0, 1) := by decide +kernel
theorem dL_law_556 : decode cL_law 556 = .ok (.ireturn, 1) := by decide +kernel
theorem dL_law_557 : decode cL_law 557 = .ok (.goto 938, 3) := by decide +kernel
theorem dL_law_560 : decode cL_law 560 = .ok (.aload_n 1, 1) := by decide +kernel
theorem dL_law_561 : decode cL_law 561 = .ok (.aload_n 0, 1) := by decide +kernel
theorem dL_law_562 : decode cL_law 562 = .ok (.iload 4, 2) := by decide +kernel
theorem dL_law_564 : decode cL_law 564 = .ok (.iconst 1, 1) := by decide +kernel
theorem dL_law_565 : decode cL_law 565 = .ok (.iadd, 1) := by decide +kernel
theorem dL_law_566 : decode cL_law 566 = .ok (.iaload, 1) := by decide +kernel
theorem dL_law_567 : decode cL_law 567 = .ok (.aload_n 0, 1) := by decide +kernel
theorem dL_law_568 : decode cL_law 568 = .ok (.iload 4, 2) := by decide +kernel
theorem dL_law_570 : decode cL_law 570 = .ok (.iconst 2, 1) := by decide +kernel
theorem dL_law_571 : decode cL_law 571 = .ok (.iadd, 1) := by decide +kernel
theorem dL_law_572 : decode cL_law 572 = .ok (.iaload, 1) := by decide +kernel
theorem dL_law_573 : decode cL_law 573 = .ok (.aload_n 3, 1) := by decide +kernel
theorem dL_law_574 : decode cL_law 574 = .ok (.invokestatic 109, 3) := by decide +kernel
theorem dL_law_577 : decode cL_law 577 = .ok (.istore 5, 2) := by decide +kernel
theorem dL_law_579 : decode cL_law 579 = .ok (.aload_n 2, 1) := by decide +kernel
theorem dL_law_580 : decode cL_law 580 = .ok (.aload_n 0, 1) := by decide +kernel
theorem dL_law_581 : decode cL_law 581 = .ok (.iload 4, 2) := by decide +kernel
theorem dL_law_583 : decode cL_law 583 = .ok (.iconst 1, 1) := by decide +kernel
theorem dL_law_584 : decode cL_law 584 = .ok (.iadd, 1) := by decide +kernel
theorem dL_law_585 : decode cL_law 585 = .ok (.iaload, 1) := by decide +kernel
theorem dL_law_586 : decode cL_law 586 = .ok (.aload_n 0, 1) := by decide +kernel
theorem dL_law_587 : decode cL_law 587 = .ok (.iload 4, 2) := by decide +kernel
theorem dL_law_589 : decode cL_law 589 = .ok (.iconst 2, 1) := by decide +kernel
theorem dL_law_590 : decode cL_law 590 = .ok (.iadd, 1) := by decide +kernel
theorem dL_law_591 : decode cL_law 591 = .ok (.iaload, 1) := by decide +kernel
theorem dL_law_592 : decode cL_law 592 = .ok (.invokevirtual 111, 3) := by decide +kernel
theorem dL_law_595 : decode cL_law 595 = .ok (.istore 6, 2) := by decide +kernel
theorem dL_law_597 : decode cL_law 597 = .ok (.aload_n 2, 1) := by decide +kernel
theorem dL_law_598 : decode cL_law 598 = .ok (.invokevirtual 88, 3) := by decide +kernel
theorem dL_law_601 : decode cL_law 601 = .ok (.iload 5, 2) := by decide +kernel
theorem dL_law_603 : decode cL_law 603 = .ok (.if_icmp .eq 5, 3) := by decide +kernel
theorem dL_law_606 : decode cL_law 606 = .ok (.iconst 0, 1) := by decide +kernel
theorem dL_law_607 : decode cL_law 607 = .ok (.ireturn, 1) := by decide +kernel
theorem dL_law_608 : decode cL_law 608 = .ok (.iload 5, 2) := by decide +kernel
theorem dL_law_610 : decode cL_law 610 = .ok (.ifCond .ne 15, 3) := by decide +kernel
theorem dL_law_613 : decode cL_law 613 = .ok (.aload_n 3, 1) := by decide +kernel
theorem dL_law_614 : decode cL_law 614 = .ok (.iconst 0, 1) := by decide +kernel
theorem dL_law_615 : decode cL_law 615 = .ok (.laload, 1) := by decide +kernel
theorem dL_law_616 : decode cL_law 616 = .ok (.iload 6, 2) := by decide +kernel
theorem dL_law_618 : decode cL_law 618 = .ok (.i2l, 1) := by decide +kernel
theorem dL_law_619 : decode cL_law 619 = .ok (.lcmp, 1) := by decide +kernel
theorem dL_law_620 : decode cL_law 620 = .ok (.ifCond .eq 5, 3) := by decide +kernel
theorem dL_law_623 : decode cL_law 623 = .ok (.iconst 0, 1) := by decide +kernel
theorem dL_law_624 : decode cL_law 624 = .ok (.ireturn, 1) := by decide +kernel
theorem dL_law_625 : decode cL_law 625 = .ok (.goto 870, 3) := by decide +kernel
theorem dL_law_628 : decode cL_law 628 = .ok (.aload_n 1, 1) := by decide +kernel
theorem dL_law_629 : decode cL_law 629 = .ok (.aload_n 0, 1) := by decide +kernel
theorem dL_law_630 : decode cL_law 630 = .ok (.iload 4, 2) := by decide +kernel
theorem dL_law_632 : decode cL_law 632 = .ok (.iconst 1, 1) := by decide +kernel
theorem dL_law_633 : decode cL_law 633 = .ok (.iadd, 1) := by decide +kernel
theorem dL_law_634 : decode cL_law 634 = .ok (.iaload, 1) := by decide +kernel
theorem dL_law_635 : decode cL_law 635 = .ok (.aload_n 0, 1) := by decide +kernel
theorem dL_law_636 : decode cL_law 636 = .ok (.iload 4, 2) := by decide +kernel
theorem dL_law_638 : decode cL_law 638 = .ok (.iconst 2, 1) := by decide +kernel
theorem dL_law_639 : decode cL_law 639 = .ok (.iadd, 1) := by decide +kernel
theorem dL_law_640 : decode cL_law 640 = .ok (.iaload, 1) := by decide +kernel
theorem dL_law_641 : decode cL_law 641 = .ok (.aload_n 3, 1) := by decide +kernel
theorem dL_law_642 : decode cL_law 642 = .ok (.invokestatic 112, 3) := by decide +kernel
theorem dL_law_645 : decode cL_law 645 = .ok (.istore 5, 2) := by decide +kernel
theorem dL_law_647 : decode cL_law 647 = .ok (.aload_n 2, 1) := by decide +kernel
theorem dL_law_648 : decode cL_law 648 = .ok (.aload_n 0, 1) := by decide +kernel
theorem dL_law_649 : decode cL_law 649 = .ok (.iload 4, 2) := by decide +kernel
theorem dL_law_651 : decode cL_law 651 = .ok (.iconst 1, 1) := by decide +kernel
theorem dL_law_652 : decode cL_law 652 = .ok (.iadd, 1) := by decide +kernel
theorem dL_law_653 : decode cL_law 653 = .ok (.iaload, 1) := by decide +kernel
theorem dL_law_654 : decode cL_law 654 = .ok (.aload_n 0, 1) := by decide +kernel
theorem dL_law_655 : decode cL_law 655 = .ok (.iload 4, 2) := by decide +kernel
theorem dL_law_657 : decode cL_law 657 = .ok (.iconst 2, 1) := by decide +kernel
theorem dL_law_658 : decode cL_law 658 = .ok (.iadd, 1) := by decide +kernel
theorem dL_law_659 : decode cL_law 659 = .ok (.iaload, 1) := by decide +kernel
theorem dL_law_660 : decode cL_law 660 = .ok (.invokevirtual 114, 3) := by decide +kernel
theorem dL_law_663 : decode cL_law 663 = .ok (.istore 6, 2) := by decide +kernel
theorem dL_law_665 : decode cL_law 665 = .ok (.aload_n 2, 1) := by decide +kernel
theorem dL_law_666 : decode cL_law 666 = .ok (.invokevirtual 88, 3) := by decide +kernel
theorem dL_law_669 : decode cL_law 669 = .ok (.iload 5, 2) := by decide +kernel
theorem dL_law_671 : decode cL_law 671 = .ok (.if_icmp .eq 5, 3) := by decide +kernel
theorem dL_law_674 : decode cL_law 674 = .ok (.iconst 0, 1) := by decide +kernel
theorem dL_law_675 : decode cL_law 675 = .ok (.ireturn, 1) := by decide +kernel
theorem dL_law_676 : decode cL_law 676 = .ok (.iload 5, 2) := by decide +kernel
theorem dL_law_678 : decode cL_law 678 = .ok (.ifCond .ne 15, 3) := by decide +kernel
theorem dL_law_681 : decode cL_law 681 = .ok (.aload_n 3, 1) := by decide +kernel
theorem dL_law_682 : decode cL_law 682 = .ok (.iconst 0, 1) := by decide +kernel
theorem dL_law_683 : decode cL_law 683 = .ok (.laload, 1) := by decide +kernel
theorem dL_law_684 : decode cL_law 684 = .ok (.iload 6, 2) := by decide +kernel
theorem dL_law_686 : decode cL_law 686 = .ok (.i2l, 1) := by decide +kernel
theorem dL_law_687 : decode cL_law 687 = .ok (.lcmp, 1) := by decide +kernel
theorem dL_law_688 : decode cL_law 688 = .ok (.ifCond .eq 5, 3) := by decide +kernel
theorem dL_law_691 : decode cL_law 691 = .ok (.iconst 0, 1) := by decide +kernel
theorem dL_law_692 : decode cL_law 692 = .ok (.ireturn, 1) := by decide +kernel
theorem dL_law_693 : decode cL_law 693 = .ok (.goto 802, 3) := by decide +kernel
theorem dL_law_696 : decode cL_law 696 = .ok (.aload_n 1, 1) := by decide +kernel
theorem dL_law_697 : decode cL_law 697 = .ok (.aload_n 0, 1) := by decide +kernel
theorem dL_law_698 : decode cL_law 698 = .ok (.iload 4, 2) := by decide +kernel
theorem dL_law_700 : decode cL_law 700 = .ok (.iconst 1, 1) := by decide +kernel
theorem dL_law_701 : decode cL_law 701 = .ok (.iadd, 1) := by decide +kernel
theorem dL_law_702 : decode cL_law 702 = .ok (.iaload, 1) := by decide +kernel
theorem dL_law_703 : decode cL_law 703 = .ok (.aload_n 0, 1) := by decide +kernel
theorem dL_law_704 : decode cL_law 704 = .ok (.iload 4, 2) := by decide +kernel
theorem dL_law_706 : decode cL_law 706 = .ok (.iconst 2, 1) := by decide +kernel
theorem dL_law_707 : decode cL_law 707 = .ok (.iadd, 1) := by decide +kernel
theorem dL_law_708 : decode cL_law 708 = .ok (.iaload, 1) := by decide +kernel
theorem dL_law_709 : decode cL_law 709 = .ok (.aload_n 3, 1) := by decide +kernel
theorem dL_law_710 : decode cL_law 710 = .ok (.invokestatic 115, 3) := by decide +kernel
theorem dL_law_713 : decode cL_law 713 = .ok (.istore 5, 2) := by decide +kernel
theorem dL_law_715 : decode cL_law 715 = .ok (.aload_n 2, 1) := by decide +kernel
theorem dL_law_716 : decode cL_law 716 = .ok (.aload_n 0, 1) := by decide +kernel
theorem dL_law_717 : decode cL_law 717 = .ok (.iload 4, 2) := by decide +kernel
theorem dL_law_719 : decode cL_law 719 = .ok (.iconst 1, 1) := by decide +kernel
theorem dL_law_720 : decode cL_law 720 = .ok (.iadd, 1) := by decide +kernel
theorem dL_law_721 : decode cL_law 721 = .ok (.iaload, 1) := by decide +kernel
theorem dL_law_722 : decode cL_law 722 = .ok (.aload_n 0, 1) := by decide +kernel
theorem dL_law_723 : decode cL_law 723 = .ok (.iload 4, 2) := by decide +kernel
theorem dL_law_725 : decode cL_law 725 = .ok (.iconst 2, 1) := by decide +kernel
theorem dL_law_726 : decode cL_law 726 = .ok (.iadd, 1) := by decide +kernel
theorem dL_law_727 : decode cL_law 727 = .ok (.iaload, 1) := by decide +kernel
theorem dL_law_728 : decode cL_law 728 = .ok (.invokevirtual 117, 3) := by decide +kernel
theorem dL_law_731 : decode cL_law 731 = .ok (.istore 6, 2) := by decide +kernel
theorem dL_law_733 : decode cL_law 733 = .ok (.aload_n 2, 1) := by decide +kernel
theorem dL_law_734 : decode cL_law 734 = .ok (.invokevirtual 88, 3) := by decide +kernel
theorem dL_law_737 : decode cL_law 737 = .ok (.iload 5, 2) := by decide +kernel
theorem dL_law_739 : decode cL_law 739 = .ok (.if_icmp .eq 5, 3) := by decide +kernel
theorem dL_law_742 : decode cL_law 742 = .ok (.iconst 0, 1) := by decide +kernel
theorem dL_law_743 : decode cL_law 743 = .ok (.ireturn, 1) := by decide +kernel
theorem dL_law_744 : decode cL_law 744 = .ok (.iload 5, 2) := by decide +kernel
theorem dL_law_746 : decode cL_law 746 = .ok (.ifCond .ne 15, 3) := by decide +kernel
theorem dL_law_749 : decode cL_law 749 = .ok (.aload_n 3, 1) := by decide +kernel
theorem dL_law_750 : decode cL_law 750 = .ok (.iconst 0, 1) := by decide +kernel
theorem dL_law_751 : decode cL_law 751 = .ok (.laload, 1) := by decide +kernel
theorem dL_law_752 : decode cL_law 752 = .ok (.iload 6, 2) := by decide +kernel
theorem dL_law_754 : decode cL_law 754 = .ok (.i2l, 1) := by decide +kernel
theorem dL_law_755 : decode cL_law 755 = .ok (.lcmp, 1) := by decide +kernel
theorem dL_law_756 : decode cL_law 756 = .ok (.ifCond .eq 5, 3) := by decide +kernel
theorem dL_law_759 : decode cL_law 759 = .ok (.iconst 0, 1) := by decide +kernel
theorem dL_law_760 : decode cL_law 760 = .ok (.ireturn, 1) := by decide +kernel
theorem dL_law_761 : decode cL_law 761 = .ok (.goto 734, 3) := by decide +kernel
theorem dL_law_764 : decode cL_law 764 = .ok (.aload_n 1, 1) := by decide +kernel
theorem dL_law_765 : decode cL_law 765 = .ok (.aload_n 0, 1) := by decide +kernel
theorem dL_law_766 : decode cL_law 766 = .ok (.iload 4, 2) := by decide +kernel
theorem dL_law_768 : decode cL_law 768 = .ok (.iconst 1, 1) := by decide +kernel
theorem dL_law_769 : decode cL_law 769 = .ok (.iadd, 1) := by decide +kernel
theorem dL_law_770 : decode cL_law 770 = .ok (.iaload, 1) := by decide +kernel
theorem dL_law_771 : decode cL_law 771 = .ok (.aload_n 0, 1) := by decide +kernel
theorem dL_law_772 : decode cL_law 772 = .ok (.iload 4, 2) := by decide +kernel
theorem dL_law_774 : decode cL_law 774 = .ok (.iconst 2, 1) := by decide +kernel
theorem dL_law_775 : decode cL_law 775 = .ok (.iadd, 1) := by decide +kernel
theorem dL_law_776 : decode cL_law 776 = .ok (.iaload, 1) := by decide +kernel
theorem dL_law_777 : decode cL_law 777 = .ok (.aload_n 3, 1) := by decide +kernel
theorem dL_law_778 : decode cL_law 778 = .ok (.invokestatic 118, 3) := by decide +kernel
theorem dL_law_781 : decode cL_law 781 = .ok (.istore 5, 2) := by decide +kernel
theorem dL_law_783 : decode cL_law 783 = .ok (.aload_n 2, 1) := by decide +kernel
theorem dL_law_784 : decode cL_law 784 = .ok (.aload_n 0, 1) := by decide +kernel
theorem dL_law_785 : decode cL_law 785 = .ok (.iload 4, 2) := by decide +kernel
theorem dL_law_787 : decode cL_law 787 = .ok (.iconst 1, 1) := by decide +kernel
theorem dL_law_788 : decode cL_law 788 = .ok (.iadd, 1) := by decide +kernel
theorem dL_law_789 : decode cL_law 789 = .ok (.iaload, 1) := by decide +kernel
theorem dL_law_790 : decode cL_law 790 = .ok (.aload_n 0, 1) := by decide +kernel
theorem dL_law_791 : decode cL_law 791 = .ok (.iload 4, 2) := by decide +kernel
theorem dL_law_793 : decode cL_law 793 = .ok (.iconst 2, 1) := by decide +kernel
theorem dL_law_794 : decode cL_law 794 = .ok (.iadd, 1) := by decide +kernel
theorem dL_law_795 : decode cL_law 795 = .ok (.iaload, 1) := by decide +kernel
theorem dL_law_796 : decode cL_law 796 = .ok (.invokevirtual 120, 3) := by decide +kernel
theorem dL_law_799 : decode cL_law 799 = .ok (.istore 6, 2) := by decide +kernel
theorem dL_law_801 : decode cL_law 801 = .ok (.aload_n 2, 1) := by decide +kernel
theorem dL_law_802 : decode cL_law 802 = .ok (.invokevirtual 88, 3) := by decide +kernel
theorem dL_law_805 : decode cL_law 805 = .ok (.iload 5, 2) := by decide +kernel
theorem dL_law_807 : decode cL_law 807 = .ok (.if_icmp .eq 5, 3) := by decide +kernel
theorem dL_law_810 : decode cL_law 810 = .ok (.iconst 0, 1) := by decide +kernel
theorem dL_law_811 : decode cL_law 811 = .ok (.ireturn, 1) := by decide +kernel
theorem dL_law_812 : decode cL_law 812 = .ok (.iload 5, 2) := by decide +kernel
theorem dL_law_814 : decode cL_law 814 = .ok (.ifCond .ne 15, 3) := by decide +kernel
theorem dL_law_817 : decode cL_law 817 = .ok (.aload_n 3, 1) := by decide +kernel
theorem dL_law_818 : decode cL_law 818 = .ok (.iconst 0, 1) := by decide +kernel
theorem dL_law_819 : decode cL_law 819 = .ok (.laload, 1) := by decide +kernel
theorem dL_law_820 : decode cL_law 820 = .ok (.iload 6, 2) := by decide +kernel
theorem dL_law_822 : decode cL_law 822 = .ok (.i2l, 1) := by decide +kernel
theorem dL_law_823 : decode cL_law 823 = .ok (.lcmp, 1) := by decide +kernel
theorem dL_law_824 : decode cL_law 824 = .ok (.ifCond .eq 5, 3) := by decide +kernel
theorem dL_law_827 : decode cL_law 827 = .ok (.iconst 0, 1) := by decide +kernel
theorem dL_law_828 : decode cL_law 828 = .ok (.ireturn, 1) := by decide +kernel
theorem dL_law_829 : decode cL_law 829 = .ok (.goto 666, 3) := by decide +kernel
theorem dL_law_832 : decode cL_law 832 = .ok (.aload_n 1, 1) := by decide +kernel
theorem dL_law_833 : decode cL_law 833 = .ok (.aload_n 0, 1) := by decide +kernel
theorem dL_law_834 : decode cL_law 834 = .ok (.iload 4, 2) := by decide +kernel
theorem dL_law_836 : decode cL_law 836 = .ok (.iconst 1, 1) := by decide +kernel
theorem dL_law_837 : decode cL_law 837 = .ok (.iadd, 1) := by decide +kernel
theorem dL_law_838 : decode cL_law 838 = .ok (.iaload, 1) := by decide +kernel
theorem dL_law_839 : decode cL_law 839 = .ok (.aload_n 0, 1) := by decide +kernel
theorem dL_law_840 : decode cL_law 840 = .ok (.iload 4, 2) := by decide +kernel
theorem dL_law_842 : decode cL_law 842 = .ok (.iconst 2, 1) := by decide +kernel
theorem dL_law_843 : decode cL_law 843 = .ok (.iadd, 1) := by decide +kernel
theorem dL_law_844 : decode cL_law 844 = .ok (.iaload, 1) := by decide +kernel
theorem dL_law_845 : decode cL_law 845 = .ok (.aload_n 3, 1) := by decide +kernel
theorem dL_law_846 : decode cL_law 846 = .ok (.invokestatic 121, 3) := by decide +kernel
theorem dL_law_849 : decode cL_law 849 = .ok (.istore 5, 2) := by decide +kernel
theorem dL_law_851 : decode cL_law 851 = .ok (.aload_n 2, 1) := by decide +kernel
theorem dL_law_852 : decode cL_law 852 = .ok (.aload_n 0, 1) := by decide +kernel
theorem dL_law_853 : decode cL_law 853 = .ok (.iload 4, 2) := by decide +kernel
theorem dL_law_855 : decode cL_law 855 = .ok (.iconst 1, 1) := by decide +kernel
theorem dL_law_856 : decode cL_law 856 = .ok (.iadd, 1) := by decide +kernel
theorem dL_law_857 : decode cL_law 857 = .ok (.iaload, 1) := by decide +kernel
theorem dL_law_858 : decode cL_law 858 = .ok (.aload_n 0, 1) := by decide +kernel
theorem dL_law_859 : decode cL_law 859 = .ok (.iload 4, 2) := by decide +kernel
theorem dL_law_861 : decode cL_law 861 = .ok (.iconst 2, 1) := by decide +kernel
theorem dL_law_862 : decode cL_law 862 = .ok (.iadd, 1) := by decide +kernel
theorem dL_law_863 : decode cL_law 863 = .ok (.iaload, 1) := by decide +kernel
theorem dL_law_864 : decode cL_law 864 = .ok (.invokevirtual 123, 3) := by decide +kernel
theorem dL_law_867 : decode cL_law 867 = .ok (.istore 6, 2) := by decide +kernel
theorem dL_law_869 : decode cL_law 869 = .ok (.aload_n 2, 1) := by decide +kernel
theorem dL_law_870 : decode cL_law 870 = .ok (.invokevirtual 88, 3) := by decide +kernel
theorem dL_law_873 : decode cL_law 873 = .ok (.iload 5, 2) := by decide +kernel
theorem dL_law_875 : decode cL_law 875 = .ok (.if_icmp .eq 5, 3) := by decide +kernel
theorem dL_law_878 : decode cL_law 878 = .ok (.iconst 0, 1) := by decide +kernel
theorem dL_law_879 : decode cL_law 879 = .ok (.ireturn, 1) := by decide +kernel
theorem dL_law_880 : decode cL_law 880 = .ok (.iload 5, 2) := by decide +kernel
theorem dL_law_882 : decode cL_law 882 = .ok (.ifCond .ne 15, 3) := by decide +kernel
theorem dL_law_885 : decode cL_law 885 = .ok (.aload_n 3, 1) := by decide +kernel
theorem dL_law_886 : decode cL_law 886 = .ok (.iconst 0, 1) := by decide +kernel
theorem dL_law_887 : decode cL_law 887 = .ok (.laload, 1) := by decide +kernel
theorem dL_law_888 : decode cL_law 888 = .ok (.iload 6, 2) := by decide +kernel
theorem dL_law_890 : decode cL_law 890 = .ok (.i2l, 1) := by decide +kernel
theorem dL_law_891 : decode cL_law 891 = .ok (.lcmp, 1) := by decide +kernel
theorem dL_law_892 : decode cL_law 892 = .ok (.ifCond .eq 5, 3) := by decide +kernel
theorem dL_law_895 : decode cL_law 895 = .ok (.iconst 0, 1) := by decide +kernel
theorem dL_law_896 : decode cL_law 896 = .ok (.ireturn, 1) := by decide +kernel
theorem dL_law_897 : decode cL_law 897 = .ok (.goto 598, 3) := by decide +kernel
theorem dL_law_900 : decode cL_law 900 = .ok (.aload_n 1, 1) := by decide +kernel
theorem dL_law_901 : decode cL_law 901 = .ok (.aload_n 0, 1) := by decide +kernel
theorem dL_law_902 : decode cL_law 902 = .ok (.iload 4, 2) := by decide +kernel
theorem dL_law_904 : decode cL_law 904 = .ok (.iconst 1, 1) := by decide +kernel
theorem dL_law_905 : decode cL_law 905 = .ok (.iadd, 1) := by decide +kernel
theorem dL_law_906 : decode cL_law 906 = .ok (.iaload, 1) := by decide +kernel
theorem dL_law_907 : decode cL_law 907 = .ok (.aload_n 0, 1) := by decide +kernel
theorem dL_law_908 : decode cL_law 908 = .ok (.iload 4, 2) := by decide +kernel
theorem dL_law_910 : decode cL_law 910 = .ok (.iconst 2, 1) := by decide +kernel
theorem dL_law_911 : decode cL_law 911 = .ok (.iadd, 1) := by decide +kernel
theorem dL_law_912 : decode cL_law 912 = .ok (.iaload, 1) := by decide +kernel
theorem dL_law_913 : decode cL_law 913 = .ok (.aload_n 3, 1) := by decide +kernel
theorem dL_law_914 : decode cL_law 914 = .ok (.invokestatic 124, 3) := by decide +kernel
theorem dL_law_917 : decode cL_law 917 = .ok (.istore 5, 2) := by decide +kernel
theorem dL_law_919 : decode cL_law 919 = .ok (.aload_n 2, 1) := by decide +kernel
theorem dL_law_920 : decode cL_law 920 = .ok (.aload_n 0, 1) := by decide +kernel
theorem dL_law_921 : decode cL_law 921 = .ok (.iload 4, 2) := by decide +kernel
theorem dL_law_923 : decode cL_law 923 = .ok (.iconst 1, 1) := by decide +kernel
theorem dL_law_924 : decode cL_law 924 = .ok (.iadd, 1) := by decide +kernel
theorem dL_law_925 : decode cL_law 925 = .ok (.iaload, 1) := by decide +kernel
theorem dL_law_926 : decode cL_law 926 = .ok (.aload_n 0, 1) := by decide +kernel
theorem dL_law_927 : decode cL_law 927 = .ok (.iload 4, 2) := by decide +kernel
theorem dL_law_929 : decode cL_law 929 = .ok (.iconst 2, 1) := by decide +kernel
theorem dL_law_930 : decode cL_law 930 = .ok (.iadd, 1) := by decide +kernel
theorem dL_law_931 : decode cL_law 931 = .ok (.iaload, 1) := by decide +kernel
theorem dL_law_932 : decode cL_law 932 = .ok (.invokevirtual 126, 3) := by decide +kernel
theorem dL_law_935 : decode cL_law 935 = .ok (.istore 6, 2) := by decide +kernel
theorem dL_law_937 : decode cL_law 937 = .ok (.aload_n 2, 1) := by decide +kernel
theorem dL_law_938 : decode cL_law 938 = .ok (.invokevirtual 88, 3) := by decide +kernel
theorem dL_law_941 : decode cL_law 941 = .ok (.iload 5, 2) := by decide +kernel
theorem dL_law_943 : decode cL_law 943 = .ok (.if_icmp .eq 5, 3) := by decide +kernel
theorem dL_law_946 : decode cL_law 946 = .ok (.iconst 0, 1) := by decide +kernel
theorem dL_law_947 : decode cL_law 947 = .ok (.ireturn, 1) := by decide +kernel
theorem dL_law_948 : decode cL_law 948 = .ok (.iload 5, 2) := by decide +kernel
theorem dL_law_950 : decode cL_law 950 = .ok (.ifCond .ne 15, 3) := by decide +kernel
theorem dL_law_953 : decode cL_law 953 = .ok (.aload_n 3, 1) := by decide +kernel
theorem dL_law_954 : decode cL_law 954 = .ok (.iconst 0, 1) := by decide +kernel
theorem dL_law_955 : decode cL_law 955 = .ok (.laload, 1) := by decide +kernel
theorem dL_law_956 : decode cL_law 956 = .ok (.iload 6, 2) := by decide +kernel
theorem dL_law_958 : decode cL_law 958 = .ok (.i2l, 1) := by decide +kernel
theorem dL_law_959 : decode cL_law 959 = .ok (.lcmp, 1) := by decide +kernel
theorem dL_law_960 : decode cL_law 960 = .ok (.ifCond .eq 5, 3) := by decide +kernel
theorem dL_law_963 : decode cL_law 963 = .ok (.iconst 0, 1) := by decide +kernel
theorem dL_law_964 : decode cL_law 964 = .ok (.ireturn, 1) := by decide +kernel
theorem dL_law_965 : decode cL_law 965 = .ok (.goto 530, 3) := by decide +kernel
theorem dL_law_968 : decode cL_law 968 = .ok (.aload_n 1, 1) := by decide +kernel
theorem dL_law_969 : decode cL_law 969 = .ok (.aload_n 0, 1) := by decide +kernel
theorem dL_law_970 : decode cL_law 970 = .ok (.iload 4, 2) := by decide +kernel
theorem dL_law_972 : decode cL_law 972 = .ok (.iconst 1, 1) := by decide +kernel
theorem dL_law_973 : decode cL_law 973 = .ok (.iadd, 1) := by decide +kernel
theorem dL_law_974 : decode cL_law 974 = .ok (.iaload, 1) := by decide +kernel
theorem dL_law_975 : decode cL_law 975 = .ok (.aload_n 0, 1) := by decide +kernel
theorem dL_law_976 : decode cL_law 976 = .ok (.iload 4, 2) := by decide +kernel
theorem dL_law_978 : decode cL_law 978 = .ok (.iconst 2, 1) := by decide +kernel
theorem dL_law_979 : decode cL_law 979 = .ok (.iadd, 1) := by decide +kernel
theorem dL_law_980 : decode cL_law 980 = .ok (.iaload, 1) := by decide +kernel
theorem dL_law_981 : decode cL_law 981 = .ok (.aload_n 3, 1) := by decide +kernel
theorem dL_law_982 : decode cL_law 982 = .ok (.invokestatic 127, 3) := by decide +kernel
theorem dL_law_985 : decode cL_law 985 = .ok (.istore 5, 2) := by decide +kernel
theorem dL_law_987 : decode cL_law 987 = .ok (.aload_n 2, 1) := by decide +kernel
theorem dL_law_988 : decode cL_law 988 = .ok (.aload_n 0, 1) := by decide +kernel
theorem dL_law_989 : decode cL_law 989 = .ok (.iload 4, 2) := by decide +kernel
theorem dL_law_991 : decode cL_law 991 = .ok (.iconst 1, 1) := by decide +kernel
theorem dL_law_992 : decode cL_law 992 = .ok (.iadd, 1) := by decide +kernel
theorem dL_law_993 : decode cL_law 993 = .ok (.iaload, 1) := by decide +kernel
theorem dL_law_994 : decode cL_law 994 = .ok (.aload_n 0, 1) := by decide +kernel
theorem dL_law_995 : decode cL_law 995 = .ok (.iload 4, 2) := by decide +kernel
theorem dL_law_997 : decode cL_law 997 = .ok (.iconst 2, 1) := by decide +kernel
theorem dL_law_998 : decode cL_law 998 = .ok (.iadd, 1) := by decide +kernel
theorem dL_law_999 : decode cL_law 999 = .ok (.iaload, 1) := by decide +kernel
theorem dL_law_1000 : decode cL_law 1000 = .ok (.invokevirtual 129, 3) := by decide +kernel
theorem dL_law_1003 : decode cL_law 1003 = .ok (.istore 6, 2) := by decide +kernel
theorem dL_law_1005 : decode cL_law 1005 = .ok (.aload_n 2, 1) := by decide +kernel
theorem dL_law_1006 : decode cL_law 1006 = .ok (.invokevirtual 88, 3) := by decide +kernel
theorem dL_law_1009 : decode cL_law 1009 = .ok (.iload 5, 2) := by decide +kernel
theorem dL_law_1011 : decode cL_law 1011 = .ok (.if_icmp .eq 5, 3) := by decide +kernel
theorem dL_law_1014 : decode cL_law 1014 = .ok (.iconst 0, 1) := by decide +kernel
theorem dL_law_1015 : decode cL_law 1015 = .ok (.ireturn, 1) := by decide +kernel
theorem dL_law_1016 : decode cL_law 1016 = .ok (.iload 5, 2) := by decide +kernel
theorem dL_law_1018 : decode cL_law 1018 = .ok (.ifCond .ne 15, 3) := by decide +kernel
theorem dL_law_1021 : decode cL_law 1021 = .ok (.aload_n 3, 1) := by decide +kernel
theorem dL_law_1022 : decode cL_law 1022 = .ok (.iconst 0, 1) := by decide +kernel
theorem dL_law_1023 : decode cL_law 1023 = .ok (.laload, 1) := by decide +kernel
theorem dL_law_1024 : decode cL_law 1024 = .ok (.iload 6, 2) := by decide +kernel
theorem dL_law_1026 : decode cL_law 1026 = .ok (.i2l, 1) := by decide +kernel
theorem dL_law_1027 : decode cL_law 1027 = .ok (.lcmp, 1) := by decide +kernel
theorem dL_law_1028 : decode cL_law 1028 = .ok (.ifCond .eq 5, 3) := by decide +kernel
theorem dL_law_1031 : decode cL_law 1031 = .ok (.iconst 0, 1) := by decide +kernel
theorem dL_law_1032 : decode cL_law 1032 = .ok (.ireturn, 1) := by decide +kernel
theorem dL_law_1033 : decode cL_law 1033 = .ok (.goto 462, 3) := by decide +kernel
theorem dL_law_1036 : decode cL_law 1036 = .ok (.aload_n 1, 1) := by decide +kernel
theorem dL_law_1037 : decode cL_law 1037 = .ok (.aload_n 0, 1) := by decide +kernel
theorem dL_law_1038 : decode cL_law 1038 = .ok (.iload 4, 2) := by decide +kernel
theorem dL_law_1040 : decode cL_law 1040 = .ok (.iconst 1, 1) := by decide +kernel
theorem dL_law_1041 : decode cL_law 1041 = .ok (.iadd, 1) := by decide +kernel
theorem dL_law_1042 : decode cL_law 1042 = .ok (.iaload, 1) := by decide +kernel
theorem dL_law_1043 : decode cL_law 1043 = .ok (.aload_n 3, 1) := by decide +kernel
theorem dL_law_1044 : decode cL_law 1044 = .ok (.invokestatic 130, 3) := by decide +kernel
theorem dL_law_1047 : decode cL_law 1047 = .ok (.istore 5, 2) := by decide +kernel
theorem dL_law_1049 : decode cL_law 1049 = .ok (.aload_n 2, 1) := by decide +kernel
theorem dL_law_1050 : decode cL_law 1050 = .ok (.aload_n 0, 1) := by decide +kernel
theorem dL_law_1051 : decode cL_law 1051 = .ok (.iload 4, 2) := by decide +kernel
theorem dL_law_1053 : decode cL_law 1053 = .ok (.iconst 1, 1) := by decide +kernel
theorem dL_law_1054 : decode cL_law 1054 = .ok (.iadd, 1) := by decide +kernel
theorem dL_law_1055 : decode cL_law 1055 = .ok (.iaload, 1) := by decide +kernel
theorem dL_law_1056 : decode cL_law 1056 = .ok (.invokevirtual 132, 3) := by decide +kernel
theorem dL_law_1059 : decode cL_law 1059 = .ok (.istore 6, 2) := by decide +kernel
theorem dL_law_1061 : decode cL_law 1061 = .ok (.aload_n 2, 1) := by decide +kernel
theorem dL_law_1062 : decode cL_law 1062 = .ok (.invokevirtual 88, 3) := by decide +kernel
theorem dL_law_1065 : decode cL_law 1065 = .ok (.iload 5, 2) := by decide +kernel
theorem dL_law_1067 : decode cL_law 1067 = .ok (.if_icmp .eq 5, 3) := by decide +kernel
theorem dL_law_1070 : decode cL_law 1070 = .ok (.iconst 0, 1) := by decide +kernel
theorem dL_law_1071 : decode cL_law 1071 = .ok (.ireturn, 1) := by decide +kernel
theorem dL_law_1072 : decode cL_law 1072 = .ok (.iload 5, 2) := by decide +kernel
theorem dL_law_1074 : decode cL_law 1074 = .ok (.ifCond .ne 15, 3) := by decide +kernel
theorem dL_law_1077 : decode cL_law 1077 = .ok (.aload_n 3, 1) := by decide +kernel
theorem dL_law_1078 : decode cL_law 1078 = .ok (.iconst 0, 1) := by decide +kernel
theorem dL_law_1079 : decode cL_law 1079 = .ok (.laload, 1) := by decide +kernel
theorem dL_law_1080 : decode cL_law 1080 = .ok (.iload 6, 2) := by decide +kernel
theorem dL_law_1082 : decode cL_law 1082 = .ok (.i2l, 1) := by decide +kernel
theorem dL_law_1083 : decode cL_law 1083 = .ok (.lcmp, 1) := by decide +kernel
theorem dL_law_1084 : decode cL_law 1084 = .ok (.ifCond .eq 5, 3) := by decide +kernel
theorem dL_law_1087 : decode cL_law 1087 = .ok (.iconst 0, 1) := by decide +kernel
theorem dL_law_1088 : decode cL_law 1088 = .ok (.ireturn, 1) := by decide +kernel
theorem dL_law_1089 : decode cL_law 1089 = .ok (.goto 406, 3) := by decide +kernel
theorem dL_law_1092 : decode cL_law 1092 = .ok (.aload_n 1, 1) := by decide +kernel
theorem dL_law_1093 : decode cL_law 1093 = .ok (.aload_n 0, 1) := by decide +kernel
theorem dL_law_1094 : decode cL_law 1094 = .ok (.iload 4, 2) := by decide +kernel
theorem dL_law_1096 : decode cL_law 1096 = .ok (.iconst 1, 1) := by decide +kernel
theorem dL_law_1097 : decode cL_law 1097 = .ok (.iadd, 1) := by decide +kernel
theorem dL_law_1098 : decode cL_law 1098 = .ok (.iaload, 1) := by decide +kernel
theorem dL_law_1099 : decode cL_law 1099 = .ok (.aload_n 3, 1) := by decide +kernel
theorem dL_law_1100 : decode cL_law 1100 = .ok (.invokestatic 133, 3) := by decide +kernel
theorem dL_law_1103 : decode cL_law 1103 = .ok (.istore 5, 2) := by decide +kernel
theorem dL_law_1105 : decode cL_law 1105 = .ok (.aload_n 2, 1) := by decide +kernel
theorem dL_law_1106 : decode cL_law 1106 = .ok (.aload_n 0, 1) := by decide +kernel
theorem dL_law_1107 : decode cL_law 1107 = .ok (.iload 4, 2) := by decide +kernel
theorem dL_law_1109 : decode cL_law 1109 = .ok (.iconst 1, 1) := by decide +kernel
theorem dL_law_1110 : decode cL_law 1110 = .ok (.iadd, 1) := by decide +kernel
theorem dL_law_1111 : decode cL_law 1111 = .ok (.iaload, 1) := by decide +kernel
theorem dL_law_1112 : decode cL_law 1112 = .ok (.invokevirtual 135, 3) := by decide +kernel
theorem dL_law_1115 : decode cL_law 1115 = .ok (.istore 6, 2) := by decide +kernel
theorem dL_law_1117 : decode cL_law 1117 = .ok (.aload_n 2, 1) := by decide +kernel
theorem dL_law_1118 : decode cL_law 1118 = .ok (.invokevirtual 88, 3) := by decide +kernel
theorem dL_law_1121 : decode cL_law 1121 = .ok (.iload 5, 2) := by decide +kernel
theorem dL_law_1123 : decode cL_law 1123 = .ok (.if_icmp .eq 5, 3) := by decide +kernel
theorem dL_law_1126 : decode cL_law 1126 = .ok (.iconst 0, 1) := by decide +kernel
theorem dL_law_1127 : decode cL_law 1127 = .ok (.ireturn, 1) := by decide +kernel
theorem dL_law_1128 : decode cL_law 1128 = .ok (.iload 5, 2) := by decide +kernel
theorem dL_law_1130 : decode cL_law 1130 = .ok (.ifCond .ne 15, 3) := by decide +kernel
theorem dL_law_1133 : decode cL_law 1133 = .ok (.aload_n 3, 1) := by decide +kernel
theorem dL_law_1134 : decode cL_law 1134 = .ok (.iconst 0, 1) := by decide +kernel
theorem dL_law_1135 : decode cL_law 1135 = .ok (.laload, 1) := by decide +kernel
theorem dL_law_1136 : decode cL_law 1136 = .ok (.iload 6, 2) := by decide +kernel
theorem dL_law_1138 : decode cL_law 1138 = .ok (.i2l, 1) := by decide +kernel
theorem dL_law_1139 : decode cL_law 1139 = .ok (.lcmp, 1) := by decide +kernel
theorem dL_law_1140 : decode cL_law 1140 = .ok (.ifCond .eq 5, 3) := by decide +kernel
theorem dL_law_1143 : decode cL_law 1143 = .ok (.iconst 0, 1) := by decide +kernel
theorem dL_law_1144 : decode cL_law 1144 = .ok (.ireturn, 1) := by decide +kernel
theorem dL_law_1145 : decode cL_law 1145 = .ok (.goto 350, 3) := by decide +kernel
theorem dL_law_1148 : decode cL_law 1148 = .ok (.aload_n 1, 1) := by decide +kernel
theorem dL_law_1149 : decode cL_law 1149 = .ok (.aload_n 0, 1) := by decide +kernel
theorem dL_law_1150 : decode cL_law 1150 = .ok (.iload 4, 2) := by decide +kernel
theorem dL_law_1152 : decode cL_law 1152 = .ok (.iconst 1, 1) := by decide +kernel
theorem dL_law_1153 : decode cL_law 1153 = .ok (.iadd, 1) := by decide +kernel
theorem dL_law_1154 : decode cL_law 1154 = .ok (.iaload, 1) := by decide +kernel
theorem dL_law_1155 : decode cL_law 1155 = .ok (.aload_n 3, 1) := by decide +kernel
theorem dL_law_1156 : decode cL_law 1156 = .ok (.invokestatic 136, 3) := by decide +kernel
theorem dL_law_1159 : decode cL_law 1159 = .ok (.istore 5, 2) := by decide +kernel
theorem dL_law_1161 : decode cL_law 1161 = .ok (.aload_n 2, 1) := by decide +kernel
theorem dL_law_1162 : decode cL_law 1162 = .ok (.aload_n 0, 1) := by decide +kernel
theorem dL_law_1163 : decode cL_law 1163 = .ok (.iload 4, 2) := by decide +kernel
theorem dL_law_1165 : decode cL_law 1165 = .ok (.iconst 1, 1) := by decide +kernel
theorem dL_law_1166 : decode cL_law 1166 = .ok (.iadd, 1) := by decide +kernel
theorem dL_law_1167 : decode cL_law 1167 = .ok (.iaload, 1) := by decide +kernel
theorem dL_law_1168 : decode cL_law 1168 = .ok (.invokevirtual 138, 3) := by decide +kernel
theorem dL_law_1171 : decode cL_law 1171 = .ok (.istore 6, 2) := by decide +kernel
theorem dL_law_1173 : decode cL_law 1173 = .ok (.aload_n 2, 1) := by decide +kernel
theorem dL_law_1174 : decode cL_law 1174 = .ok (.invokevirtual 88, 3) := by decide +kernel
theorem dL_law_1177 : decode cL_law 1177 = .ok (.iload 5, 2) := by decide +kernel
theorem dL_law_1179 : decode cL_law 1179 = .ok (.if_icmp .eq 5, 3) := by decide +kernel
theorem dL_law_1182 : decode cL_law 1182 = .ok (.iconst 0, 1) := by decide +kernel
theorem dL_law_1183 : decode cL_law 1183 = .ok (.ireturn, 1) := by decide +kernel
theorem dL_law_1184 : decode cL_law 1184 = .ok (.iload 5, 2) := by decide +kernel
theorem dL_law_1186 : decode cL_law 1186 = .ok (.ifCond .ne 15, 3) := by decide +kernel
theorem dL_law_1189 : decode cL_law 1189 = .ok (.aload_n 3, 1) := by decide +kernel
theorem dL_law_1190 : decode cL_law 1190 = .ok (.iconst 0, 1) := by decide +kernel
theorem dL_law_1191 : decode cL_law 1191 = .ok (.laload, 1) := by decide +kernel
theorem dL_law_1192 : decode cL_law 1192 = .ok (.iload 6, 2) := by decide +kernel
theorem dL_law_1194 : decode cL_law 1194 = .ok (.i2l, 1) := by decide +kernel
theorem dL_law_1195 : decode cL_law 1195 = .ok (.lcmp, 1) := by decide +kernel
theorem dL_law_1196 : decode cL_law 1196 = .ok (.ifCond .eq 5, 3) := by decide +kernel
theorem dL_law_1199 : decode cL_law 1199 = .ok (.iconst 0, 1) := by decide +kernel
theorem dL_law_1200 : decode cL_law 1200 = .ok (.ireturn, 1) := by decide +kernel
theorem dL_law_1201 : decode cL_law 1201 = .ok (.goto 294, 3) := by decide +kernel
theorem dL_law_1204 : decode cL_law 1204 = .ok (.aload_n 1, 1) := by decide +kernel
theorem dL_law_1205 : decode cL_law 1205 = .ok (.aload_n 0, 1) := by decide +kernel
theorem dL_law_1206 : decode cL_law 1206 = .ok (.iload 4, 2) := by decide +kernel
theorem dL_law_1208 : decode cL_law 1208 = .ok (.iconst 1, 1) := by decide +kernel
theorem dL_law_1209 : decode cL_law 1209 = .ok (.iadd, 1) := by decide +kernel
theorem dL_law_1210 : decode cL_law 1210 = .ok (.iaload, 1) := by decide +kernel
theorem dL_law_1211 : decode cL_law 1211 = .ok (.aload_n 3, 1) := by decide +kernel
theorem dL_law_1212 : decode cL_law 1212 = .ok (.invokestatic 139, 3) := by decide +kernel
theorem dL_law_1215 : decode cL_law 1215 = .ok (.istore 5, 2) := by decide +kernel
theorem dL_law_1217 : decode cL_law 1217 = .ok (.aload_n 2, 1) := by decide +kernel
theorem dL_law_1218 : decode cL_law 1218 = .ok (.aload_n 0, 1) := by decide +kernel
theorem dL_law_1219 : decode cL_law 1219 = .ok (.iload 4, 2) := by decide +kernel
theorem dL_law_1221 : decode cL_law 1221 = .ok (.iconst 1, 1) := by decide +kernel
theorem dL_law_1222 : decode cL_law 1222 = .ok (.iadd, 1) := by decide +kernel
theorem dL_law_1223 : decode cL_law 1223 = .ok (.iaload, 1) := by decide +kernel
theorem dL_law_1224 : decode cL_law 1224 = .ok (.invokevirtual 141, 3) := by decide +kernel
theorem dL_law_1227 : decode cL_law 1227 = .ok (.istore 6, 2) := by decide +kernel
theorem dL_law_1229 : decode cL_law 1229 = .ok (.aload_n 2, 1) := by decide +kernel
theorem dL_law_1230 : decode cL_law 1230 = .ok (.invokevirtual 88, 3) := by decide +kernel
theorem dL_law_1233 : decode cL_law 1233 = .ok (.iload 5, 2) := by decide +kernel
theorem dL_law_1235 : decode cL_law 1235 = .ok (.if_icmp .eq 5, 3) := by decide +kernel
theorem dL_law_1238 : decode cL_law 1238 = .ok (.iconst 0, 1) := by decide +kernel
theorem dL_law_1239 : decode cL_law 1239 = .ok (.ireturn, 1) := by decide +kernel
theorem dL_law_1240 : decode cL_law 1240 = .ok (.iload 5, 2) := by decide +kernel
theorem dL_law_1242 : decode cL_law 1242 = .ok (.ifCond .ne 15, 3) := by decide +kernel
theorem dL_law_1245 : decode cL_law 1245 = .ok (.aload_n 3, 1) := by decide +kernel
theorem dL_law_1246 : decode cL_law 1246 = .ok (.iconst 0, 1) := by decide +kernel
theorem dL_law_1247 : decode cL_law 1247 = .ok (.laload, 1) := by decide +kernel
theorem dL_law_1248 : decode cL_law 1248 = .ok (.iload 6, 2) := by decide +kernel
theorem dL_law_1250 : decode cL_law 1250 = .ok (.i2l, 1) := by decide +kernel
theorem dL_law_1251 : decode cL_law 1251 = .ok (.lcmp, 1) := by decide +kernel
theorem dL_law_1252 : decode cL_law 1252 = .ok (.ifCond .eq 5, 3) := by decide +kernel
theorem dL_law_1255 : decode cL_law 1255 = .ok (.iconst 0, 1) := by decide +kernel
theorem dL_law_1256 : decode cL_law 1256 = .ok (.ireturn, 1) := by decide +kernel
theorem dL_law_1257 : decode cL_law 1257 = .ok (.goto 238, 3) := by decide +kernel
theorem dL_law_1260 : decode cL_law 1260 = .ok (.aload_n 1, 1) := by decide +kernel
theorem dL_law_1261 : decode cL_law 1261 = .ok (.aload_n 0, 1) := by decide +kernel
theorem dL_law_1262 : decode cL_law 1262 = .ok (.iload 4, 2) := by decide +kernel
theorem dL_law_1264 : decode cL_law 1264 = .ok (.iconst 1, 1) := by decide +kernel
theorem dL_law_1265 : decode cL_law 1265 = .ok (.iadd, 1) := by decide +kernel
theorem dL_law_1266 : decode cL_law 1266 = .ok (.iaload, 1) := by decide +kernel
theorem dL_law_1267 : decode cL_law 1267 = .ok (.aload_n 0, 1) := by decide +kernel
theorem dL_law_1268 : decode cL_law 1268 = .ok (.iload 4, 2) := by decide +kernel
theorem dL_law_1270 : decode cL_law 1270 = .ok (.iconst 2, 1) := by decide +kernel
theorem dL_law_1271 : decode cL_law 1271 = .ok (.iadd, 1) := by decide +kernel
theorem dL_law_1272 : decode cL_law 1272 = .ok (.iaload, 1) := by decide +kernel
theorem dL_law_1273 : decode cL_law 1273 = .ok (.aload_n 3, 1) := by decide +kernel
theorem dL_law_1274 : decode cL_law 1274 = .ok (.invokestatic 142, 3) := by decide +kernel
theorem dL_law_1277 : decode cL_law 1277 = .ok (.istore 5, 2) := by decide +kernel
theorem dL_law_1279 : decode cL_law 1279 = .ok (.aload_n 2, 1) := by decide +kernel
theorem dL_law_1280 : decode cL_law 1280 = .ok (.aload_n 0, 1) := by decide +kernel
theorem dL_law_1281 : decode cL_law 1281 = .ok (.iload 4, 2) := by decide +kernel
theorem dL_law_1283 : decode cL_law 1283 = .ok (.iconst 1, 1) := by decide +kernel
theorem dL_law_1284 : decode cL_law 1284 = .ok (.iadd, 1) := by decide +kernel
theorem dL_law_1285 : decode cL_law 1285 = .ok (.iaload, 1) := by decide +kernel
theorem dL_law_1286 : decode cL_law 1286 = .ok (.aload_n 0, 1) := by decide +kernel
theorem dL_law_1287 : decode cL_law 1287 = .ok (.iload 4, 2) := by decide +kernel
theorem dL_law_1289 : decode cL_law 1289 = .ok (.iconst 2, 1) := by decide +kernel
theorem dL_law_1290 : decode cL_law 1290 = .ok (.iadd, 1) := by decide +kernel
theorem dL_law_1291 : decode cL_law 1291 = .ok (.iaload, 1) := by decide +kernel
theorem dL_law_1292 : decode cL_law 1292 = .ok (.invokevirtual 144, 3) := by decide +kernel
theorem dL_law_1295 : decode cL_law 1295 = .ok (.istore 6, 2) := by decide +kernel
theorem dL_law_1297 : decode cL_law 1297 = .ok (.aload_n 2, 1) := by decide +kernel
theorem dL_law_1298 : decode cL_law 1298 = .ok (.invokevirtual 88, 3) := by decide +kernel
theorem dL_law_1301 : decode cL_law 1301 = .ok (.iload 5, 2) := by decide +kernel
theorem dL_law_1303 : decode cL_law 1303 = .ok (.if_icmp .eq 5, 3) := by decide +kernel
theorem dL_law_1306 : decode cL_law 1306 = .ok (.iconst 0, 1) := by decide +kernel
theorem dL_law_1307 : decode cL_law 1307 = .ok (.ireturn, 1) := by decide +kernel
theorem dL_law_1308 : decode cL_law 1308 = .ok (.iload 5, 2) := by decide +kernel
theorem dL_law_1310 : decode cL_law 1310 = .ok (.ifCond .ne 15, 3) := by decide +kernel
theorem dL_law_1313 : decode cL_law 1313 = .ok (.aload_n 3, 1) := by decide +kernel
theorem dL_law_1314 : decode cL_law 1314 = .ok (.iconst 0, 1) := by decide +kernel
theorem dL_law_1315 : decode cL_law 1315 = .ok (.laload, 1) := by decide +kernel
theorem dL_law_1316 : decode cL_law 1316 = .ok (.iload 6, 2) := by decide +kernel
theorem dL_law_1318 : decode cL_law 1318 = .ok (.i2l, 1) := by decide +kernel
theorem dL_law_1319 : decode cL_law 1319 = .ok (.lcmp, 1) := by decide +kernel
theorem dL_law_1320 : decode cL_law 1320 = .ok (.ifCond .eq 5, 3) := by decide +kernel
theorem dL_law_1323 : decode cL_law 1323 = .ok (.iconst 0, 1) := by decide +kernel
theorem dL_law_1324 : decode cL_law 1324 = .ok (.ireturn, 1) := by decide +kernel
theorem dL_law_1325 : decode cL_law 1325 = .ok (.goto 170, 3) := by decide +kernel
theorem dL_law_1328 : decode cL_law 1328 = .ok (.aload_n 1, 1) := by decide +kernel
theorem dL_law_1329 : decode cL_law 1329 = .ok (.aload_n 0, 1) := by decide +kernel
theorem dL_law_1330 : decode cL_law 1330 = .ok (.iload 4, 2) := by decide +kernel
theorem dL_law_1332 : decode cL_law 1332 = .ok (.iconst 1, 1) := by decide +kernel
theorem dL_law_1333 : decode cL_law 1333 = .ok (.iadd, 1) := by decide +kernel
theorem dL_law_1334 : decode cL_law 1334 = .ok (.iaload, 1) := by decide +kernel
theorem dL_law_1335 : decode cL_law 1335 = .ok (.aload_n 3, 1) := by decide +kernel
theorem dL_law_1336 : decode cL_law 1336 = .ok (.invokestatic 145, 3) := by decide +kernel
theorem dL_law_1339 : decode cL_law 1339 = .ok (.istore 5, 2) := by decide +kernel
theorem dL_law_1341 : decode cL_law 1341 = .ok (.aload_n 2, 1) := by decide +kernel
theorem dL_law_1342 : decode cL_law 1342 = .ok (.aload_n 0, 1) := by decide +kernel
theorem dL_law_1343 : decode cL_law 1343 = .ok (.iload 4, 2) := by decide +kernel
theorem dL_law_1345 : decode cL_law 1345 = .ok (.iconst 1, 1) := by decide +kernel
theorem dL_law_1346 : decode cL_law 1346 = .ok (.iadd, 1) := by decide +kernel
theorem dL_law_1347 : decode cL_law 1347 = .ok (.iaload, 1) := by decide +kernel
theorem dL_law_1348 : decode cL_law 1348 = .ok (.invokevirtual 147, 3) := by decide +kernel
theorem dL_law_1351 : decode cL_law 1351 = .ok (.istore 6, 2) := by decide +kernel
theorem dL_law_1353 : decode cL_law 1353 = .ok (.aload_n 2, 1) := by decide +kernel
theorem dL_law_1354 : decode cL_law 1354 = .ok (.invokevirtual 88, 3) := by decide +kernel
theorem dL_law_1357 : decode cL_law 1357 = .ok (.iload 5, 2) := by decide +kernel
theorem dL_law_1359 : decode cL_law 1359 = .ok (.if_icmp .eq 5, 3) := by decide +kernel
theorem dL_law_1362 : decode cL_law 1362 = .ok (.iconst 0, 1) := by decide +kernel
theorem dL_law_1363 : decode cL_law 1363 = .ok (.ireturn, 1) := by decide +kernel
theorem dL_law_1364 : decode cL_law 1364 = .ok (.iload 5, 2) := by decide +kernel
theorem dL_law_1366 : decode cL_law 1366 = .ok (.ifCond .ne 15, 3) := by decide +kernel
theorem dL_law_1369 : decode cL_law 1369 = .ok (.aload_n 3, 1) := by decide +kernel
theorem dL_law_1370 : decode cL_law 1370 = .ok (.iconst 0, 1) := by decide +kernel
theorem dL_law_1371 : decode cL_law 1371 = .ok (.laload, 1) := by decide +kernel
theorem dL_law_1372 : decode cL_law 1372 = .ok (.iload 6, 2) := by decide +kernel
theorem dL_law_1374 : decode cL_law 1374 = .ok (.i2l, 1) := by decide +kernel
theorem dL_law_1375 : decode cL_law 1375 = .ok (.lcmp, 1) := by decide +kernel
theorem dL_law_1376 : decode cL_law 1376 = .ok (.ifCond .eq 5, 3) := by decide +kernel
theorem dL_law_1379 : decode cL_law 1379 = .ok (.iconst 0, 1) := by decide +kernel
theorem dL_law_1380 : decode cL_law 1380 = .ok (.ireturn, 1) := by decide +kernel
theorem dL_law_1381 : decode cL_law 1381 = .ok (.goto 114, 3) := by decide +kernel
theorem dL_law_1384 : decode cL_law 1384 = .ok (.aload_n 1, 1) := by decide +kernel
theorem dL_law_1385 : decode cL_law 1385 = .ok (.aload_n 0, 1) := by decide +kernel
theorem dL_law_1386 : decode cL_law 1386 = .ok (.iload 4, 2) := by decide +kernel
theorem dL_law_1388 : decode cL_law 1388 = .ok (.iconst 1, 1) := by decide +kernel
theorem dL_law_1389 : decode cL_law 1389 = .ok (.iadd, 1) := by decide +kernel
theorem dL_law_1390 : decode cL_law 1390 = .ok (.iaload, 1) := by decide +kernel
theorem dL_law_1391 : decode cL_law 1391 = .ok (.aload_n 3, 1) := by decide +kernel
theorem dL_law_1392 : decode cL_law 1392 = .ok (.invokestatic 148, 3) := by decide +kernel
theorem dL_law_1395 : decode cL_law 1395 = .ok (.istore 5, 2) := by decide +kernel
theorem dL_law_1397 : decode cL_law 1397 = .ok (.aload_n 2, 1) := by decide +kernel
theorem dL_law_1398 : decode cL_law 1398 = .ok (.aload_n 0, 1) := by decide +kernel
theorem dL_law_1399 : decode cL_law 1399 = .ok (.iload 4, 2) := by decide +kernel
theorem dL_law_1401 : decode cL_law 1401 = .ok (.iconst 1, 1) := by decide +kernel
theorem dL_law_1402 : decode cL_law 1402 = .ok (.iadd, 1) := by decide +kernel
theorem dL_law_1403 : decode cL_law 1403 = .ok (.iaload, 1) := by decide +kernel
theorem dL_law_1404 : decode cL_law 1404 = .ok (.invokevirtual 150, 3) := by decide +kernel
theorem dL_law_1407 : decode cL_law 1407 = .ok (.istore 6, 2) := by decide +kernel
theorem dL_law_1409 : decode cL_law 1409 = .ok (.aload_n 2, 1) := by decide +kernel
theorem dL_law_1410 : decode cL_law 1410 = .ok (.invokevirtual 88, 3) := by decide +kernel
theorem dL_law_1413 : decode cL_law 1413 = .ok (.iload 5, 2) := by decide +kernel
theorem dL_law_1415 : decode cL_law 1415 = .ok (.if_icmp .eq 5, 3) := by decide +kernel
theorem dL_law_1418 : decode cL_law 1418 = .ok (.iconst 0, 1) := by decide +kernel
theorem dL_law_1419 : decode cL_law 1419 = .ok (.ireturn, 1) := by decide +kernel
theorem dL_law_1420 : decode cL_law 1420 = .ok (.iload 5, 2) := by decide +kernel
theorem dL_law_1422 : decode cL_law 1422 = .ok (.ifCond .ne 15, 3) := by decide +kernel
theorem dL_law_1425 : decode cL_law 1425 = .ok (.aload_n 3, 1) := by decide +kernel
theorem dL_law_1426 : decode cL_law 1426 = .ok (.iconst 0, 1) := by decide +kernel
theorem dL_law_1427 : decode cL_law 1427 = .ok (.laload, 1) := by decide +kernel
theorem dL_law_1428 : decode cL_law 1428 = .ok (.iload 6, 2) := by decide +kernel
theorem dL_law_1430 : decode cL_law 1430 = .ok (.i2l, 1) := by decide +kernel
theorem dL_law_1431 : decode cL_law 1431 = .ok (.lcmp, 1) := by decide +kernel
theorem dL_law_1432 : decode cL_law 1432 = .ok (.ifCond .eq 5, 3) := by decide +kernel
theorem dL_law_1435 : decode cL_law 1435 = .ok (.iconst 0, 1) := by decide +kernel
theorem dL_law_1436 : decode cL_law 1436 = .ok (.ireturn, 1) := by decide +kernel
theorem dL_law_1437 : decode cL_law 1437 = .ok (.goto 58, 3) := by decide +kernel
theorem dL_law_1440 : decode cL_law 1440 = .ok (.aload_n 1, 1) := by decide +kernel
theorem dL_law_1441 : decode cL_law 1441 = .ok (.invokevirtual 151, 3) := by decide +kernel
theorem dL_law_1444 : decode cL_law 1444 = .ok (.dstore 5, 2) := by decide +kernel
theorem dL_law_1446 : decode cL_law 1446 = .ok (.aload_n 2, 1) := by decide +kernel
theorem dL_law_1447 : decode cL_law 1447 = .ok (.invokevirtual 155, 3) := by decide +kernel
theorem dL_law_1450 : decode cL_law 1450 = .ok (.dstore 7, 2) := by decide +kernel
theorem dL_law_1452 : decode cL_law 1452 = .ok (.dload 5, 2) := by decide +kernel
theorem dL_law_1454 : decode cL_law 1454 = .ok (.dload 7, 2) := by decide +kernel
theorem dL_law_1456 : decode cL_law 1456 = .ok (.dcmp .l, 1) := by decide +kernel
theorem dL_law_1457 : decode cL_law 1457 = .ok (.ifCond .eq 21, 3) := by decide +kernel
theorem dL_law_1460 : decode cL_law 1460 = .ok (.dload 5, 2) := by decide +kernel
theorem dL_law_1462 : decode cL_law 1462 = .ok (.dload 5, 2) := by decide +kernel
theorem dL_law_1464 : decode cL_law 1464 = .ok (.dcmp .l, 1) := by decide +kernel
theorem dL_law_1465 : decode cL_law 1465 = .ok (.ifCond .eq 11, 3) := by decide +kernel
theorem dL_law_1468 : decode cL_law 1468 = .ok (.dload 7, 2) := by decide +kernel
theorem dL_law_1470 : decode cL_law 1470 = .ok (.dload 7, 2) := by decide +kernel
theorem dL_law_1472 : decode cL_law 1472 = .ok (.dcmp .l, 1) := by decide +kernel
theorem dL_law_1473 : decode cL_law 1473 = .ok (.ifCond .ne 5, 3) := by decide +kernel
theorem dL_law_1476 : decode cL_law 1476 = .ok (.iconst 0, 1) := by decide +kernel
theorem dL_law_1477 : decode cL_law 1477 = .ok (.ireturn, 1) := by decide +kernel
theorem dL_law_1478 : decode cL_law 1478 = .ok (.goto 17, 3) := by decide +kernel
theorem dL_law_1481 : decode cL_law 1481 = .ok (.aload_n 1, 1) := by decide +kernel
theorem dL_law_1482 : decode cL_law 1482 = .ok (.invokevirtual 156, 3) := by decide +kernel
theorem dL_law_1485 : decode cL_law 1485 = .ok (.aload_n 2, 1) := by decide +kernel
theorem dL_law_1486 : decode cL_law 1486 = .ok (.invokevirtual 160, 3) := by decide +kernel
theorem dL_law_1489 : decode cL_law 1489 = .ok (.lcmp, 1) := by decide +kernel
theorem dL_law_1490 : decode cL_law 1490 = .ok (.ifCond .eq 5, 3) := by decide +kernel
theorem dL_law_1493 : decode cL_law 1493 = .ok (.iconst 0, 1) := by decide +kernel
theorem dL_law_1494 : decode cL_law 1494 = .ok (.ireturn, 1) := by decide +kernel
theorem dL_law_1495 : decode cL_law 1495 = .ok (.iinc 4 4, 3) := by decide +kernel
theorem dL_law_1498 : decode cL_law 1498 = .ok (.goto (-1475), 3) := by decide +kernel
theorem dL_law_1501 : decode cL_law 1501 = .ok (.iconst 1, 1) := by decide +kernel
theorem dL_law_1502 : decode cL_law 1502 = .ok (.ireturn, 1) := by decide +kernel
end
section
/-! The world: one family of cells, read off a memory of whole numbers. t: kind of cell, c: which coast (0, 1: the class's; 2, 3: the reference's; 4: the rest), i: which one. -/
abbrev St : Type := Nat → Int → Int
abbrev Mem : Type := Nat → Nat → Int → Int
def i32 (x : Int) : Int32 := Int32.ofInt x
def u2 (S : St) (k : Nat) (i v : Int) : St := fun k' i' => if k' = k ∧ i' = i then v else S k' i'
def setc (M : Mem) (c : Nat) (S : St) : Mem := fun c' => if c' = c then S else M c'
theorem setc_at (M : Mem) (c : Nat) (S : St) : setc M c S c = S := if_pos rfl
theorem setc_ne (M : Mem) {c c' : Nat} (S : St) (h : c' ≠ c) : setc M c S c' = M c' := if_neg h
theorem setc_self (M : Mem) (c : Nat) : setc M c (M c) = M := by
  funext c'
  by_cases h : c' = c
  · subst h; exact setc_at _ _ _
  · exact setc_ne _ _ h
theorem setc_setc (M : Mem) (c : Nat) (S S' : St) : setc (setc M c S) c S' = setc M c S' := by
  funext c'
  by_cases h : c' = c
  · subst h; rw [setc_at, setc_at]
  · rw [setc_ne _ _ h, setc_ne _ _ h, setc_ne _ _ h]
theorem setc_comm (M : Mem) {c d : Nat} (S S' : St) (h : c ≠ d) : setc (setc M c S) d S' = setc (setc M d S') c S := by
  funext c'
  by_cases h1 : c' = d
  · subst h1; rw [setc_at, setc_ne _ _ (Ne.symm h), setc_at]
  · rw [setc_ne _ _ h1]
    by_cases h2 : c' = c
    · subst h2; rw [setc_at, setc_at]
    · rw [setc_ne _ _ h2, setc_ne _ _ h2, setc_ne _ _ h1]

/-- what the cell of a key holds -/
def cel (cy : Nat → ClassId) (ad : Nat → Nat → Int → Nat) (M : Mem) (t c : Nat) (i : Int) : va_E := match t with
  | 0 => .inr (4, [.ref (ad 1 0 0), .ref (ad 1 1 0)])
  | 1 => .inr (1, [.ref (ad 2 c 0), .ref (ad 3 c 0), .ref (ad 4 c 0), .ref (ad 5 c 0), .ref (ad 6 c 0), .ref (ad 7 c 0), .ref (ad 8 c 0), .int (i32 (M c 20 1)), .int (i32 (M c 20 2)), .int (i32 (M c 20 3)), .int (i32 (M c 20 0)), .int (i32 (M c 20 4)), .int (i32 (M c 20 5))])
  | 2 => .inl (cy 0, 16, .inl (fun j => i32 (M c 0 (j : Int))))
  | 3 => .inl (cy 0, 16, .inl (fun j => i32 (M c 1 (j : Int))))
  | 4 => .inl (cy 0, 8, .inl (fun j => i32 (M c 2 (j : Int))))
  | 5 => .inl (cy 0, 8, .inl (fun j => i32 (M c 3 (j : Int))))
  | 6 => .inl (cy 2, 5, .inr (.inr (.inr (.inr (fun j => some (ad 9 c (j : Int)))))))
  | 7 => .inl (cy 3, 4, .inr (.inr (.inr (.inr (fun j => some (ad 11 c (j : Int)))))))
  | 8 => .inl (cy 4, 6, .inr (.inr (.inr (.inr (fun j => some (ad 12 c (j : Int)))))))
  | 9 => .inr (2, [.ref (ad 10 c i), .int (i32 (M c 4 i)), .int (i32 (M c 6 i))])
  | 10 => .inl (cy 0, 10, .inl (fun j => if j < 10 then i32 (M c 5 (10 * i + (j : Int))) else 0))
  | 11 => .inr (3, [.int (i32 (M c 7 i)), .int (i32 (M c 8 i)), .int (i32 (M c 9 i)), .int (i32 (M c 10 i)), .int (i32 (M c 11 i)), .int (i32 (M c 12 i))])
  | 12 => .inr (0, [.int (i32 (M c 13 i)), .int (i32 (M c 14 i)), .int (i32 (M c 15 i)), .int (i32 (M c 16 i)), .int (i32 (M c 17 i)), .int (i32 (M c 18 i)), .int (i32 (M c 19 i))])
  | 13 => .inr (6, [.int (i32 (M 4 0 0)), .ref (ad 14 2 0), .ref (ad 14 3 0)])
  | 14 => .inr (5, [.int (i32 (M c 20 0)), .int (i32 (M c 20 1)), .int (i32 (M c 20 2)), .int (i32 (M c 20 3)), .int (i32 (M c 20 4)), .int (i32 (M c 20 5)), .ref (ad 15 c 0), .ref (ad 16 c 0), .ref (ad 17 c 0), .ref (ad 18 c 0), .ref (ad 19 c 0), .ref (ad 20 c 0), .ref (ad 21 c 0), .ref (ad 22 c 0), .ref (ad 23 c 0), .ref (ad 24 c 0), .ref (ad 25 c 0), .ref (ad 26 c 0), .ref (ad 27 c 0), .ref (ad 28 c 0), .ref (ad 29 c 0), .ref (ad 30 c 0), .ref (ad 31 c 0), .ref (ad 32 c 0), .ref (ad 33 c 0), .ref (ad 34 c 0)])
  | 15 => .inl (cy 0, 16, .inl (fun j => i32 (M c 0 (j : Int))))
  | 16 => .inl (cy 0, 16, .inl (fun j => i32 (M c 1 (j : Int))))
  | 17 => .inl (cy 0, 8, .inl (fun j => i32 (M c 2 (j : Int))))
  | 18 => .inl (cy 0, 8, .inl (fun j => i32 (M c 3 (j : Int))))
  | 19 => .inl (cy 0, 5, .inl (fun j => i32 (M c 4 (j : Int))))
  | 20 => .inl (cy 0, 50, .inl (fun j => i32 (M c 5 (j : Int))))
  | 21 => .inl (cy 0, 5, .inl (fun j => i32 (M c 6 (j : Int))))
  | 22 => .inl (cy 0, 4, .inl (fun j => i32 (M c 7 (j : Int))))
  | 23 => .inl (cy 0, 4, .inl (fun j => i32 (M c 8 (j : Int))))
  | 24 => .inl (cy 0, 4, .inl (fun j => i32 (M c 9 (j : Int))))
  | 25 => .inl (cy 0, 4, .inl (fun j => i32 (M c 10 (j : Int))))
  | 26 => .inl (cy 0, 4, .inl (fun j => i32 (M c 11 (j : Int))))
  | 27 => .inl (cy 0, 4, .inl (fun j => i32 (M c 12 (j : Int))))
  | 28 => .inl (cy 0, 6, .inl (fun j => i32 (M c 13 (j : Int))))
  | 29 => .inl (cy 0, 6, .inl (fun j => i32 (M c 14 (j : Int))))
  | 30 => .inl (cy 0, 6, .inl (fun j => i32 (M c 15 (j : Int))))
  | 31 => .inl (cy 0, 6, .inl (fun j => i32 (M c 16 (j : Int))))
  | 32 => .inl (cy 0, 6, .inl (fun j => i32 (M c 17 (j : Int))))
  | 33 => .inl (cy 0, 6, .inl (fun j => i32 (M c 18 (j : Int))))
  | 34 => .inl (cy 0, 6, .inl (fun j => i32 (M c 19 (j : Int))))
  | _ => .inl (cy 1, 1, .inr (.inl (fun j => (i32 (M 4 1 (j : Int))).toInt64)))
def dmb (t c : Nat) (i : Int) : Bool := match t with
  | 0 => c == 0 && i == 0
  | 1 => decide (c < 2) && i == 0
  | 2 => decide (c < 2) && i == 0
  | 3 => decide (c < 2) && i == 0
  | 4 => decide (c < 2) && i == 0
  | 5 => decide (c < 2) && i == 0
  | 6 => decide (c < 2) && i == 0
  | 7 => decide (c < 2) && i == 0
  | 8 => decide (c < 2) && i == 0
  | 9 => decide (c < 2) && (decide (0 ≤ i) && decide (i < 5))
  | 10 => decide (c < 2) && (decide (0 ≤ i) && decide (i < 5))
  | 11 => decide (c < 2) && (decide (0 ≤ i) && decide (i < 4))
  | 12 => decide (c < 2) && (decide (0 ≤ i) && decide (i < 6))
  | 13 => c == 0 && i == 0
  | 35 => c == 0 && i == 0
  | t => decide (t < 35) && (decide (2 ≤ c) && decide (c < 4)) && i == 0
def keysN : List (Nat × Nat × Nat) := (List.range 36).flatMap fun t => (List.range 4).flatMap fun c => (List.range 6).map fun i => (t, c, i)
def keys : List (Nat × Nat × Int) := (keysN.filter fun k => dmb k.1 k.2.1 (k.2.2 : Int)).map fun k => (k.1, k.2.1, (k.2.2 : Int))

theorem dm_bd {t c : Nat} {i : Int} (h : dmb t c i = true) : t < 36 ∧ c < 4 ∧ 0 ≤ i ∧ i < 6 := by
  unfold dmb at h
  split at h <;> simp at h <;> omega
theorem mem_keys {t c : Nat} {i : Int} (h : dmb t c i = true) : (t, c, i) ∈ keys := by
  obtain ⟨h1, h2, h3, h4⟩ := dm_bd h
  have e : ((i.toNat : Nat) : Int) = i := by omega
  refine List.mem_map.mpr ⟨(t, c, i.toNat), List.mem_filter.mpr ⟨?_, by rw [e]; exact h⟩, by rw [e]⟩
  exact List.mem_flatMap.mpr ⟨t, List.mem_range.mpr h1, List.mem_flatMap.mpr ⟨c, List.mem_range.mpr h2, List.mem_map.mpr ⟨i.toNat, List.mem_range.mpr (by omega), rfl⟩⟩⟩
theorem of_keys {k : Nat × Nat × Int} (h : k ∈ keys) : dmb k.1 k.2.1 k.2.2 = true := by
  obtain ⟨q, h1, rfl⟩ := List.mem_map.mp h
  exact (List.mem_filter.mp h1).2
theorem keys_nd : keys.Nodup := by decide +kernel
def wsOf (cy : Nat → ClassId) (ad : Nat → Nat → Int → Nat) (M : Mem) : va_W := keys.map fun k => (ad k.1 k.2.1 k.2.2, cel cy ad M k.1 k.2.1 k.2.2)
def owner (c k : Nat) (i : Int) : Nat × Nat × Int :=
  if c < 2 then (if k < 4 then (k + 2, c, 0) else if k = 4 then (9, c, i) else if k = 5 then (10, c, i / 10) else if k = 6 then (9, c, i) else if k < 13 then (11, c, i) else if k < 20 then (12, c, i) else (1, c, 0))
  else if c < 4 then (if k < 20 then (15 + k, c, 0) else (14, c, 0))
  else if k = 0 then (13, 0, 0) else (35, 0, 0)

theorem cel_indep_0 {cy : Nat → ClassId} {ad : Nat → Nat → Int → Nat} {M M1 : Mem} {c : Nat} {i : Int} (hd : dmb 0 c i = true) (h : ∀ (c1 k1 : Nat) (i1 : Int), owner c1 k1 i1 = (0, c, i) → M1 c1 k1 i1 = M c1 k1 i1) : cel cy ad M1 0 c i = cel cy ad M 0 c i := by
  simp only [cel]
theorem cel_indep_1 {cy : Nat → ClassId} {ad : Nat → Nat → Int → Nat} {M M1 : Mem} {c : Nat} {i : Int} (hd : dmb 1 c i = true) (h : ∀ (c1 k1 : Nat) (i1 : Int), owner c1 k1 i1 = (1, c, i) → M1 c1 k1 i1 = M c1 k1 i1) : cel cy ad M1 1 c i = cel cy ad M 1 c i := by
  have hc : c < 2 := by simp [dmb] at hd; omega
  have hi : i = 0 := by simp [dmb] at hd; omega
  subst hi
  simp only [cel]
  rw [h c 20 1 (by simp [owner, hc]), h c 20 2 (by simp [owner, hc]), h c 20 3 (by simp [owner, hc]), h c 20 0 (by simp [owner, hc]), h c 20 4 (by simp [owner, hc]), h c 20 5 (by simp [owner, hc])]
theorem cel_indep_2 {cy : Nat → ClassId} {ad : Nat → Nat → Int → Nat} {M M1 : Mem} {c : Nat} {i : Int} (hd : dmb 2 c i = true) (h : ∀ (c1 k1 : Nat) (i1 : Int), owner c1 k1 i1 = (2, c, i) → M1 c1 k1 i1 = M c1 k1 i1) : cel cy ad M1 2 c i = cel cy ad M 2 c i := by
  have hc : c < 2 := by simp [dmb] at hd; omega
  have hi : i = 0 := by simp [dmb] at hd; omega
  subst hi
  simp only [cel]
  congr 4
  funext j
  rw [h c 0 j (by simp [owner, hc])]
theorem cel_indep_3 {cy : Nat → ClassId} {ad : Nat → Nat → Int → Nat} {M M1 : Mem} {c : Nat} {i : Int} (hd : dmb 3 c i = true) (h : ∀ (c1 k1 : Nat) (i1 : Int), owner c1 k1 i1 = (3, c, i) → M1 c1 k1 i1 = M c1 k1 i1) : cel cy ad M1 3 c i = cel cy ad M 3 c i := by
  have hc : c < 2 := by simp [dmb] at hd; omega
  have hi : i = 0 := by simp [dmb] at hd; omega
  subst hi
  simp only [cel]
  congr 4
  funext j
  rw [h c 1 j (by simp [owner, hc])]
theorem cel_indep_4 {cy : Nat → ClassId} {ad : Nat → Nat → Int → Nat} {M M1 : Mem} {c : Nat} {i : Int} (hd : dmb 4 c i = true) (h : ∀ (c1 k1 : Nat) (i1 : Int), owner c1 k1 i1 = (4, c, i) → M1 c1 k1 i1 = M c1 k1 i1) : cel cy ad M1 4 c i = cel cy ad M 4 c i := by
  have hc : c < 2 := by simp [dmb] at hd; omega
  have hi : i = 0 := by simp [dmb] at hd; omega
  subst hi
  simp only [cel]
  congr 4
  funext j
  rw [h c 2 j (by simp [owner, hc])]
theorem cel_indep_5 {cy : Nat → ClassId} {ad : Nat → Nat → Int → Nat} {M M1 : Mem} {c : Nat} {i : Int} (hd : dmb 5 c i = true) (h : ∀ (c1 k1 : Nat) (i1 : Int), owner c1 k1 i1 = (5, c, i) → M1 c1 k1 i1 = M c1 k1 i1) : cel cy ad M1 5 c i = cel cy ad M 5 c i := by
  have hc : c < 2 := by simp [dmb] at hd; omega
  have hi : i = 0 := by simp [dmb] at hd; omega
  subst hi
  simp only [cel]
  congr 4
  funext j
  rw [h c 3 j (by simp [owner, hc])]
theorem cel_indep_6 {cy : Nat → ClassId} {ad : Nat → Nat → Int → Nat} {M M1 : Mem} {c : Nat} {i : Int} (hd : dmb 6 c i = true) (h : ∀ (c1 k1 : Nat) (i1 : Int), owner c1 k1 i1 = (6, c, i) → M1 c1 k1 i1 = M c1 k1 i1) : cel cy ad M1 6 c i = cel cy ad M 6 c i := by
  simp only [cel]
theorem cel_indep_7 {cy : Nat → ClassId} {ad : Nat → Nat → Int → Nat} {M M1 : Mem} {c : Nat} {i : Int} (hd : dmb 7 c i = true) (h : ∀ (c1 k1 : Nat) (i1 : Int), owner c1 k1 i1 = (7, c, i) → M1 c1 k1 i1 = M c1 k1 i1) : cel cy ad M1 7 c i = cel cy ad M 7 c i := by
  simp only [cel]
theorem cel_indep_8 {cy : Nat → ClassId} {ad : Nat → Nat → Int → Nat} {M M1 : Mem} {c : Nat} {i : Int} (hd : dmb 8 c i = true) (h : ∀ (c1 k1 : Nat) (i1 : Int), owner c1 k1 i1 = (8, c, i) → M1 c1 k1 i1 = M c1 k1 i1) : cel cy ad M1 8 c i = cel cy ad M 8 c i := by
  simp only [cel]
theorem cel_indep_9 {cy : Nat → ClassId} {ad : Nat → Nat → Int → Nat} {M M1 : Mem} {c : Nat} {i : Int} (hd : dmb 9 c i = true) (h : ∀ (c1 k1 : Nat) (i1 : Int), owner c1 k1 i1 = (9, c, i) → M1 c1 k1 i1 = M c1 k1 i1) : cel cy ad M1 9 c i = cel cy ad M 9 c i := by
  have hc : c < 2 := by simp [dmb] at hd; omega
  simp only [cel]
  rw [h c 4 i (by simp [owner, hc]), h c 6 i (by simp [owner, hc])]
theorem cel_indep_10 {cy : Nat → ClassId} {ad : Nat → Nat → Int → Nat} {M M1 : Mem} {c : Nat} {i : Int} (hd : dmb 10 c i = true) (h : ∀ (c1 k1 : Nat) (i1 : Int), owner c1 k1 i1 = (10, c, i) → M1 c1 k1 i1 = M c1 k1 i1) : cel cy ad M1 10 c i = cel cy ad M 10 c i := by
  have hc : c < 2 := by simp [dmb] at hd; omega
  simp only [cel]
  congr 4
  funext j
  by_cases hj : j < 10
  · rw [if_pos hj, if_pos hj, h c 5 (10 * i + j) (by simp [owner, hc]; omega)]
  · rw [if_neg hj, if_neg hj]
theorem cel_indep_11 {cy : Nat → ClassId} {ad : Nat → Nat → Int → Nat} {M M1 : Mem} {c : Nat} {i : Int} (hd : dmb 11 c i = true) (h : ∀ (c1 k1 : Nat) (i1 : Int), owner c1 k1 i1 = (11, c, i) → M1 c1 k1 i1 = M c1 k1 i1) : cel cy ad M1 11 c i = cel cy ad M 11 c i := by
  have hc : c < 2 := by simp [dmb] at hd; omega
  simp only [cel]
  rw [h c 7 i (by simp [owner, hc]), h c 8 i (by simp [owner, hc]), h c 9 i (by simp [owner, hc]), h c 10 i (by simp [owner, hc]), h c 11 i (by simp [owner, hc]), h c 12 i (by simp [owner, hc])]
theorem cel_indep_12 {cy : Nat → ClassId} {ad : Nat → Nat → Int → Nat} {M M1 : Mem} {c : Nat} {i : Int} (hd : dmb 12 c i = true) (h : ∀ (c1 k1 : Nat) (i1 : Int), owner c1 k1 i1 = (12, c, i) → M1 c1 k1 i1 = M c1 k1 i1) : cel cy ad M1 12 c i = cel cy ad M 12 c i := by
  have hc : c < 2 := by simp [dmb] at hd; omega
  simp only [cel]
  rw [h c 13 i (by simp [owner, hc]), h c 14 i (by simp [owner, hc]), h c 15 i (by simp [owner, hc]), h c 16 i (by simp [owner, hc]), h c 17 i (by simp [owner, hc]), h c 18 i (by simp [owner, hc]), h c 19 i (by simp [owner, hc])]
theorem cel_indep_13 {cy : Nat → ClassId} {ad : Nat → Nat → Int → Nat} {M M1 : Mem} {c : Nat} {i : Int} (hd : dmb 13 c i = true) (h : ∀ (c1 k1 : Nat) (i1 : Int), owner c1 k1 i1 = (13, c, i) → M1 c1 k1 i1 = M c1 k1 i1) : cel cy ad M1 13 c i = cel cy ad M 13 c i := by
  have hc : c = 0 := by simp [dmb] at hd; omega
  have hi : i = 0 := by simp [dmb] at hd; omega
  subst hc; subst hi
  simp only [cel]
  rw [h 4 0 0 (by simp [owner])]
theorem cel_indep_14 {cy : Nat → ClassId} {ad : Nat → Nat → Int → Nat} {M M1 : Mem} {c : Nat} {i : Int} (hd : dmb 14 c i = true) (h : ∀ (c1 k1 : Nat) (i1 : Int), owner c1 k1 i1 = (14, c, i) → M1 c1 k1 i1 = M c1 k1 i1) : cel cy ad M1 14 c i = cel cy ad M 14 c i := by
  have hc : 2 ≤ c ∧ c < 4 := by simp [dmb] at hd; omega
  have hc2 : ¬ c < 2 := by omega
  have hi : i = 0 := by simp [dmb] at hd; omega
  subst hi
  simp only [cel]
  rw [h c 20 0 (by simp [owner, hc, hc2]), h c 20 1 (by simp [owner, hc, hc2]), h c 20 2 (by simp [owner, hc, hc2]), h c 20 3 (by simp [owner, hc, hc2]), h c 20 4 (by simp [owner, hc, hc2]), h c 20 5 (by simp [owner, hc, hc2])]
theorem cel_indep_15 {cy : Nat → ClassId} {ad : Nat → Nat → Int → Nat} {M M1 : Mem} {c : Nat} {i : Int} (hd : dmb 15 c i = true) (h : ∀ (c1 k1 : Nat) (i1 : Int), owner c1 k1 i1 = (15, c, i) → M1 c1 k1 i1 = M c1 k1 i1) : cel cy ad M1 15 c i = cel cy ad M 15 c i := by
  have hc : 2 ≤ c ∧ c < 4 := by simp [dmb] at hd; omega
  have hc2 : ¬ c < 2 := by omega
  have hi : i = 0 := by simp [dmb] at hd; omega
  subst hi
  simp only [cel]
  congr 4
  funext j
  rw [h c 0 j (by simp [owner, hc, hc2])]
theorem cel_indep_16 {cy : Nat → ClassId} {ad : Nat → Nat → Int → Nat} {M M1 : Mem} {c : Nat} {i : Int} (hd : dmb 16 c i = true) (h : ∀ (c1 k1 : Nat) (i1 : Int), owner c1 k1 i1 = (16, c, i) → M1 c1 k1 i1 = M c1 k1 i1) : cel cy ad M1 16 c i = cel cy ad M 16 c i := by
  have hc : 2 ≤ c ∧ c < 4 := by simp [dmb] at hd; omega
  have hc2 : ¬ c < 2 := by omega
  have hi : i = 0 := by simp [dmb] at hd; omega
  subst hi
  simp only [cel]
  congr 4
  funext j
  rw [h c 1 j (by simp [owner, hc, hc2])]
theorem cel_indep_17 {cy : Nat → ClassId} {ad : Nat → Nat → Int → Nat} {M M1 : Mem} {c : Nat} {i : Int} (hd : dmb 17 c i = true) (h : ∀ (c1 k1 : Nat) (i1 : Int), owner c1 k1 i1 = (17, c, i) → M1 c1 k1 i1 = M c1 k1 i1) : cel cy ad M1 17 c i = cel cy ad M 17 c i := by
  have hc : 2 ≤ c ∧ c < 4 := by simp [dmb] at hd; omega
  have hc2 : ¬ c < 2 := by omega
  have hi : i = 0 := by simp [dmb] at hd; omega
  subst hi
  simp only [cel]
  congr 4
  funext j
  rw [h c 2 j (by simp [owner, hc, hc2])]
theorem cel_indep_18 {cy : Nat → ClassId} {ad : Nat → Nat → Int → Nat} {M M1 : Mem} {c : Nat} {i : Int} (hd : dmb 18 c i = true) (h : ∀ (c1 k1 : Nat) (i1 : Int), owner c1 k1 i1 = (18, c, i) → M1 c1 k1 i1 = M c1 k1 i1) : cel cy ad M1 18 c i = cel cy ad M 18 c i := by
  have hc : 2 ≤ c ∧ c < 4 := by simp [dmb] at hd; omega
  have hc2 : ¬ c < 2 := by omega
  have hi : i = 0 := by simp [dmb] at hd; omega
  subst hi
  simp only [cel]
  congr 4
  funext j
  rw [h c 3 j (by simp [owner, hc, hc2])]
theorem cel_indep_19 {cy : Nat → ClassId} {ad : Nat → Nat → Int → Nat} {M M1 : Mem} {c : Nat} {i : Int} (hd : dmb 19 c i = true) (h : ∀ (c1 k1 : Nat) (i1 : Int), owner c1 k1 i1 = (19, c, i) → M1 c1 k1 i1 = M c1 k1 i1) : cel cy ad M1 19 c i = cel cy ad M 19 c i := by
  have hc : 2 ≤ c ∧ c < 4 := by simp [dmb] at hd; omega
  have hc2 : ¬ c < 2 := by omega
  have hi : i = 0 := by simp [dmb] at hd; omega
  subst hi
  simp only [cel]
  congr 4
  funext j
  rw [h c 4 j (by simp [owner, hc, hc2])]
theorem cel_indep_20 {cy : Nat → ClassId} {ad : Nat → Nat → Int → Nat} {M M1 : Mem} {c : Nat} {i : Int} (hd : dmb 20 c i = true) (h : ∀ (c1 k1 : Nat) (i1 : Int), owner c1 k1 i1 = (20, c, i) → M1 c1 k1 i1 = M c1 k1 i1) : cel cy ad M1 20 c i = cel cy ad M 20 c i := by
  have hc : 2 ≤ c ∧ c < 4 := by simp [dmb] at hd; omega
  have hc2 : ¬ c < 2 := by omega
  have hi : i = 0 := by simp [dmb] at hd; omega
  subst hi
  simp only [cel]
  congr 4
  funext j
  rw [h c 5 j (by simp [owner, hc, hc2])]
theorem cel_indep_21 {cy : Nat → ClassId} {ad : Nat → Nat → Int → Nat} {M M1 : Mem} {c : Nat} {i : Int} (hd : dmb 21 c i = true) (h : ∀ (c1 k1 : Nat) (i1 : Int), owner c1 k1 i1 = (21, c, i) → M1 c1 k1 i1 = M c1 k1 i1) : cel cy ad M1 21 c i = cel cy ad M 21 c i := by
  have hc : 2 ≤ c ∧ c < 4 := by simp [dmb] at hd; omega
  have hc2 : ¬ c < 2 := by omega
  have hi : i = 0 := by simp [dmb] at hd; omega
  subst hi
  simp only [cel]
  congr 4
  funext j
  rw [h c 6 j (by simp [owner, hc, hc2])]
theorem cel_indep_22 {cy : Nat → ClassId} {ad : Nat → Nat → Int → Nat} {M M1 : Mem} {c : Nat} {i : Int} (hd : dmb 22 c i = true) (h : ∀ (c1 k1 : Nat) (i1 : Int), owner c1 k1 i1 = (22, c, i) → M1 c1 k1 i1 = M c1 k1 i1) : cel cy ad M1 22 c i = cel cy ad M 22 c i := by
  have hc : 2 ≤ c ∧ c < 4 := by simp [dmb] at hd; omega
  have hc2 : ¬ c < 2 := by omega
  have hi : i = 0 := by simp [dmb] at hd; omega
  subst hi
  simp only [cel]
  congr 4
  funext j
  rw [h c 7 j (by simp [owner, hc, hc2])]
theorem cel_indep_23 {cy : Nat → ClassId} {ad : Nat → Nat → Int → Nat} {M M1 : Mem} {c : Nat} {i : Int} (hd : dmb 23 c i = true) (h : ∀ (c1 k1 : Nat) (i1 : Int), owner c1 k1 i1 = (23, c, i) → M1 c1 k1 i1 = M c1 k1 i1) : cel cy ad M1 23 c i = cel cy ad M 23 c i := by
  have hc : 2 ≤ c ∧ c < 4 := by simp [dmb] at hd; omega
  have hc2 : ¬ c < 2 := by omega
  have hi : i = 0 := by simp [dmb] at hd; omega
  subst hi
  simp only [cel]
  congr 4
  funext j
  rw [h c 8 j (by simp [owner, hc, hc2])]
theorem cel_indep_24 {cy : Nat → ClassId} {ad : Nat → Nat → Int → Nat} {M M1 : Mem} {c : Nat} {i : Int} (hd : dmb 24 c i = true) (h : ∀ (c1 k1 : Nat) (i1 : Int), owner c1 k1 i1 = (24, c, i) → M1 c1 k1 i1 = M c1 k1 i1) : cel cy ad M1 24 c i = cel cy ad M 24 c i := by
  have hc : 2 ≤ c ∧ c < 4 := by simp [dmb] at hd; omega
  have hc2 : ¬ c < 2 := by omega
  have hi : i = 0 := by simp [dmb] at hd; omega
  subst hi
  simp only [cel]
  congr 4
  funext j
  rw [h c 9 j (by simp [owner, hc, hc2])]
theorem cel_indep_25 {cy : Nat → ClassId} {ad : Nat → Nat → Int → Nat} {M M1 : Mem} {c : Nat} {i : Int} (hd : dmb 25 c i = true) (h : ∀ (c1 k1 : Nat) (i1 : Int), owner c1 k1 i1 = (25, c, i) → M1 c1 k1 i1 = M c1 k1 i1) : cel cy ad M1 25 c i = cel cy ad M 25 c i := by
  have hc : 2 ≤ c ∧ c < 4 := by simp [dmb] at hd; omega
  have hc2 : ¬ c < 2 := by omega
  have hi : i = 0 := by simp [dmb] at hd; omega
  subst hi
  simp only [cel]
  congr 4
  funext j
  rw [h c 10 j (by simp [owner, hc, hc2])]
theorem cel_indep_26 {cy : Nat → ClassId} {ad : Nat → Nat → Int → Nat} {M M1 : Mem} {c : Nat} {i : Int} (hd : dmb 26 c i = true) (h : ∀ (c1 k1 : Nat) (i1 : Int), owner c1 k1 i1 = (26, c, i) → M1 c1 k1 i1 = M c1 k1 i1) : cel cy ad M1 26 c i = cel cy ad M 26 c i := by
  have hc : 2 ≤ c ∧ c < 4 := by simp [dmb] at hd; omega
  have hc2 : ¬ c < 2 := by omega
  have hi : i = 0 := by simp [dmb] at hd; omega
  subst hi
  simp only [cel]
  congr 4
  funext j
  rw [h c 11 j (by simp [owner, hc, hc2])]
theorem cel_indep_27 {cy : Nat → ClassId} {ad : Nat → Nat → Int → Nat} {M M1 : Mem} {c : Nat} {i : Int} (hd : dmb 27 c i = true) (h : ∀ (c1 k1 : Nat) (i1 : Int), owner c1 k1 i1 = (27, c, i) → M1 c1 k1 i1 = M c1 k1 i1) : cel cy ad M1 27 c i = cel cy ad M 27 c i := by
  have hc : 2 ≤ c ∧ c < 4 := by simp [dmb] at hd; omega
  have hc2 : ¬ c < 2 := by omega
  have hi : i = 0 := by simp [dmb] at hd; omega
  subst hi
  simp only [cel]
  congr 4
  funext j
  rw [h c 12 j (by simp [owner, hc, hc2])]
theorem cel_indep_28 {cy : Nat → ClassId} {ad : Nat → Nat → Int → Nat} {M M1 : Mem} {c : Nat} {i : Int} (hd : dmb 28 c i = true) (h : ∀ (c1 k1 : Nat) (i1 : Int), owner c1 k1 i1 = (28, c, i) → M1 c1 k1 i1 = M c1 k1 i1) : cel cy ad M1 28 c i = cel cy ad M 28 c i := by
  have hc : 2 ≤ c ∧ c < 4 := by simp [dmb] at hd; omega
  have hc2 : ¬ c < 2 := by omega
  have hi : i = 0 := by simp [dmb] at hd; omega
  subst hi
  simp only [cel]
  congr 4
  funext j
  rw [h c 13 j (by simp [owner, hc, hc2])]
theorem cel_indep_29 {cy : Nat → ClassId} {ad : Nat → Nat → Int → Nat} {M M1 : Mem} {c : Nat} {i : Int} (hd : dmb 29 c i = true) (h : ∀ (c1 k1 : Nat) (i1 : Int), owner c1 k1 i1 = (29, c, i) → M1 c1 k1 i1 = M c1 k1 i1) : cel cy ad M1 29 c i = cel cy ad M 29 c i := by
  have hc : 2 ≤ c ∧ c < 4 := by simp [dmb] at hd; omega
  have hc2 : ¬ c < 2 := by omega
  have hi : i = 0 := by simp [dmb] at hd; omega
  subst hi
  simp only [cel]
  congr 4
  funext j
  rw [h c 14 j (by simp [owner, hc, hc2])]
theorem cel_indep_30 {cy : Nat → ClassId} {ad : Nat → Nat → Int → Nat} {M M1 : Mem} {c : Nat} {i : Int} (hd : dmb 30 c i = true) (h : ∀ (c1 k1 : Nat) (i1 : Int), owner c1 k1 i1 = (30, c, i) → M1 c1 k1 i1 = M c1 k1 i1) : cel cy ad M1 30 c i = cel cy ad M 30 c i := by
  have hc : 2 ≤ c ∧ c < 4 := by simp [dmb] at hd; omega
  have hc2 : ¬ c < 2 := by omega
  have hi : i = 0 := by simp [dmb] at hd; omega
  subst hi
  simp only [cel]
  congr 4
  funext j
  rw [h c 15 j (by simp [owner, hc, hc2])]
theorem cel_indep_31 {cy : Nat → ClassId} {ad : Nat → Nat → Int → Nat} {M M1 : Mem} {c : Nat} {i : Int} (hd : dmb 31 c i = true) (h : ∀ (c1 k1 : Nat) (i1 : Int), owner c1 k1 i1 = (31, c, i) → M1 c1 k1 i1 = M c1 k1 i1) : cel cy ad M1 31 c i = cel cy ad M 31 c i := by
  have hc : 2 ≤ c ∧ c < 4 := by simp [dmb] at hd; omega
  have hc2 : ¬ c < 2 := by omega
  have hi : i = 0 := by simp [dmb] at hd; omega
  subst hi
  simp only [cel]
  congr 4
  funext j
  rw [h c 16 j (by simp [owner, hc, hc2])]
theorem cel_indep_32 {cy : Nat → ClassId} {ad : Nat → Nat → Int → Nat} {M M1 : Mem} {c : Nat} {i : Int} (hd : dmb 32 c i = true) (h : ∀ (c1 k1 : Nat) (i1 : Int), owner c1 k1 i1 = (32, c, i) → M1 c1 k1 i1 = M c1 k1 i1) : cel cy ad M1 32 c i = cel cy ad M 32 c i := by
  have hc : 2 ≤ c ∧ c < 4 := by simp [dmb] at hd; omega
  have hc2 : ¬ c < 2 := by omega
  have hi : i = 0 := by simp [dmb] at hd; omega
  subst hi
  simp only [cel]
  congr 4
  funext j
  rw [h c 17 j (by simp [owner, hc, hc2])]
theorem cel_indep_33 {cy : Nat → ClassId} {ad : Nat → Nat → Int → Nat} {M M1 : Mem} {c : Nat} {i : Int} (hd : dmb 33 c i = true) (h : ∀ (c1 k1 : Nat) (i1 : Int), owner c1 k1 i1 = (33, c, i) → M1 c1 k1 i1 = M c1 k1 i1) : cel cy ad M1 33 c i = cel cy ad M 33 c i := by
  have hc : 2 ≤ c ∧ c < 4 := by simp [dmb] at hd; omega
  have hc2 : ¬ c < 2 := by omega
  have hi : i = 0 := by simp [dmb] at hd; omega
  subst hi
  simp only [cel]
  congr 4
  funext j
  rw [h c 18 j (by simp [owner, hc, hc2])]
theorem cel_indep_34 {cy : Nat → ClassId} {ad : Nat → Nat → Int → Nat} {M M1 : Mem} {c : Nat} {i : Int} (hd : dmb 34 c i = true) (h : ∀ (c1 k1 : Nat) (i1 : Int), owner c1 k1 i1 = (34, c, i) → M1 c1 k1 i1 = M c1 k1 i1) : cel cy ad M1 34 c i = cel cy ad M 34 c i := by
  have hc : 2 ≤ c ∧ c < 4 := by simp [dmb] at hd; omega
  have hc2 : ¬ c < 2 := by omega
  have hi : i = 0 := by simp [dmb] at hd; omega
  subst hi
  simp only [cel]
  congr 4
  funext j
  rw [h c 19 j (by simp [owner, hc, hc2])]
theorem cel_indep_35 {cy : Nat → ClassId} {ad : Nat → Nat → Int → Nat} {M M1 : Mem} {c : Nat} {i : Int} (hd : dmb 35 c i = true) (h : ∀ (c1 k1 : Nat) (i1 : Int), owner c1 k1 i1 = (35, c, i) → M1 c1 k1 i1 = M c1 k1 i1) : cel cy ad M1 35 c i = cel cy ad M 35 c i := by
  have hc : c = 0 := by simp [dmb] at hd; omega
  have hi : i = 0 := by simp [dmb] at hd; omega
  subst hc; subst hi
  simp only [cel]
  congr 5
  funext j
  rw [h 4 1 j (by simp [owner])]
theorem cel_indep {cy : Nat → ClassId} {ad : Nat → Nat → Int → Nat} {M M1 : Mem} {t c : Nat} {i : Int} (hd : dmb t c i = true) (h : ∀ (c1 k1 : Nat) (i1 : Int), owner c1 k1 i1 = (t, c, i) → M1 c1 k1 i1 = M c1 k1 i1) : cel cy ad M1 t c i = cel cy ad M t c i := by
  have ht := (dm_bd hd).1
  have : t = 0 ∨ t = 1 ∨ t = 2 ∨ t = 3 ∨ t = 4 ∨ t = 5 ∨ t = 6 ∨ t = 7 ∨ t = 8 ∨ t = 9 ∨ t = 10 ∨ t = 11 ∨ t = 12 ∨ t = 13 ∨ t = 14 ∨ t = 15 ∨ t = 16 ∨ t = 17 ∨ t = 18 ∨ t = 19 ∨ t = 20 ∨ t = 21 ∨ t = 22 ∨ t = 23 ∨ t = 24 ∨ t = 25 ∨ t = 26 ∨ t = 27 ∨ t = 28 ∨ t = 29 ∨ t = 30 ∨ t = 31 ∨ t = 32 ∨ t = 33 ∨ t = 34 ∨ t = 35 := by omega
  rcases this with rfl | rfl | rfl | rfl | rfl | rfl | rfl | rfl | rfl | rfl | rfl | rfl | rfl | rfl | rfl | rfl | rfl | rfl | rfl | rfl | rfl | rfl | rfl | rfl | rfl | rfl | rfl | rfl | rfl | rfl | rfl | rfl | rfl | rfl | rfl | rfl
  · exact cel_indep_0 hd h
  · exact cel_indep_1 hd h
  · exact cel_indep_2 hd h
  · exact cel_indep_3 hd h
  · exact cel_indep_4 hd h
  · exact cel_indep_5 hd h
  · exact cel_indep_6 hd h
  · exact cel_indep_7 hd h
  · exact cel_indep_8 hd h
  · exact cel_indep_9 hd h
  · exact cel_indep_10 hd h
  · exact cel_indep_11 hd h
  · exact cel_indep_12 hd h
  · exact cel_indep_13 hd h
  · exact cel_indep_14 hd h
  · exact cel_indep_15 hd h
  · exact cel_indep_16 hd h
  · exact cel_indep_17 hd h
  · exact cel_indep_18 hd h
  · exact cel_indep_19 hd h
  · exact cel_indep_20 hd h
  · exact cel_indep_21 hd h
  · exact cel_indep_22 hd h
  · exact cel_indep_23 hd h
  · exact cel_indep_24 hd h
  · exact cel_indep_25 hd h
  · exact cel_indep_26 hd h
  · exact cel_indep_27 hd h
  · exact cel_indep_28 hd h
  · exact cel_indep_29 hd h
  · exact cel_indep_30 hd h
  · exact cel_indep_31 hd h
  · exact cel_indep_32 hd h
  · exact cel_indep_33 hd h
  · exact cel_indep_34 hd h
  · exact cel_indep_35 hd h
theorem ws_at {cy : Nat → ClassId} {ad : Nat → Nat → Int → Nat} (M : Mem) {t c : Nat} {i : Int} (h : dmb t c i = true) : ∃ q0 : Nat, keys[q0]? = some (t, c, i) ∧ (wsOf cy ad M)[q0]? = some (ad t c i, cel cy ad M t c i) := by
  obtain ⟨q0, hq⟩ := List.getElem?_of_mem (mem_keys h)
  exact ⟨q0, hq, by unfold wsOf; rw [List.getElem?_map, hq]; rfl⟩
theorem map_set_nd {α β : Type} {f g : α → β} : ∀ {l : List α}, l.Nodup → ∀ {j : Nat} {a : α}, l[j]? = some a → (∀ b ∈ l, b ≠ a → g b = f b) → (l.map f).set j (g a) = l.map g
  | [], _, j, a, h, _ => by simp at h
  | x :: l, hn, j, a, h, hf => by
    have hn2 := List.nodup_cons.mp hn
    cases j with
    | zero =>
      rw [List.getElem?_cons_zero] at h
      cases h
      simp only [List.map_cons, List.set_cons_zero]
      congr 1
      exact List.map_congr_left fun b hb => (hf b (List.mem_cons_of_mem _ hb) (fun e => hn2.1 (e ▸ hb))).symm
    | succ j =>
      rw [List.getElem?_cons_succ] at h
      have hne : x ≠ a := fun e => hn2.1 (e ▸ List.mem_of_getElem? h)
      simp only [List.map_cons, List.set_cons_succ]
      rw [map_set_nd hn2.2 h (fun b hb hne => hf b (List.mem_cons_of_mem _ hb) hne), hf x List.mem_cons_self hne]
/-- a store: the world of the new memory is the old one with one cell set -/
theorem ws_set {cy : Nat → ClassId} {ad : Nat → Nat → Int → Nat} {M M1 : Mem} {t c : Nat} {i : Int} {q0 : Nat} {e : va_E} (hq : keys[q0]? = some (t, c, i)) (he : cel cy ad M1 t c i = e)
    (h : ∀ (c1 k1 : Nat) (i1 : Int), owner c1 k1 i1 ≠ (t, c, i) → M1 c1 k1 i1 = M c1 k1 i1) : (wsOf cy ad M).set q0 (ad t c i, e) = wsOf cy ad M1 := by
  subst he
  refine map_set_nd (f := fun k : Nat × Nat × Int => (ad k.1 k.2.1 k.2.2, cel cy ad M k.1 k.2.1 k.2.2)) (g := fun k : Nat × Nat × Int => (ad k.1 k.2.1 k.2.2, cel cy ad M1 k.1 k.2.1 k.2.2)) keys_nd (a := (t, c, i)) hq fun b hb hne => ?_
  obtain ⟨t2, c2, i2⟩ := b
  show (_, _) = (_, _)
  rw [cel_indep (of_keys hb) fun c1 k1 i1 ho => h c1 k1 i1 (fun e => hne (by rw [← ho, e]))]
/-- memories that agree where cells are have one world -/
theorem ws_congr {cy : Nat → ClassId} {ad : Nat → Nat → Int → Nat} {M M1 : Mem} (h : ∀ (c1 k1 : Nat) (i1 : Int), owner c1 k1 i1 ∈ keys → M1 c1 k1 i1 = M c1 k1 i1) : wsOf cy ad M1 = wsOf cy ad M := by
  unfold wsOf
  refine List.map_congr_left fun b hb => ?_
  obtain ⟨t2, c2, i2⟩ := b
  show (_, _) = (_, _)
  rw [cel_indep (of_keys hb) fun c1 k1 i1 ho => h c1 k1 i1 (by rw [ho]; exact hb)]
def Inj (ad : Nat → Nat → Int → Nat) : Prop := ∀ (t c : Nat) (i : Int) (t' c' : Nat) (i' : Int), dmb t c i = true → dmb t' c' i' = true → ad t c i = ad t' c' i' → (t, c, i) = (t', c', i')
theorem nd_inj {α : Type} : ∀ {l : List α}, l.Nodup → ∀ {i j : Nat} {a : α}, l[i]? = some a → l[j]? = some a → i = j
  | [], _, i, j, a, h, _ => by simp at h
  | x :: l, hn, i, j, a, h1, h2 => by
    have hn2 := List.nodup_cons.mp hn
    match i, j, h1, h2 with
    | 0, 0, _, _ => rfl
    | 0, j + 1, h1, h2 =>
      rw [List.getElem?_cons_zero] at h1
      rw [List.getElem?_cons_succ] at h2
      cases h1
      exact absurd (List.mem_of_getElem? h2) hn2.1
    | i + 1, 0, h1, h2 =>
      rw [List.getElem?_cons_zero] at h2
      rw [List.getElem?_cons_succ] at h1
      cases h2
      exact absurd (List.mem_of_getElem? h1) hn2.1
    | i + 1, j + 1, h1, h2 =>
      rw [List.getElem?_cons_succ] at h1 h2
      rw [nd_inj hn2.2 h1 h2]
theorem wsD {cy : Nat → ClassId} {ad : Nat → Nat → Int → Nat} {A : Nat → Prop} (hI : Inj ad) (hA : ∀ (t c : Nat) (i : Int), dmb t c i = true → A (ad t c i)) (M : Mem) : va_D A (wsOf cy ad M) := by
  have key : ∀ (k : Nat) (q : Nat × va_E), (wsOf cy ad M)[k]? = some q → ∃ t c i, keys[k]? = some (t, c, i) ∧ q.1 = ad t c i ∧ dmb t c i = true := by
    intro k q h
    unfold wsOf at h
    rw [List.getElem?_map] at h
    cases hk : keys[k]? with
    | none => rw [hk] at h; cases h
    | some b =>
      rw [hk] at h
      obtain ⟨t, c, i⟩ := b
      cases h
      exact ⟨t, c, i, rfl, rfl, of_keys (List.mem_of_getElem? hk)⟩
  refine ⟨fun i j p q hi hj hpq => ?_, fun k q hk => ?_⟩
  · obtain ⟨t, c, x, h1, h2, h3⟩ := key i p hi
    obtain ⟨t', c', x', g1, g2, g3⟩ := key j q hj
    have e := hI t c x t' c' x' h3 g3 (by rw [← h2, ← g2, hpq])
    rw [← e] at g1
    exact nd_inj keys_nd h1 g1
  · obtain ⟨t, c, x, h1, h2, h3⟩ := key k q hk
    rw [h2]
    exact hA t c x h3
/-- the array classes -/
abbrev tyl (cy : Nat → ClassId) : List (ClassId × FieldType) := [(cy 0, .int), (cy 1, .long), (cy 2, .object "CoveSignals$Lantern"), (cy 3, .object "CoveSignals$Watchman"), (cy 4, .object "CoveSignals$Boat")]
end
section
/-! The walk's judgement V: at a pc, over every heap that holds the world of a memory, with these locals and this stack. -/
theorem i32_add (a b : Int) : i32 a + i32 b = i32 (a + b) := (Int32.ofInt_add a b).symm
theorem i32_sub (a b : Int) : i32 a - i32 b = i32 (a - b) := (Int32.ofInt_sub a b).symm
theorem i32_mul (a b : Int) : i32 a * i32 b = i32 (a * b) := (Int32.ofInt_mul a b).symm
theorem i32_neg (a : Int) : -i32 a = i32 (-a) := (Int32.ofInt_neg a).symm
def ir (a : Int) : Prop := -2147483648 ≤ a ∧ a < 2147483648
theorem ir_of {a : Int} (h1 : -2147483648 ≤ a) (h2 : a < 2147483648) : ir a := ⟨h1, h2⟩
theorem i32_T {a : Int} (h : ir a) : (i32 a).toInt = a := Int32.toInt_ofInt_of_le (by have := h.1; omega) (by have := h.2; omega)
theorem i32_lt {a b : Int} (ha : ir a) (hb : ir b) : i32 a < i32 b ↔ a < b := by rw [Int32.lt_iff_toInt_lt, i32_T ha, i32_T hb]
theorem i32_le {a b : Int} (ha : ir a) (hb : ir b) : i32 a ≤ i32 b ↔ a ≤ b := by rw [Int32.le_iff_toInt_le, i32_T ha, i32_T hb]
theorem i32_eq {a b : Int} (ha : ir a) (hb : ir b) : i32 a = i32 b ↔ a = b := by rw [← Int32.toInt_inj, i32_T ha, i32_T hb]
theorem i32_0 : i32 0 = 0 := rfl
theorem i32_eq0 {a : Int} (ha : ir a) : i32 a = 0 ↔ a = 0 := i32_eq ha (b := 0) ⟨by decide, by decide⟩
theorem i32_lt0 {a : Int} (ha : ir a) : i32 a < 0 ↔ a < 0 := i32_lt ha (b := 0) ⟨by decide, by decide⟩
theorem i32_le0 {a : Int} (ha : ir a) : i32 a ≤ 0 ↔ a ≤ 0 := i32_le ha (b := 0) ⟨by decide, by decide⟩
theorem i32_of (x : Int32) : i32 x.toInt = x := Int32.ofInt_toInt x
theorem ir_toInt (x : Int32) : ir x.toInt := ⟨by have := Int32.le_toInt x; omega, by have := Int32.toInt_lt x; omega⟩
theorem i32_div {a b : Int} (h1 : 0 ≤ a) (h2 : a < 2147483648) (h3 : 0 < b) (h4 : b < 2147483648) : i32 a / i32 b = i32 (a / b) := by
  have hb1 : i32 b ≠ -1 := fun h => by
    have := congrArg Int32.toInt h
    rw [i32_T ⟨by omega, by omega⟩] at this
    have h5 : (-1 : Int32).toInt = -1 := by decide
    omega
  have h6 : 0 ≤ a / b := Int.ediv_nonneg h1 (by omega)
  have h7 : a / b ≤ a := Int.ediv_le_self b h1
  rw [← Int32.toInt_inj, Int32.toInt_div_of_ne_right _ _ hb1, i32_T ⟨by omega, by omega⟩, i32_T ⟨by omega, by omega⟩, i32_T ⟨by omega, by omega⟩, Int.tdiv_eq_ediv_of_nonneg h1]
theorem i32_mod {a b : Int} (h1 : 0 ≤ a) (h2 : a < 2147483648) (h3 : 0 < b) (h4 : b < 2147483648) : i32 a % i32 b = i32 (a % b) := by
  have h6 : 0 ≤ a % b := Int.emod_nonneg a (by omega)
  have h7 : a % b < b := Int.emod_lt_of_pos a h3
  rw [← Int32.toInt_inj, Int32.toInt_mod, i32_T ⟨by omega, by omega⟩, i32_T ⟨by omega, by omega⟩, i32_T ⟨by omega, by omega⟩, Int.tmod_eq_emod_of_nonneg h1]
theorem i32_in {a : Int} {n : Nat} (h1 : 0 ≤ a) (h2 : a < n) (hn : n < 2147483648) : vp_in (i32 a) n := vp_in_iff.mpr (by rw [i32_T ⟨by omega, by omega⟩]; omega)
theorem i32_cl {a : Int} (h1 : 0 ≤ a) (h2 : a < 2147483648) : (i32 a).toNatClampNeg = a.toNat := by
  show (i32 a).toInt.toNat = _
  rw [i32_T ⟨by omega, by omega⟩]
theorem i32_clI {a : Int} (h1 : 0 ≤ a) (h2 : a < 2147483648) : (((i32 a).toNatClampNeg : Nat) : Int) = a := by
  rw [i32_cl h1 h2]; omega
def bi (b : Bool) : Int := if b then 1 else 0
theorem bi_ir (b : Bool) : ir (bi b) := by cases b <;> exact ⟨by decide, by decide⟩
theorem bi_t : bi true = 1 := rfl
theorem bi_f : bi false = 0 := rfl
theorem bi_nar (b : Bool) : narrow .boolean (.int (i32 (bi b))) = .int (i32 (bi b)) := by cases b <;> rfl
/-! the tables' words that last -/
def TB : List Cond := lw_tbl.filter goodWord
theorem tb_of {w : Cond} (i : Nat) (h : lw_tbl[i]? = some w) (g : goodWord w = true) : w ∈ TB := List.mem_filter.mpr ⟨List.mem_of_getElem? h, g⟩
theorem tb_tbl {w : Cond} (h : w ∈ TB) : w ∈ lw_tbl := (List.mem_filter.mp h).1
theorem tb_good {big X : List Cond} (hb : ∀ w ∈ TB, w ∈ big) (h : ∀ w ∈ X, w ∈ TB) : GoodIn big X := fun w hw => ⟨hb w (h w hw), good_of_word (List.mem_filter.mp (h w hw)).2⟩
def isNest : Cond → Bool
  | .fieldLinkNest _ _ _ _ _ _ => true
  | .methodLinkNest _ _ _ _ => true
  | _ => false
def NwOK (U : State) : Prop := ∀ w ∈ lw_tbl, isNest w = true → va_Nw w U
theorem NwOK.warm {s U : State} (hW : s.WarmedH U.vm) (h : NwOK s) : NwOK U := by
  intro w hw hn
  have h1 := h w hw hn
  match w, hn, h1 with
  | .fieldLinkNest _ _ _ _ _ _, _, h1 => exact va_Nw.warmF hW h1
  | .methodLinkNest _ _ _ _, _, h1 => exact va_Nw.warmM hW h1
theorem NwOK.same {s U : State} (hv : s.vm = U.vm) (h : NwOK s) : NwOK U := by
  intro w hw hn
  have h1 := h w hw hn
  match w, hn, h1 with
  | .fieldLinkNest _ _ _ _ _ _, _, h1 => exact va_Nw.same rfl hv h1
  | .methodLinkNest _ _ _ _, _, h1 => exact va_Nw.same rfl hv h1
def SrOK (U : State) : Prop := ∀ (o : String) (k : Nat) (tx : String), Cond.stringRef o k tx ∈ lw_tbl → ∃ a, vk_R o k tx a U
theorem SrOK.warm {s U : State} (hW : s.WarmedH U.vm) (h : SrOK s) : SrOK U := fun o k tx hw => (h o k tx hw).imp fun _ h => vk_R.warm hW h
theorem SrOK.same {s U : State} (hv : s.vm = U.vm) (h : SrOK s) : SrOK U := fun o k tx hw => (h o k tx hw).imp fun _ h => vk_R.same hv.symm h
def Kp (cy : Nat → ClassId) (D : va_G) (U : State) : Prop := va_K D vwCl (tyl cy) U ∧ NwOK U
theorem Kp.warm {cy : Nat → ClassId} {D : va_G} {s U : State} (hW : s.WarmedH U.vm) (h : Kp cy D s) : Kp cy D U := ⟨va_K.moved hW.alike h.1, NwOK.warm hW h.2⟩
theorem Kp.same {cy : Nat → ClassId} {D : va_G} {s U : State} (hv : s.vm = U.vm) (h : Kp cy D s) : Kp cy D U := ⟨va_K.moved (by rw [← hv]; exact Vm.Alike.refl s.vm) h.1, NwOK.same hv h.2⟩
/-- the locals, by place -/
def lvh (nL : Nat) (ls : Array Slot) (lv : List (Option Value)) : Prop := ls.size = nL ∧ lv_wf ls ∧ ∀ (i : Nat) (v : Value), lv[i]? = some (some v) → ls[i]? = some (.val v)
def lvl : Nat → List (Option Value) → List (Nat × Value)
  | _, [] => []
  | i, none :: t => lvl (i + 1) t
  | i, some v :: t => (i, v) :: lvl (i + 1) t
theorem lvl_of : ∀ (lv : List (Option Value)) (k i : Nat) (v : Value), lv[i]? = some (some v) → (k + i, v) ∈ lvl k lv
  | [], k, i, v, h => by simp at h
  | none :: t, k, i, v, h => by
    cases i with
    | zero => simp at h
    | succ i =>
      have := lvl_of t (k + 1) i v (by simpa using h)
      rw [show k + 1 + i = k + (i + 1) from by omega] at this
      exact this
  | some x :: t, k, i, v, h => by
    cases i with
    | zero =>
      have e : x = v := by simpa using h
      subst e
      exact List.mem_cons_self
    | succ i =>
      have := lvl_of t (k + 1) i v (by simpa using h)
      rw [show k + 1 + i = k + (i + 1) from by omega] at this
      exact List.mem_cons_of_mem _ this
theorem lvl_to : ∀ (lv : List (Option Value)) (k j : Nat) (v : Value), (j, v) ∈ lvl k lv → ∃ i, j = k + i ∧ lv[i]? = some (some v)
  | [], k, j, v, h => by simp [lvl] at h
  | none :: t, k, j, v, h => by
    obtain ⟨i, h1, h2⟩ := lvl_to t (k + 1) j v h
    exact ⟨i + 1, by omega, by simpa using h2⟩
  | some x :: t, k, j, v, h => by
    rcases List.mem_cons.mp h with h | h
    · cases h
      exact ⟨0, rfl, rfl⟩
    · obtain ⟨i, h1, h2⟩ := lvl_to t (k + 1) j v h
      exact ⟨i + 1, by omega, by simpa using h2⟩
theorem lvh.has {nL : Nat} {ls : Array Slot} {lv : List (Option Value)} (h : lvh nL ls lv) : lv_has ls nL (lvl 0 lv) := ⟨h.1, h.2.1, fun q hq => by
  obtain ⟨i, h1, h2⟩ := lvl_to lv 0 q.1 q.2 hq
  have : q.1 = i := by omega
  rw [this]
  exact h.2.2 i q.2 h2⟩
def okp (lv : List (Option Value)) : Nat → Bool
  | 0 => true
  | i + 1 => match lv[i]? with
    | some (some v) => v.category == 1
    | _ => true
theorem lvh.st1 {nL : Nat} {ls' : Array Slot} {lv lv' : List (Option Value)} {i : Nat} {v : Value} (hs : lv.set i (some v) = lv') (hp : okp lv i = true)
    (h : lv_has ls' nL ((i, v) :: (lvl 0 lv).filter (fun q => !(q.1 == i) && !(q.1 + 1 == i && q.2.category == 2)))) : lvh nL ls' lv' := by
  subst hs
  refine ⟨h.1, h.2.1, fun j w hj => ?_⟩
  by_cases e : j = i
  · subst e
    rw [List.getElem?_set] at hj
    simp only [if_true] at hj
    split at hj
    · cases hj
      exact h.2.2 (j, v) List.mem_cons_self
    · cases hj
  · rw [List.getElem?_set_ne (Ne.symm e)] at hj
    refine h.2.2 (j, w) (List.mem_cons_of_mem _ (List.mem_filter.mpr ⟨by simpa using lvl_of lv 0 j w hj, ?_⟩))
    have h1 : ¬ (j + 1 = i ∧ w.category = 2) := fun ⟨a, b⟩ => by
      subst a
      simp only [okp, hj] at hp
      have : w.category = 1 := by simpa using hp
      omega
    simp only [Bool.and_eq_true, Bool.not_eq_true', beq_eq_false_iff_ne, Bool.and_eq_false_iff]
    refine ⟨e, ?_⟩
    by_cases e2 : j + 1 = i
    · exact Or.inr (fun e3 => h1 ⟨e2, e3⟩)
    · exact Or.inl e2
theorem lvh.st2 {nL : Nat} {ls' : Array Slot} {lv lv' : List (Option Value)} {i : Nat} {v : Value} (hs : (lv.set i (some v)).set (i + 1) none = lv') (hp : okp lv i = true)
    (h : lv_has ls' nL ((i, v) :: (lvl 0 lv).filter (fun q => !(q.1 == i) && (!(q.1 == i + 1) && !(q.1 + 1 == i && q.2.category == 2))))) : lvh nL ls' lv' := by
  subst hs
  refine ⟨h.1, h.2.1, fun j w hj => ?_⟩
  by_cases e0 : j = i + 1
  · subst e0
    rw [List.getElem?_set] at hj
    simp only [if_true] at hj
    split at hj <;> cases hj
  rw [List.getElem?_set_ne (Ne.symm e0)] at hj
  by_cases e : j = i
  · subst e
    rw [List.getElem?_set] at hj
    simp only [if_true] at hj
    split at hj
    · cases hj
      exact h.2.2 (j, v) List.mem_cons_self
    · cases hj
  · rw [List.getElem?_set_ne (Ne.symm e)] at hj
    refine h.2.2 (j, w) (List.mem_cons_of_mem _ (List.mem_filter.mpr ⟨by simpa using lvl_of lv 0 j w hj, ?_⟩))
    have h1 : ¬ (j + 1 = i ∧ w.category = 2) := fun ⟨a, b⟩ => by
      subst a
      simp only [okp, hj] at hp
      have : w.category = 1 := by simpa using hp
      omega
    simp only [Bool.and_eq_true, Bool.not_eq_true', beq_eq_false_iff_ne, Bool.and_eq_false_iff]
    refine ⟨e, e0, ?_⟩
    by_cases e2 : j + 1 = i
    · exact Or.inr (fun e3 => h1 ⟨e2, e3⟩)
    · exact Or.inl e2
/-- fewer known locals -/
theorem lvh.le {nL : Nat} {ls : Array Slot} {lv lv' : List (Option Value)} (h : lvh nL ls lv) (hs : ∀ (i : Nat) (v : Value), lv'[i]? = some (some v) → lv[i]? = some (some v)) : lvh nL ls lv' := ⟨h.1, h.2.1, fun i v hi => h.2.2 i v (hs i v hi)⟩
def lve : List Value → List (Option Value)
  | [] => []
  | v :: vs => if v.category = 2 then some v :: none :: lve vs else some v :: lve vs
theorem lve_mem : ∀ (As : List Value) (k i : Nat) (v : Value), (lve As)[i]? = some (some v) → (k + i, v) ∈ lv_args k As
  | [], k, i, v, h => by simp [lve] at h
  | x :: vs, k, i, v, h => by
    unfold lve at h
    unfold lv_args
    by_cases hc : x.category = 2
    · rw [if_pos hc] at h
      rw [if_pos hc]
      match i, h with
      | 0, h => have e : x = v := by simpa using h
                subst e; exact List.mem_cons_self
      | 1, h => simp at h
      | i + 2, h =>
        have := lve_mem vs (k + 2) i v (by simpa using h)
        rw [show k + 2 + i = k + (i + 2) from by omega] at this
        exact List.mem_cons_of_mem _ this
    · rw [if_neg hc] at h
      rw [if_neg hc]
      match i, h with
      | 0, h => have e : x = v := by simpa using h
                subst e; exact List.mem_cons_self
      | i + 1, h =>
        have := lve_mem vs (k + 1) i v (by simpa using h)
        rw [show k + 1 + i = k + (i + 1) from by omega] at this
        exact List.mem_cons_of_mem _ this
/-- which cells a method may change: the world's, and new ones -/
def Aw (ad : Nat → Nat → Int → Nat) (sz : Nat) : Nat → Prop := fun q => (∃ (t c : Nat) (i : Int), dmb t c i = true ∧ q = ad t c i) ∨ sz ≤ q
def Fx (p : Program) (s : State) (m : MethodId) (args : Array Value) (meth : Method) (c : Code) (own : String) (cc : ByteArray) (nL : Nat) (ret : Option FieldType) (cy : Nat → ClassId) (D : va_G) (ad : Nat → Nat → Int → Nat) (A : Nat → Prop) : Prop :=
  p.tables.exec = Jvm.exec ∧ c.code = cc ∧ c.maxLocals = nL ∧ s.vm.findClass own = some m.cls ∧ meth.sig.returnType = ret ∧ meth.locks = false ∧ (∀ w ∈ TB, w.before args s = true) ∧ Kp cy D s ∧ Inj ad ∧ (∀ (t c : Nat) (i : Int), dmb t c i = true → A (ad t c i)) ∧ ∀ q : Nat, s.heap.size ≤ q → A q
def V (p : Program) (l : Launch) (e : Env) (R : Room) (s : State) (m : MethodId) (args : Array Value) (below : List Frame) (meth : Method) (c : Code) (nL : Nat) (cy : Nat → ClassId) (D : va_G) (ad : Nat → Nat → Int → Nat) (A : Nat → Prop) (kc ks : Nat) (Q : State → Prop) (pc : Nat) (lv : List (Option Value)) (st : List Value) (M : Mem) : Prop :=
  ∀ (H : Heap) (locs : List Loc) (ls : Array Slot), va_P D vwCl (wsOf cy ad M) H → va_S A s.heap H locs → lvh nL ls lv → W p l e R s m args below meth c H locs kc ks Q (F0 m pc ls st)
section VROWS
variable {p : Program} {l : Launch} {e : Env} {R : Room} {s : State} {m : MethodId} {args : Array Value} {below : List Frame} {meth : Method} {c : Code} {nL : Nat} {cy : Nat → ClassId} {D : va_G} {ad : Nat → Nat → Int → Nat} {A : Nat → Prop} {kc ks : Nat} {Q : State → Prop} {pc : Nat} {lv : List (Option Value)} {st : List Value} {M : Mem} {own : String} {cc : ByteArray} {ret : Option FieldType}

theorem r_iconst (F : Fx p s m args meth c own cc nL ret cy D ad A) {n : Int} (d : decode cc pc = .ok (.iconst n, 1)) (k : V p l e R s m args below meth c nL cy D ad A kc ks Q (pc + 1) lv (.int (i32 n) :: st) M) : V p l e R s m args below meth c nL cy D ad A kc ks Q pc lv st M := by
  obtain ⟨hx, hb, hml, hown, hr, hlk, hts, hK, hI, hA1, hA2⟩ := F
  intro H locs ls hP hS hl
  exact lv_iconst (v := i32 n) hx hb d rfl (k H locs ls hP hS hl)
theorem r_bipush (F : Fx p s m args meth c own cc nL ret cy D ad A) {n : Int} (d : decode cc pc = .ok (.bipush n, 2)) (hv : (Int8.ofInt n).toInt32 = i32 n) (k : V p l e R s m args below meth c nL cy D ad A kc ks Q (pc + 2) lv (.int (i32 n) :: st) M) : V p l e R s m args below meth c nL cy D ad A kc ks Q pc lv st M := by
  obtain ⟨hx, hb, hml, hown, hr, hlk, hts, hK, hI, hA1, hA2⟩ := F
  intro H locs ls hP hS hl
  exact lv_bipush (v := i32 n) hx hb d hv (k H locs ls hP hS hl)
theorem r_sipush (F : Fx p s m args meth c own cc nL ret cy D ad A) {n : Int} (d : decode cc pc = .ok (.sipush n, 3)) (hv : (Int16.ofInt n).toInt32 = i32 n) (k : V p l e R s m args below meth c nL cy D ad A kc ks Q (pc + 3) lv (.int (i32 n) :: st) M) : V p l e R s m args below meth c nL cy D ad A kc ks Q pc lv st M := by
  obtain ⟨hx, hb, hml, hown, hr, hlk, hts, hK, hI, hA1, hA2⟩ := F
  intro H locs ls hP hS hl
  exact lv_sipush (v := i32 n) hx hb d hv (k H locs ls hP hS hl)
theorem r_iload_n (F : Fx p s m args meth c own cc nL ret cy D ad A) {k : Fin 4} {i : Nat} {x : Int32} (d : decode cc pc = .ok (.iload_n k, 1)) (hi : (k : Nat) = i) (hv : lv[i]? = some (some (.int x))) (kk : V p l e R s m args below meth c nL cy D ad A kc ks Q (pc + 1) lv (.int x :: st) M) : V p l e R s m args below meth c nL cy D ad A kc ks Q pc lv st M := by
  obtain ⟨hx, hb, hml, hown, hr, hlk, hts, hK, hI, hA1, hA2⟩ := F
  intro H locs ls hP hS hl
  exact lv_iload_n hx hb d hi (hl.2.2 _ _ hv) (kk H locs ls hP hS hl)
theorem r_iload (F : Fx p s m args meth c own cc nL ret cy D ad A) {i : Nat} {x : Int32} (d : decode cc pc = .ok (.iload i, 2)) (hv : lv[i]? = some (some (.int x))) (kk : V p l e R s m args below meth c nL cy D ad A kc ks Q (pc + 2) lv (.int x :: st) M) : V p l e R s m args below meth c nL cy D ad A kc ks Q pc lv st M := by
  obtain ⟨hx, hb, hml, hown, hr, hlk, hts, hK, hI, hA1, hA2⟩ := F
  intro H locs ls hP hS hl
  exact lv_iload hx hb d (hl.2.2 _ _ hv) (kk H locs ls hP hS hl)
theorem r_lload_n (F : Fx p s m args meth c own cc nL ret cy D ad A) {k : Fin 4} {i : Nat} {x : Int64} (d : decode cc pc = .ok (.lload_n k, 1)) (hi : (k : Nat) = i) (hv : lv[i]? = some (some (.long x))) (kk : V p l e R s m args below meth c nL cy D ad A kc ks Q (pc + 1) lv (.long x :: st) M) : V p l e R s m args below meth c nL cy D ad A kc ks Q pc lv st M := by
  obtain ⟨hx, hb, hml, hown, hr, hlk, hts, hK, hI, hA1, hA2⟩ := F
  intro H locs ls hP hS hl
  exact lv_lload_n hx hb d hi (hl.2.2 _ _ hv) (kk H locs ls hP hS hl)
theorem r_lload (F : Fx p s m args meth c own cc nL ret cy D ad A) {i : Nat} {x : Int64} (d : decode cc pc = .ok (.lload i, 2)) (hv : lv[i]? = some (some (.long x))) (kk : V p l e R s m args below meth c nL cy D ad A kc ks Q (pc + 2) lv (.long x :: st) M) : V p l e R s m args below meth c nL cy D ad A kc ks Q pc lv st M := by
  obtain ⟨hx, hb, hml, hown, hr, hlk, hts, hK, hI, hA1, hA2⟩ := F
  intro H locs ls hP hS hl
  exact lv_lload hx hb d (hl.2.2 _ _ hv) (kk H locs ls hP hS hl)
theorem r_dload_n (F : Fx p s m args meth c own cc nL ret cy D ad A) {k : Fin 4} {i : Nat} {x : UInt64} (d : decode cc pc = .ok (.dload_n k, 1)) (hi : (k : Nat) = i) (hv : lv[i]? = some (some (.double x))) (kk : V p l e R s m args below meth c nL cy D ad A kc ks Q (pc + 1) lv (.double x :: st) M) : V p l e R s m args below meth c nL cy D ad A kc ks Q pc lv st M := by
  obtain ⟨hx, hb, hml, hown, hr, hlk, hts, hK, hI, hA1, hA2⟩ := F
  intro H locs ls hP hS hl
  exact lv_dload_n hx hb d hi (hl.2.2 _ _ hv) (kk H locs ls hP hS hl)
theorem r_dload (F : Fx p s m args meth c own cc nL ret cy D ad A) {i : Nat} {x : UInt64} (d : decode cc pc = .ok (.dload i, 2)) (hv : lv[i]? = some (some (.double x))) (kk : V p l e R s m args below meth c nL cy D ad A kc ks Q (pc + 2) lv (.double x :: st) M) : V p l e R s m args below meth c nL cy D ad A kc ks Q pc lv st M := by
  obtain ⟨hx, hb, hml, hown, hr, hlk, hts, hK, hI, hA1, hA2⟩ := F
  intro H locs ls hP hS hl
  exact lv_dload hx hb d (hl.2.2 _ _ hv) (kk H locs ls hP hS hl)
theorem r_aload_n (F : Fx p s m args meth c own cc nL ret cy D ad A) {k : Fin 4} {i : Nat} {x : Nat} (d : decode cc pc = .ok (.aload_n k, 1)) (hi : (k : Nat) = i) (hv : lv[i]? = some (some (.ref x))) (kk : V p l e R s m args below meth c nL cy D ad A kc ks Q (pc + 1) lv (.ref x :: st) M) : V p l e R s m args below meth c nL cy D ad A kc ks Q pc lv st M := by
  obtain ⟨hx, hb, hml, hown, hr, hlk, hts, hK, hI, hA1, hA2⟩ := F
  intro H locs ls hP hS hl
  exact lv_aload_n hx hb d hi (hl.2.2 _ _ hv) (kk H locs ls hP hS hl)
theorem r_aload (F : Fx p s m args meth c own cc nL ret cy D ad A) {i : Nat} {x : Nat} (d : decode cc pc = .ok (.aload i, 2)) (hv : lv[i]? = some (some (.ref x))) (kk : V p l e R s m args below meth c nL cy D ad A kc ks Q (pc + 2) lv (.ref x :: st) M) : V p l e R s m args below meth c nL cy D ad A kc ks Q pc lv st M := by
  obtain ⟨hx, hb, hml, hown, hr, hlk, hts, hK, hI, hA1, hA2⟩ := F
  intro H locs ls hP hS hl
  exact lv_aload hx hb d (hl.2.2 _ _ hv) (kk H locs ls hP hS hl)
theorem r_istore_n (F : Fx p s m args meth c own cc nL ret cy D ad A) {k : Fin 4} {i : Nat} {x : Int32} {lv1 : List (Option Value)} (d : decode cc pc = .ok (.istore_n k, 1)) (hi : (k : Nat) = i) (hn : i < nL) (hs : lv.set i (some (.int x)) = lv1) (hp : okp lv i = true) (kk : V p l e R s m args below meth c nL cy D ad A kc ks Q (pc + 1) lv1 st M) : V p l e R s m args below meth c nL cy D ad A kc ks Q pc lv (.int x :: st) M := by
  obtain ⟨hx, hb, hml, hown, hr, hlk, hts, hK, hI, hA1, hA2⟩ := F
  intro H locs ls hP hS hl
  exact lv_istore_n hx hb d hi hl.has hn rfl (fun ls1 h1 => kk H locs ls1 hP hS (lvh.st1 hs hp h1))
theorem r_istore (F : Fx p s m args meth c own cc nL ret cy D ad A) {i : Nat} {x : Int32} {lv1 : List (Option Value)} (d : decode cc pc = .ok (.istore i, 2)) (hn : i < nL) (hs : lv.set i (some (.int x)) = lv1) (hp : okp lv i = true) (kk : V p l e R s m args below meth c nL cy D ad A kc ks Q (pc + 2) lv1 st M) : V p l e R s m args below meth c nL cy D ad A kc ks Q pc lv (.int x :: st) M := by
  obtain ⟨hx, hb, hml, hown, hr, hlk, hts, hK, hI, hA1, hA2⟩ := F
  intro H locs ls hP hS hl
  exact lv_istore hx hb d hl.has hn rfl (fun ls1 h1 => kk H locs ls1 hP hS (lvh.st1 hs hp h1))
theorem r_astore_n (F : Fx p s m args meth c own cc nL ret cy D ad A) {k : Fin 4} {i : Nat} {x : Nat} {lv1 : List (Option Value)} (d : decode cc pc = .ok (.astore_n k, 1)) (hi : (k : Nat) = i) (hn : i < nL) (hs : lv.set i (some (.ref x)) = lv1) (hp : okp lv i = true) (kk : V p l e R s m args below meth c nL cy D ad A kc ks Q (pc + 1) lv1 st M) : V p l e R s m args below meth c nL cy D ad A kc ks Q pc lv (.ref x :: st) M := by
  obtain ⟨hx, hb, hml, hown, hr, hlk, hts, hK, hI, hA1, hA2⟩ := F
  intro H locs ls hP hS hl
  exact lv_astore_n hx hb d hi hl.has hn rfl (fun ls1 h1 => kk H locs ls1 hP hS (lvh.st1 hs hp h1))
theorem r_astore (F : Fx p s m args meth c own cc nL ret cy D ad A) {i : Nat} {x : Nat} {lv1 : List (Option Value)} (d : decode cc pc = .ok (.astore i, 2)) (hn : i < nL) (hs : lv.set i (some (.ref x)) = lv1) (hp : okp lv i = true) (kk : V p l e R s m args below meth c nL cy D ad A kc ks Q (pc + 2) lv1 st M) : V p l e R s m args below meth c nL cy D ad A kc ks Q pc lv (.ref x :: st) M := by
  obtain ⟨hx, hb, hml, hown, hr, hlk, hts, hK, hI, hA1, hA2⟩ := F
  intro H locs ls hP hS hl
  exact lv_astore hx hb d hl.has hn rfl (fun ls1 h1 => kk H locs ls1 hP hS (lvh.st1 hs hp h1))
theorem r_lstore_n (F : Fx p s m args meth c own cc nL ret cy D ad A) {k : Fin 4} {i : Nat} {x : Int64} {lv1 : List (Option Value)} (d : decode cc pc = .ok (.lstore_n k, 1)) (hi : (k : Nat) = i) (hn : i + 1 < nL) (hs : (lv.set i (some (.long x))).set (i + 1) none = lv1) (hp : okp lv i = true) (kk : V p l e R s m args below meth c nL cy D ad A kc ks Q (pc + 1) lv1 st M) : V p l e R s m args below meth c nL cy D ad A kc ks Q pc lv (.long x :: st) M := by
  obtain ⟨hx, hb, hml, hown, hr, hlk, hts, hK, hI, hA1, hA2⟩ := F
  intro H locs ls hP hS hl
  exact lv_lstore_n hx hb d hi hl.has hn rfl (fun ls1 h1 => kk H locs ls1 hP hS (lvh.st2 hs hp h1))
theorem r_lstore (F : Fx p s m args meth c own cc nL ret cy D ad A) {i : Nat} {x : Int64} {lv1 : List (Option Value)} (d : decode cc pc = .ok (.lstore i, 2)) (hn : i + 1 < nL) (hs : (lv.set i (some (.long x))).set (i + 1) none = lv1) (hp : okp lv i = true) (kk : V p l e R s m args below meth c nL cy D ad A kc ks Q (pc + 2) lv1 st M) : V p l e R s m args below meth c nL cy D ad A kc ks Q pc lv (.long x :: st) M := by
  obtain ⟨hx, hb, hml, hown, hr, hlk, hts, hK, hI, hA1, hA2⟩ := F
  intro H locs ls hP hS hl
  exact lv_lstore hx hb d hl.has hn rfl (fun ls1 h1 => kk H locs ls1 hP hS (lvh.st2 hs hp h1))
theorem r_dstore_n (F : Fx p s m args meth c own cc nL ret cy D ad A) {k : Fin 4} {i : Nat} {x : UInt64} {lv1 : List (Option Value)} (d : decode cc pc = .ok (.dstore_n k, 1)) (hi : (k : Nat) = i) (hn : i + 1 < nL) (hs : (lv.set i (some (.double x))).set (i + 1) none = lv1) (hp : okp lv i = true) (kk : V p l e R s m args below meth c nL cy D ad A kc ks Q (pc + 1) lv1 st M) : V p l e R s m args below meth c nL cy D ad A kc ks Q pc lv (.double x :: st) M := by
  obtain ⟨hx, hb, hml, hown, hr, hlk, hts, hK, hI, hA1, hA2⟩ := F
  intro H locs ls hP hS hl
  exact lv_dstore_n hx hb d hi hl.has hn rfl (fun ls1 h1 => kk H locs ls1 hP hS (lvh.st2 hs hp h1))
theorem r_dstore (F : Fx p s m args meth c own cc nL ret cy D ad A) {i : Nat} {x : UInt64} {lv1 : List (Option Value)} (d : decode cc pc = .ok (.dstore i, 2)) (hn : i + 1 < nL) (hs : (lv.set i (some (.double x))).set (i + 1) none = lv1) (hp : okp lv i = true) (kk : V p l e R s m args below meth c nL cy D ad A kc ks Q (pc + 2) lv1 st M) : V p l e R s m args below meth c nL cy D ad A kc ks Q pc lv (.double x :: st) M := by
  obtain ⟨hx, hb, hml, hown, hr, hlk, hts, hK, hI, hA1, hA2⟩ := F
  intro H locs ls hP hS hl
  exact lv_dstore hx hb d hl.has hn rfl (fun ls1 h1 => kk H locs ls1 hP hS (lvh.st2 hs hp h1))
theorem r_iinc (F : Fx p s m args meth c own cc nL ret cy D ad A) {i : Nat} {n a : Int} {lv1 : List (Option Value)} (d : decode cc pc = .ok (.iinc i n, 3)) (hv : lv[i]? = some (some (.int (i32 a)))) (hn : i < nL) (hs : lv.set i (some (.int (i32 (a + n)))) = lv1) (hp : okp lv i = true) (kk : V p l e R s m args below meth c nL cy D ad A kc ks Q (pc + 3) lv1 st M) : V p l e R s m args below meth c nL cy D ad A kc ks Q pc lv st M := by
  obtain ⟨hx, hb, hml, hown, hr, hlk, hts, hK, hI, hA1, hA2⟩ := F
  intro H locs ls hP hS hl
  have hm : (i, Value.int (i32 a)) ∈ lvl 0 lv := by simpa using lvl_of lv 0 i _ hv
  obtain ⟨q0, hq⟩ := List.getElem?_of_mem hm
  exact lv_iinc (v := i32 (a + n)) hx hb d hl.has (k := q0) hq (by show i32 a + i32 n = _; rw [i32_add]) hn rfl (fun ls1 h1 => kk H locs ls1 hP hS (lvh.st1 hs hp h1))
theorem r_iadd (F : Fx p s m args meth c own cc nL ret cy D ad A) {a b : Int} (d : decode cc pc = .ok (.iadd, 1)) (k : V p l e R s m args below meth c nL cy D ad A kc ks Q (pc + 1) lv (.int (i32 (a + b)) :: st) M) : V p l e R s m args below meth c nL cy D ad A kc ks Q pc lv (.int (i32 b) :: .int (i32 a) :: st) M := by
  obtain ⟨hx, hb, hml, hown, hr, hlk, hts, hK, hI, hA1, hA2⟩ := F
  intro H locs ls hP hS hl
  refine lv_iadd hx hb d ?_
  rw [i32_add]
  exact k H locs ls hP hS hl
theorem r_isub (F : Fx p s m args meth c own cc nL ret cy D ad A) {a b : Int} (d : decode cc pc = .ok (.isub, 1)) (k : V p l e R s m args below meth c nL cy D ad A kc ks Q (pc + 1) lv (.int (i32 (a - b)) :: st) M) : V p l e R s m args below meth c nL cy D ad A kc ks Q pc lv (.int (i32 b) :: .int (i32 a) :: st) M := by
  obtain ⟨hx, hb, hml, hown, hr, hlk, hts, hK, hI, hA1, hA2⟩ := F
  intro H locs ls hP hS hl
  refine lv_isub hx hb d ?_
  rw [i32_sub]
  exact k H locs ls hP hS hl
theorem r_imul (F : Fx p s m args meth c own cc nL ret cy D ad A) {a b : Int} (d : decode cc pc = .ok (.imul, 1)) (k : V p l e R s m args below meth c nL cy D ad A kc ks Q (pc + 1) lv (.int (i32 (a * b)) :: st) M) : V p l e R s m args below meth c nL cy D ad A kc ks Q pc lv (.int (i32 b) :: .int (i32 a) :: st) M := by
  obtain ⟨hx, hb, hml, hown, hr, hlk, hts, hK, hI, hA1, hA2⟩ := F
  intro H locs ls hP hS hl
  refine lv_imul hx hb d ?_
  rw [i32_mul]
  exact k H locs ls hP hS hl
theorem r_ineg (F : Fx p s m args meth c own cc nL ret cy D ad A) {a : Int} (d : decode cc pc = .ok (.ineg, 1)) (k : V p l e R s m args below meth c nL cy D ad A kc ks Q (pc + 1) lv (.int (i32 (-a)) :: st) M) : V p l e R s m args below meth c nL cy D ad A kc ks Q pc lv (.int (i32 a) :: st) M := by
  obtain ⟨hx, hb, hml, hown, hr, hlk, hts, hK, hI, hA1, hA2⟩ := F
  intro H locs ls hP hS hl
  refine lv_ineg hx hb d ?_
  first | rw [i32_neg] | (rw [show (0 : Int32) = i32 0 from rfl, i32_sub, show (0 : Int) - a = -a by omega])
  exact k H locs ls hP hS hl
theorem r_idiv (F : Fx p s m args meth c own cc nL ret cy D ad A) {a b : Int} (d : decode cc pc = .ok (.idiv, 1)) (h1 : 0 ≤ a) (h2 : a < 2147483648) (h3 : 0 < b) (h4 : b < 2147483648) (k : V p l e R s m args below meth c nL cy D ad A kc ks Q (pc + 1) lv (.int (i32 (a / b)) :: st) M) : V p l e R s m args below meth c nL cy D ad A kc ks Q pc lv (.int (i32 b) :: .int (i32 a) :: st) M := by
  obtain ⟨hx, hb, hml, hown, hr, hlk, hts, hK, hI, hA1, hA2⟩ := F
  intro H locs ls hP hS hl
  refine lv_idiv hx hb d (fun h => by have := (i32_eq0 ⟨by omega, by omega⟩).mp h; omega) ?_
  rw [i32_div h1 h2 h3 h4]
  exact k H locs ls hP hS hl
theorem r_irem (F : Fx p s m args meth c own cc nL ret cy D ad A) {a b : Int} (d : decode cc pc = .ok (.irem, 1)) (h1 : 0 ≤ a) (h2 : a < 2147483648) (h3 : 0 < b) (h4 : b < 2147483648) (k : V p l e R s m args below meth c nL cy D ad A kc ks Q (pc + 1) lv (.int (i32 (a % b)) :: st) M) : V p l e R s m args below meth c nL cy D ad A kc ks Q pc lv (.int (i32 b) :: .int (i32 a) :: st) M := by
  obtain ⟨hx, hb, hml, hown, hr, hlk, hts, hK, hI, hA1, hA2⟩ := F
  intro H locs ls hP hS hl
  refine lv_irem hx hb d (fun h => by have := (i32_eq0 ⟨by omega, by omega⟩).mp h; omega) ?_
  first | rw [i32_mod h1 h2 h3 h4] | (rw [irem_eq_mod, i32_mod h1 h2 h3 h4])
  exact k H locs ls hP hS hl
theorem r_icmp_eq (F : Fx p s m args meth c own cc nL ret cy D ad A) {a b off : Int} {tgt : Nat} (d : decode cc pc = .ok (.if_icmp .eq off, 3)) (ht : (pc : Int) + off = (tgt : Int)) (ha : ir a) (hb9 : ir b) (kt : a = b → V p l e R s m args below meth c nL cy D ad A kc ks Q tgt lv st M) (kf : ¬ a = b → V p l e R s m args below meth c nL cy D ad A kc ks Q (pc + 3) lv st M) : V p l e R s m args below meth c nL cy D ad A kc ks Q pc lv (.int (i32 b) :: .int (i32 a) :: st) M := by
  obtain ⟨hx, hb, hml, hown, hr, hlk, hts, hK, hI, hA1, hA2⟩ := F
  intro H locs ls hP hS hl
  have e1 := i32_lt ha hb9
  have e2 := i32_le ha hb9
  have e3 := i32_eq ha hb9
  have e4 := i32_lt hb9 ha
  have e5 := i32_le hb9 ha
  refine lv_icmp_eq hx hb d ht (fun h => kt ?_ H locs ls hP hS hl) (fun h => kf ?_ H locs ls hP hS hl) <;> simp only [ge_iff_le, gt_iff_lt, e1, e2, e3, e4, e5, ne_eq, Decidable.not_not, Int.not_lt, Int.not_le] at h <;> omega
theorem r_if_eq (F : Fx p s m args meth c own cc nL ret cy D ad A) {a off : Int} {tgt : Nat} (d : decode cc pc = .ok (.ifCond .eq off, 3)) (ht : (pc : Int) + off = (tgt : Int)) (ha : ir a) (kt : a = 0 → V p l e R s m args below meth c nL cy D ad A kc ks Q tgt lv st M) (kf : ¬ a = 0 → V p l e R s m args below meth c nL cy D ad A kc ks Q (pc + 3) lv st M) : V p l e R s m args below meth c nL cy D ad A kc ks Q pc lv (.int (i32 a) :: st) M := by
  obtain ⟨hx, hb, hml, hown, hr, hlk, hts, hK, hI, hA1, hA2⟩ := F
  intro H locs ls hP hS hl
  have hb9 : ir 0 := ⟨by decide, by decide⟩
  have e1 := i32_lt ha hb9
  have e2 := i32_le ha hb9
  have e3 := i32_eq ha hb9
  have e4 := i32_lt hb9 ha
  have e5 := i32_le hb9 ha
  rw [i32_0] at e1 e2 e3 e4 e5
  refine lv_if_eq hx hb d ht (fun h => kt ?_ H locs ls hP hS hl) (fun h => kf ?_ H locs ls hP hS hl) <;> simp only [ge_iff_le, gt_iff_lt, e1, e2, e3, e4, e5, ne_eq, Decidable.not_not, Int.not_lt, Int.not_le] at h <;> omega
theorem r_icmp_ne (F : Fx p s m args meth c own cc nL ret cy D ad A) {a b off : Int} {tgt : Nat} (d : decode cc pc = .ok (.if_icmp .ne off, 3)) (ht : (pc : Int) + off = (tgt : Int)) (ha : ir a) (hb9 : ir b) (kt : ¬ a = b → V p l e R s m args below meth c nL cy D ad A kc ks Q tgt lv st M) (kf : a = b → V p l e R s m args below meth c nL cy D ad A kc ks Q (pc + 3) lv st M) : V p l e R s m args below meth c nL cy D ad A kc ks Q pc lv (.int (i32 b) :: .int (i32 a) :: st) M := by
  obtain ⟨hx, hb, hml, hown, hr, hlk, hts, hK, hI, hA1, hA2⟩ := F
  intro H locs ls hP hS hl
  have e1 := i32_lt ha hb9
  have e2 := i32_le ha hb9
  have e3 := i32_eq ha hb9
  have e4 := i32_lt hb9 ha
  have e5 := i32_le hb9 ha
  refine lv_icmp_ne hx hb d ht (fun h => kt ?_ H locs ls hP hS hl) (fun h => kf ?_ H locs ls hP hS hl) <;> simp only [ge_iff_le, gt_iff_lt, e1, e2, e3, e4, e5, ne_eq, Decidable.not_not, Int.not_lt, Int.not_le] at h <;> omega
theorem r_if_ne (F : Fx p s m args meth c own cc nL ret cy D ad A) {a off : Int} {tgt : Nat} (d : decode cc pc = .ok (.ifCond .ne off, 3)) (ht : (pc : Int) + off = (tgt : Int)) (ha : ir a) (kt : ¬ a = 0 → V p l e R s m args below meth c nL cy D ad A kc ks Q tgt lv st M) (kf : a = 0 → V p l e R s m args below meth c nL cy D ad A kc ks Q (pc + 3) lv st M) : V p l e R s m args below meth c nL cy D ad A kc ks Q pc lv (.int (i32 a) :: st) M := by
  obtain ⟨hx, hb, hml, hown, hr, hlk, hts, hK, hI, hA1, hA2⟩ := F
  intro H locs ls hP hS hl
  have hb9 : ir 0 := ⟨by decide, by decide⟩
  have e1 := i32_lt ha hb9
  have e2 := i32_le ha hb9
  have e3 := i32_eq ha hb9
  have e4 := i32_lt hb9 ha
  have e5 := i32_le hb9 ha
  rw [i32_0] at e1 e2 e3 e4 e5
  refine lv_if_ne hx hb d ht (fun h => kt ?_ H locs ls hP hS hl) (fun h => kf ?_ H locs ls hP hS hl) <;> simp only [ge_iff_le, gt_iff_lt, e1, e2, e3, e4, e5, ne_eq, Decidable.not_not, Int.not_lt, Int.not_le] at h <;> omega
theorem r_icmp_lt (F : Fx p s m args meth c own cc nL ret cy D ad A) {a b off : Int} {tgt : Nat} (d : decode cc pc = .ok (.if_icmp .lt off, 3)) (ht : (pc : Int) + off = (tgt : Int)) (ha : ir a) (hb9 : ir b) (kt : a < b → V p l e R s m args below meth c nL cy D ad A kc ks Q tgt lv st M) (kf : b ≤ a → V p l e R s m args below meth c nL cy D ad A kc ks Q (pc + 3) lv st M) : V p l e R s m args below meth c nL cy D ad A kc ks Q pc lv (.int (i32 b) :: .int (i32 a) :: st) M := by
  obtain ⟨hx, hb, hml, hown, hr, hlk, hts, hK, hI, hA1, hA2⟩ := F
  intro H locs ls hP hS hl
  have e1 := i32_lt ha hb9
  have e2 := i32_le ha hb9
  have e3 := i32_eq ha hb9
  have e4 := i32_lt hb9 ha
  have e5 := i32_le hb9 ha
  refine lv_icmp_lt hx hb d ht (fun h => kt ?_ H locs ls hP hS hl) (fun h => kf ?_ H locs ls hP hS hl) <;> simp only [ge_iff_le, gt_iff_lt, e1, e2, e3, e4, e5, ne_eq, Decidable.not_not, Int.not_lt, Int.not_le] at h <;> omega
theorem r_if_lt (F : Fx p s m args meth c own cc nL ret cy D ad A) {a off : Int} {tgt : Nat} (d : decode cc pc = .ok (.ifCond .lt off, 3)) (ht : (pc : Int) + off = (tgt : Int)) (ha : ir a) (kt : a < 0 → V p l e R s m args below meth c nL cy D ad A kc ks Q tgt lv st M) (kf : 0 ≤ a → V p l e R s m args below meth c nL cy D ad A kc ks Q (pc + 3) lv st M) : V p l e R s m args below meth c nL cy D ad A kc ks Q pc lv (.int (i32 a) :: st) M := by
  obtain ⟨hx, hb, hml, hown, hr, hlk, hts, hK, hI, hA1, hA2⟩ := F
  intro H locs ls hP hS hl
  have hb9 : ir 0 := ⟨by decide, by decide⟩
  have e1 := i32_lt ha hb9
  have e2 := i32_le ha hb9
  have e3 := i32_eq ha hb9
  have e4 := i32_lt hb9 ha
  have e5 := i32_le hb9 ha
  rw [i32_0] at e1 e2 e3 e4 e5
  refine lv_if_lt hx hb d ht (fun h => kt ?_ H locs ls hP hS hl) (fun h => kf ?_ H locs ls hP hS hl) <;> simp only [ge_iff_le, gt_iff_lt, e1, e2, e3, e4, e5, ne_eq, Decidable.not_not, Int.not_lt, Int.not_le] at h <;> omega
theorem r_icmp_ge (F : Fx p s m args meth c own cc nL ret cy D ad A) {a b off : Int} {tgt : Nat} (d : decode cc pc = .ok (.if_icmp .ge off, 3)) (ht : (pc : Int) + off = (tgt : Int)) (ha : ir a) (hb9 : ir b) (kt : b ≤ a → V p l e R s m args below meth c nL cy D ad A kc ks Q tgt lv st M) (kf : a < b → V p l e R s m args below meth c nL cy D ad A kc ks Q (pc + 3) lv st M) : V p l e R s m args below meth c nL cy D ad A kc ks Q pc lv (.int (i32 b) :: .int (i32 a) :: st) M := by
  obtain ⟨hx, hb, hml, hown, hr, hlk, hts, hK, hI, hA1, hA2⟩ := F
  intro H locs ls hP hS hl
  have e1 := i32_lt ha hb9
  have e2 := i32_le ha hb9
  have e3 := i32_eq ha hb9
  have e4 := i32_lt hb9 ha
  have e5 := i32_le hb9 ha
  refine lv_icmp_ge hx hb d ht (fun h => kt ?_ H locs ls hP hS hl) (fun h => kf ?_ H locs ls hP hS hl) <;> simp only [ge_iff_le, gt_iff_lt, e1, e2, e3, e4, e5, ne_eq, Decidable.not_not, Int.not_lt, Int.not_le] at h <;> omega
theorem r_if_ge (F : Fx p s m args meth c own cc nL ret cy D ad A) {a off : Int} {tgt : Nat} (d : decode cc pc = .ok (.ifCond .ge off, 3)) (ht : (pc : Int) + off = (tgt : Int)) (ha : ir a) (kt : 0 ≤ a → V p l e R s m args below meth c nL cy D ad A kc ks Q tgt lv st M) (kf : a < 0 → V p l e R s m args below meth c nL cy D ad A kc ks Q (pc + 3) lv st M) : V p l e R s m args below meth c nL cy D ad A kc ks Q pc lv (.int (i32 a) :: st) M := by
  obtain ⟨hx, hb, hml, hown, hr, hlk, hts, hK, hI, hA1, hA2⟩ := F
  intro H locs ls hP hS hl
  have hb9 : ir 0 := ⟨by decide, by decide⟩
  have e1 := i32_lt ha hb9
  have e2 := i32_le ha hb9
  have e3 := i32_eq ha hb9
  have e4 := i32_lt hb9 ha
  have e5 := i32_le hb9 ha
  rw [i32_0] at e1 e2 e3 e4 e5
  refine lv_if_ge hx hb d ht (fun h => kt ?_ H locs ls hP hS hl) (fun h => kf ?_ H locs ls hP hS hl) <;> simp only [ge_iff_le, gt_iff_lt, e1, e2, e3, e4, e5, ne_eq, Decidable.not_not, Int.not_lt, Int.not_le] at h <;> omega
theorem r_icmp_gt (F : Fx p s m args meth c own cc nL ret cy D ad A) {a b off : Int} {tgt : Nat} (d : decode cc pc = .ok (.if_icmp .gt off, 3)) (ht : (pc : Int) + off = (tgt : Int)) (ha : ir a) (hb9 : ir b) (kt : b < a → V p l e R s m args below meth c nL cy D ad A kc ks Q tgt lv st M) (kf : a ≤ b → V p l e R s m args below meth c nL cy D ad A kc ks Q (pc + 3) lv st M) : V p l e R s m args below meth c nL cy D ad A kc ks Q pc lv (.int (i32 b) :: .int (i32 a) :: st) M := by
  obtain ⟨hx, hb, hml, hown, hr, hlk, hts, hK, hI, hA1, hA2⟩ := F
  intro H locs ls hP hS hl
  have e1 := i32_lt ha hb9
  have e2 := i32_le ha hb9
  have e3 := i32_eq ha hb9
  have e4 := i32_lt hb9 ha
  have e5 := i32_le hb9 ha
  refine lv_icmp_gt hx hb d ht (fun h => kt ?_ H locs ls hP hS hl) (fun h => kf ?_ H locs ls hP hS hl) <;> simp only [ge_iff_le, gt_iff_lt, e1, e2, e3, e4, e5, ne_eq, Decidable.not_not, Int.not_lt, Int.not_le] at h <;> omega
theorem r_if_gt (F : Fx p s m args meth c own cc nL ret cy D ad A) {a off : Int} {tgt : Nat} (d : decode cc pc = .ok (.ifCond .gt off, 3)) (ht : (pc : Int) + off = (tgt : Int)) (ha : ir a) (kt : 0 < a → V p l e R s m args below meth c nL cy D ad A kc ks Q tgt lv st M) (kf : a ≤ 0 → V p l e R s m args below meth c nL cy D ad A kc ks Q (pc + 3) lv st M) : V p l e R s m args below meth c nL cy D ad A kc ks Q pc lv (.int (i32 a) :: st) M := by
  obtain ⟨hx, hb, hml, hown, hr, hlk, hts, hK, hI, hA1, hA2⟩ := F
  intro H locs ls hP hS hl
  have hb9 : ir 0 := ⟨by decide, by decide⟩
  have e1 := i32_lt ha hb9
  have e2 := i32_le ha hb9
  have e3 := i32_eq ha hb9
  have e4 := i32_lt hb9 ha
  have e5 := i32_le hb9 ha
  rw [i32_0] at e1 e2 e3 e4 e5
  refine lv_if_gt hx hb d ht (fun h => kt ?_ H locs ls hP hS hl) (fun h => kf ?_ H locs ls hP hS hl) <;> simp only [ge_iff_le, gt_iff_lt, e1, e2, e3, e4, e5, ne_eq, Decidable.not_not, Int.not_lt, Int.not_le] at h <;> omega
theorem r_icmp_le (F : Fx p s m args meth c own cc nL ret cy D ad A) {a b off : Int} {tgt : Nat} (d : decode cc pc = .ok (.if_icmp .le off, 3)) (ht : (pc : Int) + off = (tgt : Int)) (ha : ir a) (hb9 : ir b) (kt : a ≤ b → V p l e R s m args below meth c nL cy D ad A kc ks Q tgt lv st M) (kf : b < a → V p l e R s m args below meth c nL cy D ad A kc ks Q (pc + 3) lv st M) : V p l e R s m args below meth c nL cy D ad A kc ks Q pc lv (.int (i32 b) :: .int (i32 a) :: st) M := by
  obtain ⟨hx, hb, hml, hown, hr, hlk, hts, hK, hI, hA1, hA2⟩ := F
  intro H locs ls hP hS hl
  have e1 := i32_lt ha hb9
  have e2 := i32_le ha hb9
  have e3 := i32_eq ha hb9
  have e4 := i32_lt hb9 ha
  have e5 := i32_le hb9 ha
  refine lv_icmp_le hx hb d ht (fun h => kt ?_ H locs ls hP hS hl) (fun h => kf ?_ H locs ls hP hS hl) <;> simp only [ge_iff_le, gt_iff_lt, e1, e2, e3, e4, e5, ne_eq, Decidable.not_not, Int.not_lt, Int.not_le] at h <;> omega
theorem r_if_le (F : Fx p s m args meth c own cc nL ret cy D ad A) {a off : Int} {tgt : Nat} (d : decode cc pc = .ok (.ifCond .le off, 3)) (ht : (pc : Int) + off = (tgt : Int)) (ha : ir a) (kt : a ≤ 0 → V p l e R s m args below meth c nL cy D ad A kc ks Q tgt lv st M) (kf : 0 < a → V p l e R s m args below meth c nL cy D ad A kc ks Q (pc + 3) lv st M) : V p l e R s m args below meth c nL cy D ad A kc ks Q pc lv (.int (i32 a) :: st) M := by
  obtain ⟨hx, hb, hml, hown, hr, hlk, hts, hK, hI, hA1, hA2⟩ := F
  intro H locs ls hP hS hl
  have hb9 : ir 0 := ⟨by decide, by decide⟩
  have e1 := i32_lt ha hb9
  have e2 := i32_le ha hb9
  have e3 := i32_eq ha hb9
  have e4 := i32_lt hb9 ha
  have e5 := i32_le hb9 ha
  rw [i32_0] at e1 e2 e3 e4 e5
  refine lv_if_le hx hb d ht (fun h => kt ?_ H locs ls hP hS hl) (fun h => kf ?_ H locs ls hP hS hl) <;> simp only [ge_iff_le, gt_iff_lt, e1, e2, e3, e4, e5, ne_eq, Decidable.not_not, Int.not_lt, Int.not_le] at h <;> omega
theorem r_bz_eq (F : Fx p s m args meth c own cc nL ret cy D ad A) {b : Bool} {off : Int} {tgt : Nat} (d : decode cc pc = .ok (.ifCond .eq off, 3)) (ht : (pc : Int) + off = (tgt : Int)) (kt : b = false → V p l e R s m args below meth c nL cy D ad A kc ks Q tgt lv st M) (kf : b = true → V p l e R s m args below meth c nL cy D ad A kc ks Q (pc + 3) lv st M) : V p l e R s m args below meth c nL cy D ad A kc ks Q pc lv (.int (i32 (bi b)) :: st) M := by
  obtain ⟨hx, hb, hml, hown, hr, hlk, hts, hK, hI, hA1, hA2⟩ := F
  intro H locs ls hP hS hl
  refine lv_if_eq hx hb d ht (fun h => kt ?_ H locs ls hP hS hl) (fun h => kf ?_ H locs ls hP hS hl) <;> (cases b <;> first | rfl | (exfalso; revert h; decide))
theorem r_bz_ne (F : Fx p s m args meth c own cc nL ret cy D ad A) {b : Bool} {off : Int} {tgt : Nat} (d : decode cc pc = .ok (.ifCond .ne off, 3)) (ht : (pc : Int) + off = (tgt : Int)) (kt : b = true → V p l e R s m args below meth c nL cy D ad A kc ks Q tgt lv st M) (kf : b = false → V p l e R s m args below meth c nL cy D ad A kc ks Q (pc + 3) lv st M) : V p l e R s m args below meth c nL cy D ad A kc ks Q pc lv (.int (i32 (bi b)) :: st) M := by
  obtain ⟨hx, hb, hml, hown, hr, hlk, hts, hK, hI, hA1, hA2⟩ := F
  intro H locs ls hP hS hl
  refine lv_if_ne hx hb d ht (fun h => kt ?_ H locs ls hP hS hl) (fun h => kf ?_ H locs ls hP hS hl) <;> (cases b <;> first | rfl | (exfalso; revert h; decide))
theorem r_goto (F : Fx p s m args meth c own cc nL ret cy D ad A) {off : Int} {tgt : Nat} (d : decode cc pc = .ok (.goto off, 3)) (ht : (pc : Int) + off = (tgt : Int)) (k : V p l e R s m args below meth c nL cy D ad A kc ks Q tgt lv st M) : V p l e R s m args below meth c nL cy D ad A kc ks Q pc lv st M := by
  obtain ⟨hx, hb, hml, hown, hr, hlk, hts, hK, hI, hA1, hA2⟩ := F
  intro H locs ls hP hS hl
  exact lv_goto hx hb d ht (k H locs ls hP hS hl)
theorem r_dup (F : Fx p s m args meth c own cc nL ret cy D ad A) {v : Value} (d : decode cc pc = .ok (.dup, 1)) (hv : v.category = 1) (k : V p l e R s m args below meth c nL cy D ad A kc ks Q (pc + 1) lv (v :: v :: st) M) : V p l e R s m args below meth c nL cy D ad A kc ks Q pc lv (v :: st) M := by
  obtain ⟨hx, hb, hml, hown, hr, hlk, hts, hK, hI, hA1, hA2⟩ := F
  intro H locs ls hP hS hl
  exact lv_dup hx hb d hv (k H locs ls hP hS hl)
theorem r_dup2 (F : Fx p s m args meth c own cc nL ret cy D ad A) {v v2 : Value} (d : decode cc pc = .ok (.dup2, 1)) (hv : v.category = 1) (hv2 : v2.category = 1) (k : V p l e R s m args below meth c nL cy D ad A kc ks Q (pc + 1) lv (v :: v2 :: v :: v2 :: st) M) : V p l e R s m args below meth c nL cy D ad A kc ks Q pc lv (v :: v2 :: st) M := by
  obtain ⟨hx, hb, hml, hown, hr, hlk, hts, hK, hI, hA1, hA2⟩ := F
  intro H locs ls hP hS hl
  exact lv_dup2_11 hx hb d hv hv2 (k H locs ls hP hS hl)
theorem r_pop (F : Fx p s m args meth c own cc nL ret cy D ad A) {v : Value} (d : decode cc pc = .ok (.pop, 1)) (hv : v.category = 1) (k : V p l e R s m args below meth c nL cy D ad A kc ks Q (pc + 1) lv st M) : V p l e R s m args below meth c nL cy D ad A kc ks Q pc lv (v :: st) M := by
  obtain ⟨hx, hb, hml, hown, hr, hlk, hts, hK, hI, hA1, hA2⟩ := F
  intro H locs ls hP hS hl
  exact lv_pop hx hb d hv (k H locs ls hP hS hl)
theorem r_swIn (F : Fx p s m args meth c own cc nL ret cy D ad A) {dflt lo hi : Int} {offs : Array Int} {len : Nat} {a off : Int} {tgt : Nat} (d : decode cc pc = .ok (.tableswitch dflt lo hi offs, len)) (ha : ir a) (h1 : lo ≤ a) (h2 : a ≤ hi) (ho : offs[(a - lo).toNat]? = some off) (ht : (pc : Int) + off = (tgt : Int)) (k : V p l e R s m args below meth c nL cy D ad A kc ks Q tgt lv st M) : V p l e R s m args below meth c nL cy D ad A kc ks Q pc lv (.int (i32 a) :: st) M := by
  obtain ⟨hx, hb, hml, hown, hr, hlk, hts, hK, hI, hA1, hA2⟩ := F
  intro H locs ls hP hS hl
  exact lv_tableIn hx hb d (by rw [i32_T ha]; omega) (by rw [i32_T ha]; omega) (by rw [i32_T ha]; exact ho) ht (k H locs ls hP hS hl)
theorem r_swOut (F : Fx p s m args meth c own cc nL ret cy D ad A) {dflt lo hi : Int} {offs : Array Int} {len : Nat} {a : Int} {tgt : Nat} (d : decode cc pc = .ok (.tableswitch dflt lo hi offs, len)) (ha : ir a) (h : a < lo ∨ hi < a) (ht : (pc : Int) + dflt = (tgt : Int)) (k : V p l e R s m args below meth c nL cy D ad A kc ks Q tgt lv st M) : V p l e R s m args below meth c nL cy D ad A kc ks Q pc lv (.int (i32 a) :: st) M := by
  obtain ⟨hx, hb, hml, hown, hr, hlk, hts, hK, hI, hA1, hA2⟩ := F
  intro H locs ls hP hS hl
  exact lv_tableOut hx hb d (by rw [i32_T ha]; exact h) ht (k H locs ls hP hS hl)
theorem r_i2l (F : Fx p s m args meth c own cc nL ret cy D ad A) {x : Int32} (d : decode cc pc = .ok (.i2l, 1)) (k : V p l e R s m args below meth c nL cy D ad A kc ks Q (pc + 1) lv (.long x.toInt64 :: st) M) : V p l e R s m args below meth c nL cy D ad A kc ks Q pc lv (.int x :: st) M := by
  obtain ⟨hx, hb, hml, hown, hr, hlk, hts, hK, hI, hA1, hA2⟩ := F
  intro H locs ls hP hS hl
  exact lv_i2l hx hb d rfl (k H locs ls hP hS hl)
theorem r_ladd (F : Fx p s m args meth c own cc nL ret cy D ad A) {x y : Int64} (d : decode cc pc = .ok (.ladd, 1)) (k : V p l e R s m args below meth c nL cy D ad A kc ks Q (pc + 1) lv (.long (x + y) :: st) M) : V p l e R s m args below meth c nL cy D ad A kc ks Q pc lv (.long y :: .long x :: st) M := by
  obtain ⟨hx, hb, hml, hown, hr, hlk, hts, hK, hI, hA1, hA2⟩ := F
  intro H locs ls hP hS hl
  exact lv_ladd hx hb d (k H locs ls hP hS hl)
theorem r_lmul (F : Fx p s m args meth c own cc nL ret cy D ad A) {x y : Int64} (d : decode cc pc = .ok (.lmul, 1)) (k : V p l e R s m args below meth c nL cy D ad A kc ks Q (pc + 1) lv (.long (x * y) :: st) M) : V p l e R s m args below meth c nL cy D ad A kc ks Q pc lv (.long y :: .long x :: st) M := by
  obtain ⟨hx, hb, hml, hown, hr, hlk, hts, hK, hI, hA1, hA2⟩ := F
  intro H locs ls hP hS hl
  exact lv_lmul hx hb d (k H locs ls hP hS hl)
theorem r_ldc2 (F : Fx p s m args meth c own cc nL ret cy D ad A) {index : Nat} {v : Int64} (d : decode cc pc = .ok (.ldc2_w index, 3)) (hc : Jvm.Cond.constantLong own index v ∈ TB) (k : V p l e R s m args below meth c nL cy D ad A kc ks Q (pc + 3) lv (.long v :: st) M) : V p l e R s m args below meth c nL cy D ad A kc ks Q pc lv st M := by
  obtain ⟨hx, hb, hml, hown, hr, hlk, hts, hK, hI, hA1, hA2⟩ := F
  intro H locs ls hP hS hl
  exact lv_ldc2 hx hb hown (hts _ hc) d (k H locs ls hP hS hl)
theorem r_getF (F : Fx p s m args meth c own cc nL ret cy D ad A) {t cc1 : Nat} {i : Int} {C : String} {T : u_T} {N ci index : Nat} {fs : List Value} {k : Nat} {v : Value} (d : decode cc pc = .ok (.getfield index, 3)) (hk : dmb t cc1 i = true) (hcel : cel cy ad M t cc1 i = .inr (ci, fs)) (hc : vwCl[ci]? = some (C, T, N)) (hkN : k < N) (hin : ∀ w ∈ u_ws C T N, w ∈ TB) (hlk9 : Cond.fieldLink own index (T k).1 (T k).2.1 (T k).2.2.1 ∈ TB) (hv : fs[k]? = some v) (kk : V p l e R s m args below meth c nL cy D ad A kc ks Q (pc + 3) lv (v :: st) M) : V p l e R s m args below meth c nL cy D ad A kc ks Q pc lv (.ref (ad t cc1 i) :: st) M := by
  obtain ⟨hx, hb, hml, hown, hr, hlk, hts, hK, hI, hA1, hA2⟩ := F
  intro H locs ls hP hS hl
  obtain ⟨q0, hq, hw⟩ := ws_at (cy := cy) (ad := ad) M hk
  exact va_get hx hb hts hin hown hK.1 hP q0 (by rw [hw, hcel]) hc k hkN (hts _ hlk9) (fun _ h => h) hv d (kk H locs ls hP hS hl)
theorem r_getN (F : Fx p s m args meth c own cc nL ret cy D ad A) {t cc1 : Nat} {i : Int} {C host : String} {T : u_T} {N ci index : Nat} {fs : List Value} {k : Nat} {v : Value} (d : decode cc pc = .ok (.getfield index, 3)) (hk : dmb t cc1 i = true) (hcel : cel cy ad M t cc1 i = .inr (ci, fs)) (hc : vwCl[ci]? = some (C, T, N)) (hkN : k < N) (hin : ∀ w ∈ u_ws C T N, w ∈ TB) (hlk9 : Cond.fieldLinkNest own index (T k).1 (T k).2.1 (T k).2.2.1 host ∈ lw_tbl) (hv : fs[k]? = some v) (kk : V p l e R s m args below meth c nL cy D ad A kc ks Q (pc + 3) lv (v :: st) M) : V p l e R s m args below meth c nL cy D ad A kc ks Q pc lv (.ref (ad t cc1 i) :: st) M := by
  obtain ⟨hx, hb, hml, hown, hr, hlk, hts, hK, hI, hA1, hA2⟩ := F
  intro H locs ls hP hS hl
  obtain ⟨q0, hq, hw⟩ := ws_at (cy := cy) (ad := ad) M hk
  exact va_getN hx hb hts hin hown hK.1 hP q0 (by rw [hw, hcel]) hc k hkN (va_Nw.use rfl (hK.2 _ hlk9 rfl)) (fun _ h => h) hv d (kk H locs ls hP hS hl)
theorem r_putF (F : Fx p s m args meth c own cc nL ret cy D ad A) {t cc1 : Nat} {i : Int} {C : String} {T : u_T} {N ci index : Nat} {fs : List Value} {k : Nat} {v : Value} {M1 : Mem} {ty : FieldType} (d : decode cc pc = .ok (.putfield index, 3)) (hk : dmb t cc1 i = true) (hcel : cel cy ad M t cc1 i = .inr (ci, fs)) (hc : vwCl[ci]? = some (C, T, N)) (hlen : fs.length = N) (hkN : k < N) (hin : ∀ w ∈ u_ws C T N, w ∈ TB) (ty0 : Nat → FieldType) (hty : ∀ k, k < N → parseFieldDescriptor (T k).2.2.1 = some (ty0 k)) (hnm : ∀ a, a < N → ∀ b, b < N → a ≠ b → (T a).2.1 ≠ (T b).2.1) (hlk9 : Cond.fieldLink own index (T k).1 (T k).2.1 (T k).2.2.1 ∈ TB) (hfin : (T k).2.2.2 = false) (hd : parseFieldDescriptor (T k).2.2.1 = some ty) (hn : narrow ty v = v) (hfit : fits ty v = true) (hcel1 : cel cy ad M1 t cc1 i = .inr (ci, fs.set k v)) (hoth : ∀ (c1 k1 : Nat) (i1 : Int), owner c1 k1 i1 ≠ (t, cc1, i) → M1 c1 k1 i1 = M c1 k1 i1) (kk : V p l e R s m args below meth c nL cy D ad A kc ks Q (pc + 3) lv st M1) : V p l e R s m args below meth c nL cy D ad A kc ks Q pc lv (v :: .ref (ad t cc1 i) :: st) M := by
  obtain ⟨hx, hb, hml, hown, hr, hlk, hts, hK, hI, hA1, hA2⟩ := F
  intro H locs ls hP hS hl
  obtain ⟨q0, hq, hw⟩ := ws_at (cy := cy) (ad := ad) M hk
  refine va_put hx hb hts hin ty0 hty hnm hown hK.1 hP (wsD hI hA1 M) hS q0 (by rw [hw, hcel]) hc k hkN (hts _ hlk9) (fun _ h => h) hfin hd hn hfit (by rw [hlen]; exact hkN) d (fun H1 locs1 hP1 hD1 hS1 => ?_)
  rw [ws_set hq hcel1 hoth] at hP1
  exact kk H1 locs1 ls hP1 hS1 hl
theorem r_putN (F : Fx p s m args meth c own cc nL ret cy D ad A) {t cc1 : Nat} {i : Int} {C : String} {T : u_T} {N ci index : Nat} {fs : List Value} {k : Nat} {v : Value} {M1 : Mem} {ty : FieldType} (d : decode cc pc = .ok (.putfield index, 3)) (hk : dmb t cc1 i = true) (hcel : cel cy ad M t cc1 i = .inr (ci, fs)) (hc : vwCl[ci]? = some (C, T, N)) (hlen : fs.length = N) (hkN : k < N) (hin : ∀ w ∈ u_ws C T N, w ∈ TB) (ty0 : Nat → FieldType) (hty : ∀ k, k < N → parseFieldDescriptor (T k).2.2.1 = some (ty0 k)) (hnm : ∀ a, a < N → ∀ b, b < N → a ≠ b → (T a).2.1 ≠ (T b).2.1) {host : String} (hlk9 : Cond.fieldLinkNest own index (T k).1 (T k).2.1 (T k).2.2.1 host ∈ lw_tbl) (hfin : (T k).2.2.2 = false) (hd : parseFieldDescriptor (T k).2.2.1 = some ty) (hn : narrow ty v = v) (hfit : fits ty v = true) (hcel1 : cel cy ad M1 t cc1 i = .inr (ci, fs.set k v)) (hoth : ∀ (c1 k1 : Nat) (i1 : Int), owner c1 k1 i1 ≠ (t, cc1, i) → M1 c1 k1 i1 = M c1 k1 i1) (kk : V p l e R s m args below meth c nL cy D ad A kc ks Q (pc + 3) lv st M1) : V p l e R s m args below meth c nL cy D ad A kc ks Q pc lv (v :: .ref (ad t cc1 i) :: st) M := by
  obtain ⟨hx, hb, hml, hown, hr, hlk, hts, hK, hI, hA1, hA2⟩ := F
  intro H locs ls hP hS hl
  obtain ⟨q0, hq, hw⟩ := ws_at (cy := cy) (ad := ad) M hk
  refine va_putN hx hb hts hin ty0 hty hnm hown hK.1 hP (wsD hI hA1 M) hS q0 (by rw [hw, hcel]) hc k hkN (va_Nw.use rfl (hK.2 _ hlk9 rfl)) (fun _ h => h) hfin hd hn hfit (by rw [hlen]; exact hkN) d (fun H1 locs1 hP1 hD1 hS1 => ?_)
  rw [ws_set hq hcel1 hoth] at hP1
  exact kk H1 locs1 ls hP1 hS1 hl
theorem r_iald (F : Fx p s m args meth c own cc nL ret cy D ad A) {t cc1 : Nat} {i a : Int} {n : Nat} {f : Nat → Int32} {v : Int} (d : decode cc pc = .ok (.iaload, 1)) (hk : dmb t cc1 i = true) (hcel : cel cy ad M t cc1 i = .inl (cy 0, n, .inl f)) (h1 : 0 ≤ a) (h2 : a < n) (hn : n < 2147483648) (hv : f a.toNat = i32 v) (kk : V p l e R s m args below meth c nL cy D ad A kc ks Q (pc + 1) lv (.int (i32 v) :: st) M) : V p l e R s m args below meth c nL cy D ad A kc ks Q pc lv (.int (i32 a) :: .ref (ad t cc1 i) :: st) M := by
  obtain ⟨hx, hb, hml, hown, hr, hlk, hts, hK, hI, hA1, hA2⟩ := F
  intro H locs ls hP hS hl
  obtain ⟨q0, hq, hw⟩ := ws_at (cy := cy) (ad := ad) M hk
  refine va_iald hx hb hK.1 hP q0 0 (by rw [hw, hcel]) rfl (i32_in h1 h2 hn) d ?_
  rw [i32_cl h1 (by omega), hv]
  exact kk H locs ls hP hS hl
theorem r_iast (F : Fx p s m args meth c own cc nL ret cy D ad A) {t cc1 : Nat} {i a : Int} {n : Nat} {f : Nat → Int32} {x : Int32} {M1 : Mem} (d : decode cc pc = .ok (.iastore, 1)) (hk : dmb t cc1 i = true) (hcel : cel cy ad M t cc1 i = .inl (cy 0, n, .inl f)) (h1 : 0 ≤ a) (h2 : a < n) (hn : n < 2147483648) (hcel1 : cel cy ad M1 t cc1 i = .inl (cy 0, n, .inl (upd f a.toNat x))) (hoth : ∀ (c1 k1 : Nat) (i1 : Int), owner c1 k1 i1 ≠ (t, cc1, i) → M1 c1 k1 i1 = M c1 k1 i1) (kk : V p l e R s m args below meth c nL cy D ad A kc ks Q (pc + 1) lv st M1) : V p l e R s m args below meth c nL cy D ad A kc ks Q pc lv (.int x :: .int (i32 a) :: .ref (ad t cc1 i) :: st) M := by
  obtain ⟨hx, hb, hml, hown, hr, hlk, hts, hK, hI, hA1, hA2⟩ := F
  intro H locs ls hP hS hl
  obtain ⟨q0, hq, hw⟩ := ws_at (cy := cy) (ad := ad) M hk
  refine va_iast hx hb hK.1 hP (wsD hI hA1 M) hS q0 0 (by rw [hw, hcel]) rfl (i32_in h1 h2 hn) d (fun H1 locs1 hP1 hD1 hS1 => ?_)
  rw [i32_cl h1 (by omega), ws_set hq hcel1 hoth] at hP1
  exact kk H1 locs1 ls hP1 hS1 hl
theorem r_lald (F : Fx p s m args meth c own cc nL ret cy D ad A) {t cc1 : Nat} {i a : Int} {n : Nat} {f : Nat → Int64} (d : decode cc pc = .ok (.laload, 1)) (hk : dmb t cc1 i = true) (hcel : cel cy ad M t cc1 i = .inl (cy 1, n, .inr (.inl f))) (h1 : 0 ≤ a) (h2 : a < n) (hn : n < 2147483648) (kk : V p l e R s m args below meth c nL cy D ad A kc ks Q (pc + 1) lv (.long (f a.toNat) :: st) M) : V p l e R s m args below meth c nL cy D ad A kc ks Q pc lv (.int (i32 a) :: .ref (ad t cc1 i) :: st) M := by
  obtain ⟨hx, hb, hml, hown, hr, hlk, hts, hK, hI, hA1, hA2⟩ := F
  intro H locs ls hP hS hl
  obtain ⟨q0, hq, hw⟩ := ws_at (cy := cy) (ad := ad) M hk
  refine va_lald hx hb hK.1 hP q0 1 (by rw [hw, hcel]) rfl (i32_in h1 h2 hn) d ?_
  rw [i32_cl h1 (by omega)]
  exact kk H locs ls hP hS hl
theorem r_last (F : Fx p s m args meth c own cc nL ret cy D ad A) {t cc1 : Nat} {i a : Int} {n : Nat} {f : Nat → Int64} {x : Int64} {M1 : Mem} (d : decode cc pc = .ok (.lastore, 1)) (hk : dmb t cc1 i = true) (hcel : cel cy ad M t cc1 i = .inl (cy 1, n, .inr (.inl f))) (h1 : 0 ≤ a) (h2 : a < n) (hn : n < 2147483648) (hcel1 : cel cy ad M1 t cc1 i = .inl (cy 1, n, .inr (.inl (vp_updL f a.toNat x)))) (hoth : ∀ (c1 k1 : Nat) (i1 : Int), owner c1 k1 i1 ≠ (t, cc1, i) → M1 c1 k1 i1 = M c1 k1 i1) (kk : V p l e R s m args below meth c nL cy D ad A kc ks Q (pc + 1) lv st M1) : V p l e R s m args below meth c nL cy D ad A kc ks Q pc lv (.long x :: .int (i32 a) :: .ref (ad t cc1 i) :: st) M := by
  obtain ⟨hx, hb, hml, hown, hr, hlk, hts, hK, hI, hA1, hA2⟩ := F
  intro H locs ls hP hS hl
  obtain ⟨q0, hq, hw⟩ := ws_at (cy := cy) (ad := ad) M hk
  refine va_last hx hb hK.1 hP (wsD hI hA1 M) hS q0 1 (by rw [hw, hcel]) rfl (i32_in h1 h2 hn) d (fun H1 locs1 hP1 hD1 hS1 => ?_)
  rw [i32_cl h1 (by omega), ws_set hq hcel1 hoth] at hP1
  exact kk H1 locs1 ls hP1 hS1 hl
theorem r_aald (F : Fx p s m args meth c own cc nL ret cy D ad A) {t cc1 : Nat} {i a : Int} {n tq : Nat} {cA : ClassId} {C : String} {f : Nat → Option Nat} {b : Nat} (d : decode cc pc = .ok (.aaload, 1)) (hk : dmb t cc1 i = true) (hcel : cel cy ad M t cc1 i = .inl (cA, n, .inr (.inr (.inr (.inr f))))) (ht : (tyl cy)[tq]? = some (cA, .object C)) (h1 : 0 ≤ a) (h2 : a < n) (hn : n < 2147483648) (hv : f a.toNat = some b) (kk : V p l e R s m args below meth c nL cy D ad A kc ks Q (pc + 1) lv (.ref b :: st) M) : V p l e R s m args below meth c nL cy D ad A kc ks Q pc lv (.int (i32 a) :: .ref (ad t cc1 i) :: st) M := by
  obtain ⟨hx, hb, hml, hown, hr, hlk, hts, hK, hI, hA1, hA2⟩ := F
  intro H locs ls hP hS hl
  obtain ⟨q0, hq, hw⟩ := ws_at (cy := cy) (ad := ad) M hk
  refine va_aldq hx hb hK.1 hP q0 tq (by rw [hw, hcel]) ht (i32_in h1 h2 hn) d ?_
  rw [i32_cl h1 (by omega), hv]
  exact kk H locs ls hP hS hl
theorem r_alen (F : Fx p s m args meth c own cc nL ret cy D ad A) {t cc1 : Nat} {i : Int} {cA : ClassId} {x : vp_A} {tq : Nat} {ty : FieldType} (d : decode cc pc = .ok (.arraylength, 1)) (hk : dmb t cc1 i = true) (hcel : cel cy ad M t cc1 i = .inl (cA, x)) (ht : (tyl cy)[tq]? = some (cA, ty)) (kk : V p l e R s m args below meth c nL cy D ad A kc ks Q (pc + 1) lv (.int (i32 (x.1 : Int)) :: st) M) : V p l e R s m args below meth c nL cy D ad A kc ks Q pc lv (.ref (ad t cc1 i) :: st) M := by
  obtain ⟨hx, hb, hml, hown, hr, hlk, hts, hK, hI, hA1, hA2⟩ := F
  intro H locs ls hP hS hl
  obtain ⟨q0, hq, hw⟩ := ws_at (cy := cy) (ad := ad) M hk
  exact va_alen hx hb hK.1 hP q0 tq (by rw [hw, hcel]) ht (v := i32 (x.1 : Int)) (by show Int32.ofNat _ = Int32.ofInt _; rw [Int32.ofInt_eq_ofNat]) d (kk H locs ls hP hS hl)
theorem V.mem {M1 : Mem} (h : wsOf cy ad M = wsOf cy ad M1) (k : V p l e R s m args below meth c nL cy D ad A kc ks Q pc lv st M1) : V p l e R s m args below meth c nL cy D ad A kc ks Q pc lv st M := fun H locs ls hP hS hl => k H locs ls (by rw [← h]; exact hP) hS hl
theorem V.loc {lv1 : List (Option Value)} (hs : ∀ (i : Nat) (v : Value), lv1[i]? = some (some v) → lv[i]? = some (some v)) (k : V p l e R s m args below meth c nL cy D ad A kc ks Q pc lv1 st M) : V p l e R s m args below meth c nL cy D ad A kc ks Q pc lv st M := fun H locs ls hP hS hl => k H locs ls hP hS (hl.le hs)
theorem V.wide {kc1 ks1 : Nat} (h1 : kc ≤ kc1) (h2 : ks ≤ ks1) (k : V p l e R s m args below meth c nL cy D ad A kc1 ks1 Q pc lv st M) : V p l e R s m args below meth c nL cy D ad A kc ks Q pc lv st M := fun H locs ls hP hS hl => W.widen h1 h2 (k H locs ls hP hS hl)
end VROWS
end
section
/-! Contracts of methods over the world, their starts, ends and calls. -/
def wsT (y : MethodName) (bytes : ByteArray) (maxL : Nat) (ret : Option FieldType) : List Cond := Cond.code y bytes maxL ret :: TB
def RM (lev : Nat) : Room := { frames := lev, cells := 0, slots := 0, locals := 30 * lev }
def Pn (cy : Nat → ClassId) (D : va_G) (ad : Nat → Nat → Int → Nat) (sz : Nat) (As : List Value) (M : Mem) : Array Value → State → Prop := va_Pc As (fun U => U.heap.size = sz ∧ va_P D vwCl (wsOf cy ad M) U.heap ∧ Kp cy D U ∧ Inj ad)
def Qn (cy : Nat → ClassId) (D : va_G) (ad : Nat → Nat → Int → Nat) (sz : Nat) (r : Option Value) (M : Mem) : Array Value → State → Outcome → State → Prop := fun _ st o t => (o = .returned r ∧ va_P D vwCl (wsOf cy ad M) t.heap) ∧ va_F (Aw ad sz) st t
/-- a method that returns: its answer and the memory behind it -/
def Ct (l : Launch) (cy : Nat → ClassId) (D : va_G) (ad : Nat → Nat → Int → Nat) (y : MethodName) (bytes : ByteArray) (maxL : Nat) (ret : Option FieldType) (lev : Nat) (As : List Value) (M : Mem) (r : Option Value) (M1 : Mem) : Prop :=
  ∀ sz : Nat, Met l y (wsT y bytes maxL ret) (RM lev) (Pn cy D ad sz As M) (Qn cy D ad sz r M1) 0 0 (Aw ad sz)
theorem Pn_blind (cy : Nat → ClassId) (D : va_G) (ad : Nat → Nat → Int → Nat) (sz : Nat) (As : List Value) (M : Mem) : FrameBlind (Pn cy D ad sz As M) := by
  intro a U g mk q
  obtain ⟨q0, q1, q2, q3, q4⟩ := q
  exact ⟨q0, q1, q2, Kp.same (s := U) (U := U.calling g mk a) rfl q3, q4⟩
theorem Ct.mk {l : Launch} {cy : Nat → ClassId} {D : va_G} {ad : Nat → Nat → Int → Nat} {y : MethodName} {bytes : ByteArray} {maxL : Nat} {ret : Option FieldType} {lev : Nat} {As : List Value} {M M1 : Mem} {r : Option Value} {lv : List (Option Value)} (n : Nat)
    (hy : plainName y.cls = true) (hlv : lve As ++ List.replicate n none = lv) (hlen : (lg_sl As).length ≤ maxL)
    (body : ∀ (p : Program) (e : Env) (s : State) (m : MethodId) (below : List Frame) (meth : Method) (c : Code), Fx p s m As.toArray meth c y.cls bytes maxL ret cy D ad (Aw ad s.heap.size) →
      V p l e (RM lev) s m As.toArray below meth c maxL cy D ad (Aw ad s.heap.size) 0 0 (MQ below (Qn cy D ad s.heap.size r M1) As.toArray s 0 0 (Aw ad s.heap.size)) 0 lv [] M) : Ct l cy D ad y bytes maxL ret lev As M r M1 := by
  intro sz
  refine Met.ofW (cc := bytes) (maxL := maxL) (ret := ret) hy rfl ?_
  intro p e s m args below meth c s₁ B hml hv
  obtain ⟨rfl, hsz, hP, hK, hI⟩ := hv
  subst hsz
  have hts : ∀ w ∈ TB, w.before As.toArray s = true := fun w hw => atoms_spec (ws := wsT y bytes maxL ret) B.pre w (List.mem_cons_of_mem _ hw)
  have F : Fx p s m As.toArray meth c y.cls bytes maxL ret cy D ad (Aw ad s.heap.size) := ⟨B.exec, B.bytes, hml, findClass_of_methodNamed B.named, B.returns, B.notSynchronized, hts, hK, hI, fun t c i h => Or.inl ⟨t, c, i, h, rfl⟩, fun q h => Or.inr h⟩
  have hl := lv_entry As (n := maxL) hlen
  rw [lg_entry_eq]
  refine body p e s m below meth c F s.heap [] _ hP va_S.rf ⟨hl.1, hl.2.1, fun i v hi => hl.2.2 (i, v) ?_⟩
  have hi2 : (lve As)[i]? = some (some v) := by
    rw [← hlv] at hi
    by_cases h : i < (lve As).length
    · rw [List.getElem?_append_left h] at hi
      exact hi
    · rw [List.getElem?_append_right (by omega), List.getElem?_replicate] at hi
      split at hi <;> cases hi
  simpa using lve_mem As 0 i v hi2
def LkV (own : String) (index : Nat) (y : MethodName) (n : Nat) : Prop := (Cond.methodLink own index y ∈ TB ∧ Cond.instanceMethod y ∈ TB ∧ Cond.selects y.cls y y ∈ TB ∧ Cond.initialized y.cls ∈ TB) ∧ y.cls ≠ "java/lang/invoke/MethodHandle" ∧ y.cls ≠ "java/lang/invoke/VarHandle" ∧ (parseMethodDescriptor y.desc).map (fun d => d.parameters.length) = some n
def LkS (own : String) (index : Nat) (y : MethodName) (n : Nat) : Prop := (Cond.methodLink own index y ∈ TB ∧ Cond.static y ∈ TB ∧ Cond.initialized y.cls ∈ TB) ∧ y.cls ≠ "java/lang/invoke/MethodHandle" ∧ y.cls ≠ "java/lang/invoke/VarHandle" ∧ (parseMethodDescriptor y.desc).map (fun d => d.parameters.length) = some n
def LkSN (own : String) (index : Nat) (y : MethodName) (host : String) (n : Nat) : Prop := (Cond.methodLinkNest own index y host ∈ lw_tbl ∧ Cond.static y ∈ TB ∧ Cond.initialized y.cls ∈ TB) ∧ y.cls ≠ "java/lang/invoke/MethodHandle" ∧ y.cls ≠ "java/lang/invoke/VarHandle" ∧ (parseMethodDescriptor y.desc).map (fun d => d.parameters.length) = some n
section CALLS
variable {p : Program} {l : Launch} {e : Env} {R : Room} {s : State} {m : MethodId} {args : Array Value} {below : List Frame} {meth : Method} {c : Code} {nL : Nat} {cy : Nat → ClassId} {D : va_G} {ad : Nat → Nat → Int → Nat} {A : Nat → Prop} {kc ks : Nat} {Q : State → Prop} {pc : Nat} {lv : List (Option Value)} {st : List Value} {M : Mem} {own : String} {cc : ByteArray} {ret : Option FieldType}
theorem Aw_sub (hA1 : ∀ (t c : Nat) (i : Int), dmb t c i = true → A (ad t c i)) (hA2 : ∀ q : Nat, s.heap.size ≤ q → A q) {sz : Nat} (h : s.heap.size ≤ sz) : ∀ q, Aw ad sz q → A q := by
  intro q hq
  rcases hq with ⟨t, c, i, h1, h2⟩ | h1
  · rw [h2]; exact hA1 t c i h1
  · exact hA2 q (Nat.le_trans h h1)
theorem r_after {aa : Array Value} {stk : List Value} {r : Option Value} {M1 : Mem} (hA1 : ∀ (t c : Nat) (i : Int), dmb t c i = true → A (ad t c i)) (hA2 : ∀ q : Nat, s.heap.size ≤ q → A q)
    (run : ∀ (H : Heap) (locs : List Loc) (ls : Array Slot), va_P D vwCl (wsOf cy ad M) H → va_S A s.heap H locs → lvh nL ls lv → va_Run p l e R s m args below meth c H locs kc ks 0 0 (F0 m pc ls stk) st (Qn cy D ad H.size r M1 aa) (Aw ad H.size))
    (kk : V p l e R s m args below meth c nL cy D ad A kc ks Q (pc + 3) lv (r.toList ++ st) M1) : V p l e R s m args below meth c nL cy D ad A kc ks Q pc lv stk M := by
  intro H locs ls hP hS hl T hT X
  obtain ⟨v, st₀, t, T', L, h0, X', hL, e1, e2, ⟨⟨hv, hP1⟩, hz, hk⟩, stp⟩ := run H locs ls hP hS hl T hT X
  cases hv
  rw [h0] at hz hk
  have hsub := Aw_sub hA1 hA2 (sz := H.size) hS.1
  have hS1 : va_S A s.heap T'.heap (locs ++ L) := ⟨Nat.le_trans hS.1 (by rw [e1]; exact hz), fun q h1 h2 => by
      rw [e1, hk q (Nat.lt_of_lt_of_le h1 hS.1) (fun z => h2 (hsub q z))]; exact hS.2.1 q h1 h2, fun q hq => by
      rcases List.mem_append.mp hq with h | h
      · exact hS.2.2 q h
      · exact hsub _ (hL q h)⟩
  obtain ⟨t2, a1, b1⟩ := kk T'.heap (locs ++ L) ls (by rw [e1]; exact hP1) hS1 hl T' rfl X'
  exact ⟨t2, stp t2 a1, b1⟩

theorem r_callV (F : Fx p s m args meth c own cc nL ret cy D ad A) {y : MethodName} {bytes : ByteArray} {maxL n lev index t cc1 ci N : Nat} {i : Int} {ret1 : Option FieldType} {fs : List Value} {T : u_T} {As stk : List Value} {r : Option Value} {M1 : Mem} (hM : Ct l cy D ad y bytes maxL ret1 lev (.ref (ad t cc1 i) :: As) M r M1) (d : decode cc pc = .ok (.invokevirtual index, 3)) (lk : LkV own index y n) (hn : As.length = n) (hst : stk = As.reverse ++ .ref (ad t cc1 i) :: st) (hk : dmb t cc1 i = true) (hcel : cel cy ad M t cc1 i = .inr (ci, fs)) (hc : vwCl[ci]? = some (y.cls, T, N)) (hcd : Cond.code y bytes maxL ret1 ∈ TB) (hR : lev + 1 ≤ R.frames ∧ 8 + (maxL + 11) + 30 * lev ≤ R.locals) (hf : kc ≤ R.cells ∧ ks ≤ R.slots) (hw : (st.map fun v => v.category).sum ≤ 8) (kk : V p l e R s m args below meth c nL cy D ad A kc ks Q (pc + 3) lv (r.toList ++ st) M1) : V p l e R s m args below meth c nL cy D ad A kc ks Q pc lv stk M := by
  obtain ⟨hx, hb, hml, hown, hr, hlk, hts, hK, hI, hA1, hA2⟩ := F
  subst hst
  obtain ⟨⟨l1, l2, l3, l4⟩, g1, g2, g3⟩ := lk
  refine r_after (aa := (Value.ref (ad t cc1 i) :: As).toArray) hA1 hA2 (fun H locs ls hP hS hl => ?_) kk
  obtain ⟨q0, hq, hw1⟩ := ws_at (cy := cy) (ad := ad) M hk
  refine va_runV (Ts := TB) (C := y.cls) (rm := RM lev) ⟨hx, hb, hml, hown, hts⟩ (hM H.size) (cwV n hts (tb_good (fun _ h => h) (X := wsV own index y.cls y (wsT y bytes maxL ret1)) ?_) rfl rfl rfl ⟨rfl, g1, g2, g3⟩ hR) ⟨Pn_blind _ _ _ _ _ _, va_recv hK.1 hP hc (by rw [hw1, hcel]), fun U hU hW => ⟨rfl, by rw [hU], by rw [hU]; exact hP, hK.warm hW, hI⟩⟩ rfl hn hl.1 rfl (lv_room hw) d ⟨hf.1, hf.2⟩
  intro w hw2
  simp only [wsV, List.mem_append, List.mem_cons, List.not_mem_nil, or_false, wsT] at hw2
  rcases hw2 with (rfl | rfl | rfl | rfl) | (rfl | h)
  · exact l1
  · exact l2
  · exact l3
  · exact l4
  · exact hcd
  · exact h
theorem r_callS (F : Fx p s m args meth c own cc nL ret cy D ad A) {y : MethodName} {bytes : ByteArray} {maxL n lev index : Nat} {ret1 : Option FieldType} {As stk : List Value} {r : Option Value} {M1 : Mem} (hM : Ct l cy D ad y bytes maxL ret1 lev As M r M1) (d : decode cc pc = .ok (.invokestatic index, 3)) (lk : LkS own index y n) (hn : As.length = n) (hst : stk = As.reverse ++ st) (hcd : Cond.code y bytes maxL ret1 ∈ TB) (hR : lev + 1 ≤ R.frames ∧ 8 + (maxL + 11) + 30 * lev ≤ R.locals) (hf : kc ≤ R.cells ∧ ks ≤ R.slots) (hw : (st.map fun v => v.category).sum ≤ 8) (kk : V p l e R s m args below meth c nL cy D ad A kc ks Q (pc + 3) lv (r.toList ++ st) M1) : V p l e R s m args below meth c nL cy D ad A kc ks Q pc lv stk M := by
  obtain ⟨hx, hb, hml, hown, hr, hlk, hts, hK, hI, hA1, hA2⟩ := F
  subst hst
  obtain ⟨⟨l1, l2, l4⟩, g1, g2, g3⟩ := lk
  refine r_after (aa := As.toArray) hA1 hA2 (fun H locs ls hP hS hl => ?_) kk
  refine va_runS (Ts := TB) (rm := RM lev) ⟨hx, hb, hml, hown, hts⟩ (hM H.size) (va_cwS n hts (tb_good (fun _ h => h) (X := va_wsS own index y (wsT y bytes maxL ret1)) ?_) rfl rfl rfl ⟨g1, g2, g3⟩ hR) ⟨Pn_blind _ _ _ _ _ _, fun U hU hW => ⟨rfl, by rw [hU], by rw [hU]; exact hP, hK.warm hW, hI⟩⟩ rfl hn hl.1 rfl (lv_room hw) d ⟨hf.1, hf.2⟩
  intro w hw2
  simp only [va_wsS, List.mem_append, List.mem_cons, List.not_mem_nil, or_false, wsT] at hw2
  rcases hw2 with (rfl | rfl | rfl) | (rfl | h)
  · exact l1
  · exact l2
  · exact l4
  · exact hcd
  · exact h
theorem r_callSN (F : Fx p s m args meth c own cc nL ret cy D ad A) {y : MethodName} {bytes : ByteArray} {maxL n lev index : Nat} {host : String} {ret1 : Option FieldType} {As stk : List Value} {r : Option Value} {M1 : Mem} (hM : Ct l cy D ad y bytes maxL ret1 lev As M r M1) (d : decode cc pc = .ok (.invokestatic index, 3)) (lk : LkSN own index y host n) (hn : As.length = n) (hst : stk = As.reverse ++ st) (hcd : Cond.code y bytes maxL ret1 ∈ TB) (hR : lev + 1 ≤ R.frames ∧ 8 + (maxL + 11) + 30 * lev ≤ R.locals) (hf : kc ≤ R.cells ∧ ks ≤ R.slots) (hw : (st.map fun v => v.category).sum ≤ 8) (kk : V p l e R s m args below meth c nL cy D ad A kc ks Q (pc + 3) lv (r.toList ++ st) M1) : V p l e R s m args below meth c nL cy D ad A kc ks Q pc lv stk M := by
  obtain ⟨hx, hb, hml, hown, hr, hlk, hts, hK, hI, hA1, hA2⟩ := F
  subst hst
  obtain ⟨⟨l1, l2, l4⟩, g1, g2, g3⟩ := lk
  refine r_after (aa := As.toArray) hA1 hA2 (fun H locs ls hP hS hl => ?_) kk
  refine va_runSN (Ts := TB) (rm := RM lev) (host := host) ⟨hx, hb, hml, hown, hts⟩ (hM H.size) ⟨va_cnB n hts (tb_good (fun _ h => h) (X := wsT y bytes maxL ret1) ?_) rfl rfl rfl (hK.2 _ l1 rfl) (hts _ l4) ⟨g1, g2, g3⟩ hR, hts _ l2, trivial⟩ ⟨Pn_blind _ _ _ _ _ _, fun U hU hW => ⟨rfl, by rw [hU], by rw [hU]; exact hP, hK.warm hW, hI⟩⟩ rfl hn hl.1 rfl (lv_room hw) d ⟨hf.1, hf.2⟩
  intro w hw2
  simp only [List.mem_cons, wsT] at hw2
  rcases hw2 with (rfl | h)
  · exact hcd
  · exact h
def iabs (a : Int) : Int := if 0 ≤ a then a else -a
theorem r_mabs (F : Fx p s m args meth c own cc nL ret cy D ad A) {a : Int} {index : Nat} (d : decode cc pc = .ok (.invokestatic index, 3)) (h1 : Cond.methodLink own index Lib.Math.abs.name ∈ TB) (h2 : Cond.static Lib.Math.abs.name ∈ TB) (h3 : Cond.initialized "java/lang/Math" ∈ TB) (h4 : Cond.code Lib.Math.abs.name Lib.Math.abs.code 1 (some .int) ∈ TB) (hfr : 1 ≤ R.frames) (hlo : (st.map fun v => v.category).sum + 13 ≤ R.locals) (hf : kc ≤ R.cells ∧ ks ≤ R.slots) (ha : ir a) (kk : V p l e R s m args below meth c nL cy D ad A kc ks Q (pc + 3) lv (.int (i32 (iabs a)) :: st) M) : V p l e R s m args below meth c nL cy D ad A kc ks Q pc lv (.int (i32 a) :: st) M := by
  obtain ⟨hx, hb, hml, hown, hr, hlk, hts, hK, hI, hA1, hA2⟩ := F
  intro H locs ls hP hS hl
  refine va_mabs hx hb (hml.trans hl.1.symm) hown (hts _ h1) (hts _ h2) (hts _ h3) (hts _ h4) hfr hlo hf.1 hf.2 d ?_
  have e : (if 0 ≤ i32 a then i32 a else 0 - i32 a) = i32 (iabs a) := by
    have h0 : (0 : Int32) ≤ i32 a ↔ 0 ≤ a := i32_le (a := 0) ⟨by decide, by decide⟩ ha
    unfold iabs
    by_cases h : 0 ≤ a
    · rw [if_pos h, if_pos (h0.mpr h)]
    · rw [if_neg h, if_neg (fun z => h (h0.mp z)), show (0 : Int32) = i32 0 from rfl, i32_sub, Int.zero_sub]
  rw [e]
  exact kk H locs ls hP hS hl
theorem r_mmax (F : Fx p s m args meth c own cc nL ret cy D ad A) {a b : Int} {index : Nat} (d : decode cc pc = .ok (.invokestatic index, 3)) (h1 : Cond.methodLink own index Lib.Math.max.name ∈ TB) (h2 : Cond.static Lib.Math.max.name ∈ TB) (h3 : Cond.initialized "java/lang/Math" ∈ TB) (h4 : Cond.code Lib.Math.max.name Lib.Math.max.code 2 (some .int) ∈ TB) (hfr : 1 ≤ R.frames) (hlo : (st.map fun v => v.category).sum + 13 ≤ R.locals) (hf : kc ≤ R.cells ∧ ks ≤ R.slots) (ha : ir a) (hb9 : ir b) (kk : V p l e R s m args below meth c nL cy D ad A kc ks Q (pc + 3) lv (.int (i32 (max a b)) :: st) M) : V p l e R s m args below meth c nL cy D ad A kc ks Q pc lv (.int (i32 b) :: .int (i32 a) :: st) M := by
  obtain ⟨hx, hb, hml, hown, hr, hlk, hts, hK, hI, hA1, hA2⟩ := F
  intro H locs ls hP hS hl
  refine va_mmax hx hb (hml.trans hl.1.symm) hown (hts _ h1) (hts _ h2) (hts _ h3) (hts _ h4) hfr hlo hf.1 hf.2 d ?_
  have e : (if i32 a < i32 b then i32 b else i32 a) = i32 (max a b) := by
    have h0 := i32_lt ha hb9
    by_cases h : a < b
    · rw [if_pos (h0.mpr h)]
      congr 1
      omega
    · rw [if_neg (fun z => h (h0.mp z))]
      congr 1
      omega
  rw [e]
  exact kk H locs ls hP hS hl
theorem r_mmin (F : Fx p s m args meth c own cc nL ret cy D ad A) {a b : Int} {index : Nat} (d : decode cc pc = .ok (.invokestatic index, 3)) (h1 : Cond.methodLink own index Lib.Math.min.name ∈ TB) (h2 : Cond.static Lib.Math.min.name ∈ TB) (h3 : Cond.initialized "java/lang/Math" ∈ TB) (h4 : Cond.code Lib.Math.min.name Lib.Math.min.code 2 (some .int) ∈ TB) (hfr : 1 ≤ R.frames) (hlo : (st.map fun v => v.category).sum + 13 ≤ R.locals) (hf : kc ≤ R.cells ∧ ks ≤ R.slots) (ha : ir a) (hb9 : ir b) (kk : V p l e R s m args below meth c nL cy D ad A kc ks Q (pc + 3) lv (.int (i32 (min a b)) :: st) M) : V p l e R s m args below meth c nL cy D ad A kc ks Q pc lv (.int (i32 b) :: .int (i32 a) :: st) M := by
  obtain ⟨hx, hb, hml, hown, hr, hlk, hts, hK, hI, hA1, hA2⟩ := F
  intro H locs ls hP hS hl
  refine va_mmin hx hb (hml.trans hl.1.symm) hown (hts _ h1) (hts _ h2) (hts _ h3) (hts _ h4) hfr hlo hf.1 hf.2 d ?_
  have e : (if i32 b < i32 a then i32 b else i32 a) = i32 (min a b) := by
    have h0 := i32_lt hb9 ha
    by_cases h : b < a
    · rw [if_pos (h0.mpr h)]
      congr 1
      omega
    · rw [if_neg (fun z => h (h0.mp z))]
      congr 1
      omega
  rw [e]
  exact kk H locs ls hP hS hl
theorem q_end {r r1 : Option Value} {M1 : Mem} {H : Heap} {locs : List Loc} (hv : r = r1) (hM : wsOf cy ad M = wsOf cy ad M1) (hP : va_P D vwCl (wsOf cy ad M) H) (hS : va_S (Aw ad s.heap.size) s.heap H locs) : ∀ t : State, t.heap = H → s.WarmedH t.vm → Qn cy D ad s.heap.size r1 M1 args s (.returned r) t := by
  intro t ht hW
  subst hv
  exact ⟨⟨rfl, by rw [ht, ← hM]; exact hP⟩, hS.F ht⟩

theorem r_iret (F : Fx p s m args meth c own cc nL ret cy D ad (Aw ad s.heap.size)) {a b : Int} {M1 : Mem} (d : decode cc pc = .ok (.ireturn, 1)) (hret : ret = some .int) (hv : a = b) (hM : M = M1) : V p l e R s m args below meth c nL cy D ad (Aw ad s.heap.size) kc ks (MQ below (Qn cy D ad s.heap.size (some (.int (i32 b))) M1) args s kc ks (Aw ad s.heap.size)) pc lv [.int (i32 a)] M := by
  obtain ⟨hx, hb, hml, hown, hr, hlk, hts, hK, hI, hA1, hA2⟩ := F
  subst hv; subst hM
  intro H locs ls hP hS hl
  exact W.iret hx hb (hr.trans hret) (q_end rfl rfl hP hS) hS.2.2 d hlk
theorem r_zret (F : Fx p s m args meth c own cc nL ret cy D ad (Aw ad s.heap.size)) {a : Int} {b : Bool} {M1 : Mem} (d : decode cc pc = .ok (.ireturn, 1)) (hret : ret = some .boolean) (hv : a = bi b) (hM : M = M1) : V p l e R s m args below meth c nL cy D ad (Aw ad s.heap.size) kc ks (MQ below (Qn cy D ad s.heap.size (some (.int (i32 (bi b)))) M1) args s kc ks (Aw ad s.heap.size)) pc lv [.int (i32 a)] M := by
  obtain ⟨hx, hb, hml, hown, hr, hlk, hts, hK, hI, hA1, hA2⟩ := F
  subst hv; subst hM
  intro H locs ls hP hS hl
  exact W.zret hx hb (hr.trans hret) (bi_nar b) (q_end rfl rfl hP hS) hS.2.2 d hlk
theorem r_vret (F : Fx p s m args meth c own cc nL ret cy D ad (Aw ad s.heap.size)) {M1 : Mem} (d : decode cc pc = .ok (.return_, 1)) (hret : ret = none) (hM : M = M1) : V p l e R s m args below meth c nL cy D ad (Aw ad s.heap.size) kc ks (MQ below (Qn cy D ad s.heap.size none M1) args s kc ks (Aw ad s.heap.size)) pc lv [] M := by
  obtain ⟨hx, hb, hml, hown, hr, hlk, hts, hK, hI, hA1, hA2⟩ := F
  subst hM
  intro H locs ls hP hS hl
  exact W.vret hx hb (hr.trans hret) (q_end rfl rfl hP hS) hS.2.2 d hlk
theorem r_lret (F : Fx p s m args meth c own cc nL ret cy D ad (Aw ad s.heap.size)) {a b : Int64} {M1 : Mem} (d : decode cc pc = .ok (.lreturn, 1)) (hret : ret = some .long) (hv : a = b) (hM : M = M1) : V p l e R s m args below meth c nL cy D ad (Aw ad s.heap.size) kc ks (MQ below (Qn cy D ad s.heap.size (some (.long b)) M1) args s kc ks (Aw ad s.heap.size)) pc lv [.long a] M := by
  obtain ⟨hx, hb, hml, hown, hr, hlk, hts, hK, hI, hA1, hA2⟩ := F
  subst hv; subst hM
  intro H locs ls hP hS hl
  exact W.lret hx hb (hr.trans hret) (q_end rfl rfl hP hS) hS.2.2 d hlk
theorem r_dret (F : Fx p s m args meth c own cc nL ret cy D ad (Aw ad s.heap.size)) {a b : UInt64} {M1 : Mem} (d : decode cc pc = .ok (.dreturn, 1)) (hret : ret = some .double) (hv : a = b) (hM : M = M1) : V p l e R s m args below meth c nL cy D ad (Aw ad s.heap.size) kc ks (MQ below (Qn cy D ad s.heap.size (some (.double b)) M1) args s kc ks (Aw ad s.heap.size)) pc lv [.double a] M := by
  obtain ⟨hx, hb, hml, hown, hr, hlk, hts, hK, hI, hA1, hA2⟩ := F
  subst hv; subst hM
  intro H locs ls hP hS hl
  exact W.dret hx hb (hr.trans hret) (q_end rfl rfl hP hS) hS.2.2 d hlk
end CALLS
end
section
/-! Link facts of the tables. -/
theorem inT_X0 : ∀ w ∈ u_ws RX0 TX0 7, w ∈ TB := by decide +kernel
theorem inT_X1 : ∀ w ∈ u_ws RX1 TX1 13, w ∈ TB := by decide +kernel
theorem inT_X2 : ∀ w ∈ u_ws RX2 TX2 3, w ∈ TB := by decide +kernel
theorem inT_X3 : ∀ w ∈ u_ws RX3 TX3 6, w ∈ TB := by decide +kernel
theorem inT_X4 : ∀ w ∈ u_ws RX4 TX4 2, w ∈ TB := by decide +kernel
theorem inT_X5 : ∀ w ∈ u_ws RX5 TX5 26, w ∈ TB := by decide +kernel
theorem inT_X6 : ∀ w ∈ u_ws RX6 TX6 3, w ∈ TB := by decide +kernel
theorem lf_X2_9 : Cond.fieldLink RX2 9 RX2 "table" "[I" ∈ TB := tb_of 66 (by decide +kernel) (by decide +kernel)
theorem lf_X4_85 : Cond.fieldLink RX4 85 RX2 "table" "[I" ∈ TB := tb_of 67 (by decide +kernel) (by decide +kernel)
theorem lf_X1_114 : Cond.fieldLink RX1 114 RX2 "table" "[I" ∈ TB := tb_of 68 (by decide +kernel) (by decide +kernel)
theorem lf_X2_21 : Cond.fieldLink RX2 21 RX2 "place" "I" ∈ TB := tb_of 69 (by decide +kernel) (by decide +kernel)
theorem lf_X4_70 : Cond.fieldLink RX4 70 RX2 "place" "I" ∈ TB := tb_of 70 (by decide +kernel) (by decide +kernel)
theorem lf_X1_90 : Cond.fieldLink RX1 90 RX2 "place" "I" ∈ TB := tb_of 71 (by decide +kernel) (by decide +kernel)
theorem lf_X2_25 : Cond.fieldLink RX2 25 RX2 "timesSeen" "I" ∈ TB := tb_of 72 (by decide +kernel) (by decide +kernel)
theorem lf_X1_120 : Cond.fieldLink RX1 120 RX2 "timesSeen" "I" ∈ TB := tb_of 73 (by decide +kernel) (by decide +kernel)
theorem lf_X3_7 : Cond.fieldLink RX3 7 RX3 "from" "I" ∈ TB := tb_of 87 (by decide +kernel) (by decide +kernel)
theorem lf_X3_13 : Cond.fieldLink RX3 13 RX3 "to" "I" ∈ TB := tb_of 88 (by decide +kernel) (by decide +kernel)
theorem lf_X3_16 : Cond.fieldLink RX3 16 RX3 "eyes" "I" ∈ TB := tb_of 89 (by decide +kernel) (by decide +kernel)
theorem lf_X3_19 : Cond.fieldLink RX3 19 RX3 "place" "I" ∈ TB := tb_of 90 (by decide +kernel) (by decide +kernel)
theorem lf_X1_174 : Cond.fieldLink RX1 174 RX3 "place" "I" ∈ TB := tb_of 91 (by decide +kernel) (by decide +kernel)
theorem lf_X3_22 : Cond.fieldLink RX3 22 RX3 "way" "I" ∈ TB := tb_of 92 (by decide +kernel) (by decide +kernel)
theorem lf_X3_25 : Cond.fieldLink RX3 25 RX3 "boatsSeized" "I" ∈ TB := tb_of 93 (by decide +kernel) (by decide +kernel)
theorem lf_X1_175 : Cond.fieldLink RX1 175 RX3 "boatsSeized" "I" ∈ TB := tb_of 94 (by decide +kernel) (by decide +kernel)
theorem lf_X0_9 : Cond.fieldLink RX0 9 RX0 "place" "I" ∈ TB := tb_of 113 (by decide +kernel) (by decide +kernel)
theorem lf_X1_144 : Cond.fieldLink RX1 144 RX0 "place" "I" ∈ TB := tb_of 114 (by decide +kernel) (by decide +kernel)
theorem lf_X0_15 : Cond.fieldLink RX0 15 RX0 "bales" "I" ∈ TB := tb_of 115 (by decide +kernel) (by decide +kernel)
theorem lf_X1_145 : Cond.fieldLink RX1 145 RX0 "bales" "I" ∈ TB := tb_of 116 (by decide +kernel) (by decide +kernel)
theorem lf_X0_18 : Cond.fieldLink RX0 18 RX0 "goal" "I" ∈ TB := tb_of 117 (by decide +kernel) (by decide +kernel)
theorem lf_X4_129 : Cond.fieldLink RX4 129 RX0 "goal" "I" ∈ TB := tb_of 118 (by decide +kernel) (by decide +kernel)
theorem lf_X1_154 : Cond.fieldLink RX1 154 RX0 "goal" "I" ∈ TB := tb_of 119 (by decide +kernel) (by decide +kernel)
theorem lf_X0_21 : Cond.fieldLink RX0 21 RX0 "ledBy" "I" ∈ TB := tb_of 120 (by decide +kernel) (by decide +kernel)
theorem lf_X1_157 : Cond.fieldLink RX1 157 RX0 "ledBy" "I" ∈ TB := tb_of 121 (by decide +kernel) (by decide +kernel)
theorem lf_X0_24 : Cond.fieldLink RX0 24 RX0 "minds" "Z" ∈ TB := tb_of 122 (by decide +kernel) (by decide +kernel)
theorem lf_X1_133 : Cond.fieldLink RX1 133 RX0 "minds" "Z" ∈ TB := tb_of 123 (by decide +kernel) (by decide +kernel)
theorem lf_X0_28 : Cond.fieldLink RX0 28 RX0 "fate" "I" ∈ TB := tb_of 124 (by decide +kernel) (by decide +kernel)
theorem lf_X1_130 : Cond.fieldLink RX1 130 RX0 "fate" "I" ∈ TB := tb_of 125 (by decide +kernel) (by decide +kernel)
theorem lf_X4_189 : Cond.fieldLink RX4 189 RX0 "fate" "I" ∈ TB := tb_of 126 (by decide +kernel) (by decide +kernel)
theorem lf_X0_31 : Cond.fieldLink RX0 31 RX0 "unloaded" "I" ∈ TB := tb_of 127 (by decide +kernel) (by decide +kernel)
theorem lf_X1_148 : Cond.fieldLink RX1 148 RX0 "unloaded" "I" ∈ TB := tb_of 128 (by decide +kernel) (by decide +kernel)
theorem lf_X1_9 : Cond.fieldLink RX1 9 RX1 "room" "[I" ∈ TB := tb_of 144 (by decide +kernel) (by decide +kernel)
theorem lf_X4_39 : Cond.fieldLink RX4 39 RX1 "room" "[I" ∈ TB := tb_of 145 (by decide +kernel) (by decide +kernel)
theorem lf_X1_15 : Cond.fieldLink RX1 15 RX1 "stored" "[I" ∈ TB := tb_of 146 (by decide +kernel) (by decide +kernel)
theorem lf_X4_30 : Cond.fieldLink RX4 30 RX1 "stored" "[I" ∈ TB := tb_of 147 (by decide +kernel) (by decide +kernel)
theorem lf_X1_18 : Cond.fieldLink RX1 18 RX1 "named" "[I" ∈ TB := tb_of 148 (by decide +kernel) (by decide +kernel)
theorem lf_X4_48 : Cond.fieldLink RX4 48 RX1 "named" "[I" ∈ TB := tb_of 149 (by decide +kernel) (by decide +kernel)
theorem lf_X1_21 : Cond.fieldLink RX1 21 RX1 "seen" "[I" ∈ TB := tb_of 150 (by decide +kernel) (by decide +kernel)
theorem lf_X4_51 : Cond.fieldLink RX4 51 RX1 "seen" "[I" ∈ TB := tb_of 151 (by decide +kernel) (by decide +kernel)
theorem lf_X1_26 : Cond.fieldLink RX1 26 RX1 "lanterns" "[LCoveSignals$Lantern;" ∈ TB := tb_of 152 (by decide +kernel) (by decide +kernel)
theorem lf_X4_66 : Cond.fieldLink RX4 66 RX1 "lanterns" "[LCoveSignals$Lantern;" ∈ TB := tb_of 153 (by decide +kernel) (by decide +kernel)
theorem lf_X1_32 : Cond.fieldLink RX1 32 RX1 "watchmen" "[LCoveSignals$Watchman;" ∈ TB := tb_of 154 (by decide +kernel) (by decide +kernel)
theorem lf_X4_97 : Cond.fieldLink RX4 97 RX1 "watchmen" "[LCoveSignals$Watchman;" ∈ TB := tb_of 155 (by decide +kernel) (by decide +kernel)
theorem lf_X1_38 : Cond.fieldLink RX1 38 RX1 "boats" "[LCoveSignals$Boat;" ∈ TB := tb_of 156 (by decide +kernel) (by decide +kernel)
theorem lf_X4_114 : Cond.fieldLink RX4 114 RX1 "boats" "[LCoveSignals$Boat;" ∈ TB := tb_of 157 (by decide +kernel) (by decide +kernel)
theorem lf_X1_51 : Cond.fieldLink RX1 51 RX1 "lanternCount" "I" ∈ TB := tb_of 158 (by decide +kernel) (by decide +kernel)
theorem lf_X4_54 : Cond.fieldLink RX4 54 RX1 "lanternCount" "I" ∈ TB := tb_of 159 (by decide +kernel) (by decide +kernel)
theorem lf_X1_55 : Cond.fieldLink RX1 55 RX1 "watchmanCount" "I" ∈ TB := tb_of 160 (by decide +kernel) (by decide +kernel)
theorem lf_X4_92 : Cond.fieldLink RX4 92 RX1 "watchmanCount" "I" ∈ TB := tb_of 161 (by decide +kernel) (by decide +kernel)
theorem lf_X1_58 : Cond.fieldLink RX1 58 RX1 "boatCount" "I" ∈ TB := tb_of 162 (by decide +kernel) (by decide +kernel)
theorem lf_X4_109 : Cond.fieldLink RX4 109 RX1 "boatCount" "I" ∈ TB := tb_of 163 (by decide +kernel) (by decide +kernel)
theorem lf_X1_71 : Cond.fieldLink RX1 71 RX1 "hour" "I" ∈ TB := tb_of 164 (by decide +kernel) (by decide +kernel)
theorem lf_X1_74 : Cond.fieldLink RX1 74 RX1 "balesSeized" "I" ∈ TB := tb_of 165 (by decide +kernel) (by decide +kernel)
theorem lf_X1_77 : Cond.fieldLink RX1 77 RX1 "balesCarried" "I" ∈ TB := tb_of 166 (by decide +kernel) (by decide +kernel)
theorem lf_X4_139 : Cond.fieldLink RX4 139 RX1 "balesCarried" "I" ∈ TB := tb_of 167 (by decide +kernel) (by decide +kernel)
theorem lf_X4_10 : Cond.fieldLink RX4 10 RX4 "coast" "LCoveSignals$Coast;" ∈ TB := tb_of 195 (by decide +kernel) (by decide +kernel)
theorem lf_X4_16 : Cond.fieldLink RX4 16 RX4 "trial" "LCoveSignals$Coast;" ∈ TB := tb_of 196 (by decide +kernel) (by decide +kernel)
theorem lcl_X4_207 : Cond.constantLong RX4 207 1669 ∈ TB := tb_of 218 (by decide +kernel) (by decide +kernel)
theorem lcl_X4_209 : Cond.constantLong RX4 209 31 ∈ TB := tb_of 219 (by decide +kernel) (by decide +kernel)
theorem lf_X5_78 : Cond.fieldLink RX5 78 RX5 "hour" "I" ∈ TB := tb_of 723 (by decide +kernel) (by decide +kernel)
theorem lf_X5_82 : Cond.fieldLink RX5 82 RX5 "lanterns" "I" ∈ TB := tb_of 724 (by decide +kernel) (by decide +kernel)
theorem lfn_X6_27 : Cond.fieldLinkNest RX6 27 RX5 "lanterns" "I" RX6 ∈ lw_tbl := List.mem_of_getElem? (i := 725) (by decide +kernel)
theorem lf_X5_85 : Cond.fieldLink RX5 85 RX5 "watchmen" "I" ∈ TB := tb_of 726 (by decide +kernel) (by decide +kernel)
theorem lfn_X6_30 : Cond.fieldLinkNest RX6 30 RX5 "watchmen" "I" RX6 ∈ lw_tbl := List.mem_of_getElem? (i := 727) (by decide +kernel)
theorem lf_X5_88 : Cond.fieldLink RX5 88 RX5 "boats" "I" ∈ TB := tb_of 728 (by decide +kernel) (by decide +kernel)
theorem lfn_X6_33 : Cond.fieldLinkNest RX6 33 RX5 "boats" "I" RX6 ∈ lw_tbl := List.mem_of_getElem? (i := 729) (by decide +kernel)
theorem lf_X5_91 : Cond.fieldLink RX5 91 RX5 "seized" "I" ∈ TB := tb_of 730 (by decide +kernel) (by decide +kernel)
theorem lf_X5_94 : Cond.fieldLink RX5 94 RX5 "carried" "I" ∈ TB := tb_of 731 (by decide +kernel) (by decide +kernel)
theorem lfn_X6_103 : Cond.fieldLinkNest RX6 103 RX5 "carried" "I" RX6 ∈ lw_tbl := List.mem_of_getElem? (i := 732) (by decide +kernel)
theorem lf_X5_9 : Cond.fieldLink RX5 9 RX5 "room" "[I" ∈ TB := tb_of 733 (by decide +kernel) (by decide +kernel)
theorem lfn_X6_48 : Cond.fieldLinkNest RX6 48 RX5 "room" "[I" RX6 ∈ lw_tbl := List.mem_of_getElem? (i := 734) (by decide +kernel)
theorem lf_X5_15 : Cond.fieldLink RX5 15 RX5 "cave" "[I" ∈ TB := tb_of 735 (by decide +kernel) (by decide +kernel)
theorem lfn_X6_44 : Cond.fieldLinkNest RX6 44 RX5 "cave" "[I" RX6 ∈ lw_tbl := List.mem_of_getElem? (i := 736) (by decide +kernel)
theorem lf_X5_18 : Cond.fieldLink RX5 18 RX5 "names" "[I" ∈ TB := tb_of 737 (by decide +kernel) (by decide +kernel)
theorem lfn_X6_54 : Cond.fieldLinkNest RX6 54 RX5 "names" "[I" RX6 ∈ lw_tbl := List.mem_of_getElem? (i := 738) (by decide +kernel)
theorem lf_X5_21 : Cond.fieldLink RX5 21 RX5 "seen" "[I" ∈ TB := tb_of 739 (by decide +kernel) (by decide +kernel)
theorem lfn_X6_57 : Cond.fieldLinkNest RX6 57 RX5 "seen" "[I" RX6 ∈ lw_tbl := List.mem_of_getElem? (i := 740) (by decide +kernel)
theorem lf_X5_24 : Cond.fieldLink RX5 24 RX5 "stands" "[I" ∈ TB := tb_of 741 (by decide +kernel) (by decide +kernel)
theorem lfn_X6_60 : Cond.fieldLinkNest RX6 60 RX5 "stands" "[I" RX6 ∈ lw_tbl := List.mem_of_getElem? (i := 742) (by decide +kernel)
theorem lf_X5_27 : Cond.fieldLink RX5 27 RX5 "shows" "[I" ∈ TB := tb_of 743 (by decide +kernel) (by decide +kernel)
theorem lfn_X6_66 : Cond.fieldLinkNest RX6 66 RX5 "shows" "[I" RX6 ∈ lw_tbl := List.mem_of_getElem? (i := 744) (by decide +kernel)
theorem lf_X5_30 : Cond.fieldLink RX5 30 RX5 "noted" "[I" ∈ TB := tb_of 745 (by decide +kernel) (by decide +kernel)
theorem lfn_X6_146 : Cond.fieldLinkNest RX6 146 RX5 "noted" "[I" RX6 ∈ lw_tbl := List.mem_of_getElem? (i := 746) (by decide +kernel)
theorem lf_X5_33 : Cond.fieldLink RX5 33 RX5 "low" "[I" ∈ TB := tb_of 747 (by decide +kernel) (by decide +kernel)
theorem lfn_X6_69 : Cond.fieldLinkNest RX6 69 RX5 "low" "[I" RX6 ∈ lw_tbl := List.mem_of_getElem? (i := 748) (by decide +kernel)
theorem lf_X5_36 : Cond.fieldLink RX5 36 RX5 "high" "[I" ∈ TB := tb_of 749 (by decide +kernel) (by decide +kernel)
theorem lfn_X6_72 : Cond.fieldLinkNest RX6 72 RX5 "high" "[I" RX6 ∈ lw_tbl := List.mem_of_getElem? (i := 750) (by decide +kernel)
theorem lf_X5_39 : Cond.fieldLink RX5 39 RX5 "eyes" "[I" ∈ TB := tb_of 751 (by decide +kernel) (by decide +kernel)
theorem lfn_X6_75 : Cond.fieldLinkNest RX6 75 RX5 "eyes" "[I" RX6 ∈ lw_tbl := List.mem_of_getElem? (i := 752) (by decide +kernel)
theorem lf_X5_42 : Cond.fieldLink RX5 42 RX5 "walks" "[I" ∈ TB := tb_of 753 (by decide +kernel) (by decide +kernel)
theorem lfn_X6_78 : Cond.fieldLinkNest RX6 78 RX5 "walks" "[I" RX6 ∈ lw_tbl := List.mem_of_getElem? (i := 754) (by decide +kernel)
theorem lf_X5_45 : Cond.fieldLink RX5 45 RX5 "goes" "[I" ∈ TB := tb_of 755 (by decide +kernel) (by decide +kernel)
theorem lfn_X6_81 : Cond.fieldLinkNest RX6 81 RX5 "goes" "[I" RX6 ∈ lw_tbl := List.mem_of_getElem? (i := 756) (by decide +kernel)
theorem lf_X5_48 : Cond.fieldLink RX5 48 RX5 "caught" "[I" ∈ TB := tb_of 757 (by decide +kernel) (by decide +kernel)
theorem lfn_X6_131 : Cond.fieldLinkNest RX6 131 RX5 "caught" "[I" RX6 ∈ lw_tbl := List.mem_of_getElem? (i := 758) (by decide +kernel)
theorem lf_X5_51 : Cond.fieldLink RX5 51 RX5 "place" "[I" ∈ TB := tb_of 759 (by decide +kernel) (by decide +kernel)
theorem lfn_X6_84 : Cond.fieldLinkNest RX6 84 RX5 "place" "[I" RX6 ∈ lw_tbl := List.mem_of_getElem? (i := 760) (by decide +kernel)
theorem lf_X5_54 : Cond.fieldLink RX5 54 RX5 "bales" "[I" ∈ TB := tb_of 761 (by decide +kernel) (by decide +kernel)
theorem lfn_X6_87 : Cond.fieldLinkNest RX6 87 RX5 "bales" "[I" RX6 ∈ lw_tbl := List.mem_of_getElem? (i := 762) (by decide +kernel)
theorem lf_X5_57 : Cond.fieldLink RX5 57 RX5 "goal" "[I" ∈ TB := tb_of 763 (by decide +kernel) (by decide +kernel)
theorem lfn_X6_100 : Cond.fieldLinkNest RX6 100 RX5 "goal" "[I" RX6 ∈ lw_tbl := List.mem_of_getElem? (i := 764) (by decide +kernel)
theorem lf_X5_60 : Cond.fieldLink RX5 60 RX5 "led" "[I" ∈ TB := tb_of 765 (by decide +kernel) (by decide +kernel)
theorem lfn_X6_115 : Cond.fieldLinkNest RX6 115 RX5 "led" "[I" RX6 ∈ lw_tbl := List.mem_of_getElem? (i := 766) (by decide +kernel)
theorem lf_X5_63 : Cond.fieldLink RX5 63 RX5 "minds" "[I" ∈ TB := tb_of 767 (by decide +kernel) (by decide +kernel)
theorem lfn_X6_118 : Cond.fieldLinkNest RX6 118 RX5 "minds" "[I" RX6 ∈ lw_tbl := List.mem_of_getElem? (i := 768) (by decide +kernel)
theorem lf_X5_66 : Cond.fieldLink RX5 66 RX5 "is" "[I" ∈ TB := tb_of 769 (by decide +kernel) (by decide +kernel)
theorem lfn_X6_97 : Cond.fieldLinkNest RX6 97 RX5 "is" "[I" RX6 ∈ lw_tbl := List.mem_of_getElem? (i := 770) (by decide +kernel)
theorem lf_X5_69 : Cond.fieldLink RX5 69 RX5 "unloaded" "[I" ∈ TB := tb_of 771 (by decide +kernel) (by decide +kernel)
theorem lfn_X6_112 : Cond.fieldLinkNest RX6 112 RX5 "unloaded" "[I" RX6 ∈ lw_tbl := List.mem_of_getElem? (i := 772) (by decide +kernel)
theorem lf_X6_19 : Cond.fieldLink RX6 19 RX6 "thrown" "I" ∈ TB := tb_of 826 (by decide +kernel) (by decide +kernel)
theorem lf_X6_10 : Cond.fieldLink RX6 10 RX6 "s" "LCoveSignalsModel$State;" ∈ TB := tb_of 827 (by decide +kernel) (by decide +kernel)
theorem lf_X6_16 : Cond.fieldLink RX6 16 RX6 "ahead" "LCoveSignalsModel$State;" ∈ TB := tb_of 828 (by decide +kernel) (by decide +kernel)
theorem lcl_X6_188 : Cond.constantLong RX6 188 1669 ∈ TB := tb_of 1089 (by decide +kernel) (by decide +kernel)
theorem lcl_X6_190 : Cond.constantLong RX6 190 31 ∈ TB := tb_of 1090 (by decide +kernel) (by decide +kernel)
theorem cd_X4_init : Cond.code yX4_init cX4_init 1 none ∈ TB := tb_of 45 (by decide +kernel) rfl
theorem cd_X1_init : Cond.code yX1_init cX1_init 2 none ∈ TB := tb_of 53 (by decide +kernel) rfl
theorem cd_X2_init : Cond.code yX2_init cX2_init 1 none ∈ TB := tb_of 64 (by decide +kernel) rfl
theorem cd_X3_init : Cond.code yX3_init cX3_init 1 none ∈ TB := tb_of 85 (by decide +kernel) rfl
theorem cd_X0_init : Cond.code yX0_init cX0_init 1 none ∈ TB := tb_of 111 (by decide +kernel) rfl
theorem cd_X4_mean : Cond.code yX4_mean cX4_mean 2 (some .double) ∈ TB := tb_of 205 (by decide +kernel) rfl
theorem cd_X1_boatsOfFate : Cond.code yX1_boatsOfFate cX1_boatsOfFate 4 (some .int) ∈ TB := tb_of 209 (by decide +kernel) rfl
theorem cd_X1_balesAtSea : Cond.code yX1_balesAtSea cX1_balesAtSea 3 (some .int) ∈ TB := tb_of 213 (by decide +kernel) rfl
theorem cd_X4_digest : Cond.code yX4_digest cX4_digest 5 (some .long) ∈ TB := tb_of 217 (by decide +kernel) rfl
theorem cd_X4_count : Cond.code yX4_count cX4_count 2 (some .int) ∈ TB := tb_of 223 (by decide +kernel) rfl
theorem cd_X4_requireWhat : Cond.code yX4_requireWhat cX4_requireWhat 3 none ∈ TB := tb_of 226 (by decide +kernel) rfl
theorem cd_X1_tally : Cond.code yX1_tally cX1_tally 2 (some .int) ∈ TB := tb_of 298 (by decide +kernel) rfl
theorem cd_X1_balesInCaves : Cond.code yX1_balesInCaves cX1_balesInCaves 3 (some .int) ∈ TB := tb_of 303 (by decide +kernel) rfl
theorem cd_X1_knownCodes : Cond.code yX1_knownCodes cX1_knownCodes 3 (some .int) ∈ TB := tb_of 307 (by decide +kernel) rfl
theorem cd_X1_isKnown : Cond.code yX1_isKnown cX1_isKnown 2 (some .boolean) ∈ TB := tb_of 311 (by decide +kernel) rfl
theorem cd_X4_place : Cond.code yX4_place cX4_place 3 (some .int) ∈ TB := tb_of 315 (by decide +kernel) rfl
theorem cd_X4_requirePlace : Cond.code yX4_requirePlace cX4_requirePlace 1 none ∈ TB := tb_of 318 (by decide +kernel) rfl
theorem cd_X1_tellPlace : Cond.code yX1_tellPlace cX1_tellPlace 3 (some .int) ∈ TB := tb_of 323 (by decide +kernel) rfl
theorem cd_X1_watchmenAt : Cond.code yX1_watchmenAt cX1_watchmenAt 4 (some .int) ∈ TB := tb_of 327 (by decide +kernel) rfl
theorem cd_X1_boatsAtSeaAt : Cond.code yX1_boatsAtSeaAt cX1_boatsAtSeaAt 4 (some .int) ∈ TB := tb_of 331 (by decide +kernel) rfl
theorem cd_X1_watchmenSeeingPlace : Cond.code yX1_watchmenSeeingPlace cX1_watchmenSeeingPlace 5 (some .int) ∈ TB := tb_of 335 (by decide +kernel) rfl
theorem cd_X1_moonNow : Cond.code yX1_moonNow cX1_moonNow 1 (some .int) ∈ TB := tb_of 339 (by decide +kernel) rfl
theorem cd_X4_moonOf : Cond.code yX4_moonOf cX4_moonOf 2 (some .int) ∈ TB := tb_of 342 (by decide +kernel) rfl
theorem cd_J9_floorMod_7cf53 : Cond.code yJ9_floorMod_7cf53 cJ9_floorMod_7cf53 3 (some .int) ∈ TB := tb_of 345 (by decide +kernel) rfl
theorem cd_X4_distance : Cond.code yX4_distance cX4_distance 2 (some .int) ∈ TB := tb_of 348 (by decide +kernel) rfl
theorem cd_X3_sightOfPlaces : Cond.code yX3_sightOfPlaces cX3_sightOfPlaces 2 (some .int) ∈ TB := tb_of 352 (by decide +kernel) rfl
theorem cd_X4_code : Cond.code yX4_code cX4_code 3 (some .int) ∈ TB := tb_of 356 (by decide +kernel) rfl
theorem cd_X4_requireCode : Cond.code yX4_requireCode cX4_requireCode 1 none ∈ TB := tb_of 359 (by decide +kernel) rfl
theorem cd_X1_tellCode : Cond.code yX1_tellCode cX1_tellCode 3 (some .int) ∈ TB := tb_of 364 (by decide +kernel) rfl
theorem cd_X1_boatsAtSeaLedBy : Cond.code yX1_boatsAtSeaLedBy cX1_boatsAtSeaLedBy 4 (some .int) ∈ TB := tb_of 368 (by decide +kernel) rfl
theorem cd_X4_digestOfLanterns : Cond.code yX4_digestOfLanterns cX4_digestOfLanterns 7 (some .long) ∈ TB := tb_of 372 (by decide +kernel) rfl
theorem cd_X4_light : Cond.code yX4_light cX4_light 3 (some .int) ∈ TB := tb_of 376 (by decide +kernel) rfl
theorem cd_X4_requireLantern : Cond.code yX4_requireLantern cX4_requireLantern 2 none ∈ TB := tb_of 380 (by decide +kernel) rfl
theorem cd_X1_tellLantern : Cond.code yX1_tellLantern cX1_tellLantern 3 (some .int) ∈ TB := tb_of 385 (by decide +kernel) rfl
theorem cd_X1_hourOfNight : Cond.code yX1_hourOfNight cX1_hourOfNight 1 (some .int) ∈ TB := tb_of 389 (by decide +kernel) rfl
theorem cd_X1_watchmenSeeingLantern : Cond.code yX1_watchmenSeeingLantern cX1_watchmenSeeingLantern 5 (some .int) ∈ TB := tb_of 394 (by decide +kernel) rfl
theorem cd_X3_sightOfLanterns : Cond.code yX3_sightOfLanterns cX3_sightOfLanterns 2 (some .int) ∈ TB := tb_of 398 (by decide +kernel) rfl
theorem cd_X4_digestOfWatchmen : Cond.code yX4_digestOfWatchmen cX4_digestOfWatchmen 7 (some .long) ∈ TB := tb_of 402 (by decide +kernel) rfl
theorem cd_X4_about : Cond.code yX4_about cX4_about 3 (some .int) ∈ TB := tb_of 406 (by decide +kernel) rfl
theorem cd_X3_tell : Cond.code yX3_tell cX3_tell 3 (some .int) ∈ TB := tb_of 412 (by decide +kernel) rfl
theorem cd_X4_digestOfBoats : Cond.code yX4_digestOfBoats cX4_digestOfBoats 7 (some .long) ∈ TB := tb_of 418 (by decide +kernel) rfl
theorem cd_X4_told : Cond.code yX4_told cX4_told 3 (some .int) ∈ TB := tb_of 422 (by decide +kernel) rfl
theorem cd_X4_requireBoat : Cond.code yX4_requireBoat cX4_requireBoat 2 none ∈ TB := tb_of 426 (by decide +kernel) rfl
theorem cd_X0_tell : Cond.code yX0_tell cX0_tell 2 (some .int) ∈ TB := tb_of 431 (by decide +kernel) rfl
theorem cd_X0_stage : Cond.code yX0_stage cX0_stage 1 (some .int) ∈ TB := tb_of 435 (by decide +kernel) rfl
theorem cd_X4_setRoom : Cond.code yX4_setRoom cX4_setRoom 4 (some .int) ∈ TB := tb_of 445 (by decide +kernel) rfl
theorem cd_X4_setCode : Cond.code yX4_setCode cX4_setCode 4 (some .int) ∈ TB := tb_of 484 (by decide +kernel) rfl
theorem cd_X4_requirePlaceOrNone : Cond.code yX4_requirePlaceOrNone cX4_requirePlaceOrNone 1 none ∈ TB := tb_of 487 (by decide +kernel) rfl
theorem cd_X4_lantern : Cond.code yX4_lantern cX4_lantern 3 (some .int) ∈ TB := tb_of 495 (by decide +kernel) rfl
theorem cd_X1_hasLanternAt : Cond.code yX1_hasLanternAt cX1_hasLanternAt 3 (some .boolean) ∈ TB := tb_of 500 (by decide +kernel) rfl
theorem cd_X4_setShow : Cond.code yX4_setShow cX4_setShow 6 (some .int) ∈ TB := tb_of 508 (by decide +kernel) rfl
theorem cd_X4_watchman : Cond.code yX4_watchman cX4_watchman 5 (some .int) ∈ TB := tb_of 517 (by decide +kernel) rfl
theorem cd_X3_begin : Cond.code yX3_begin cX3_begin 4 none ∈ TB := tb_of 524 (by decide +kernel) rfl
theorem cd_X4_boat : Cond.code yX4_boat cX4_boat 4 (some .int) ∈ TB := tb_of 531 (by decide +kernel) rfl
theorem cd_X0_begin : Cond.code yX0_begin cX0_begin 3 none ∈ TB := tb_of 537 (by decide +kernel) rfl
theorem cd_X4_send : Cond.code yX4_send cX4_send 4 (some .int) ∈ TB := tb_of 544 (by decide +kernel) rfl
theorem cd_X4_requireAtSea : Cond.code yX4_requireAtSea cX4_requireAtSea 2 none ∈ TB := tb_of 548 (by decide +kernel) rfl
theorem cd_X0_sendTo : Cond.code yX0_sendTo cX0_sendTo 2 none ∈ TB := tb_of 553 (by decide +kernel) rfl
theorem cd_X4_carry : Cond.code yX4_carry cX4_carry 3 (some .int) ∈ TB := tb_of 560 (by decide +kernel) rfl
theorem cd_X4_moon : Cond.code yX4_moon cX4_moon 2 (some .int) ∈ TB := tb_of 589 (by decide +kernel) rfl
theorem cd_X4_pass : Cond.code yX4_pass cX4_pass 3 (some .int) ∈ TB := tb_of 602 (by decide +kernel) rfl
theorem cd_X4_requireHours : Cond.code yX4_requireHours cX4_requireHours 1 none ∈ TB := tb_of 605 (by decide +kernel) rfl
theorem cd_X1_balesUnloaded : Cond.code yX1_balesUnloaded cX1_balesUnloaded 3 (some .int) ∈ TB := tb_of 610 (by decide +kernel) rfl
theorem cd_X1_letGoBy : Cond.code yX1_letGoBy cX1_letGoBy 3 none ∈ TB := tb_of 614 (by decide +kernel) rfl
theorem cd_X1_passHour : Cond.code yX1_passHour cX1_passHour 3 none ∈ TB := tb_of 618 (by decide +kernel) rfl
theorem cd_X1_noteLanterns : Cond.code yX1_noteLanterns cX1_noteLanterns 6 none ∈ TB := tb_of 622 (by decide +kernel) rfl
theorem cd_X1_moveBoats : Cond.code yX1_moveBoats cX1_moveBoats 5 none ∈ TB := tb_of 626 (by decide +kernel) rfl
theorem cd_X0_liesAtGoal : Cond.code yX0_liesAtGoal cX0_liesAtGoal 1 (some .boolean) ∈ TB := tb_of 630 (by decide +kernel) rfl
theorem cd_X1_unload : Cond.code yX1_unload cX1_unload 5 none ∈ TB := tb_of 634 (by decide +kernel) rfl
theorem cd_X1_followLantern : Cond.code yX1_followLantern cX1_followLantern 9 none ∈ TB := tb_of 638 (by decide +kernel) rfl
theorem cd_X0_sail : Cond.code yX0_sail cX0_sail 3 none ∈ TB := tb_of 642 (by decide +kernel) rfl
theorem cd_X1_moveWatchmen : Cond.code yX1_moveWatchmen cX1_moveWatchmen 3 none ∈ TB := tb_of 647 (by decide +kernel) rfl
theorem cd_X3_walk : Cond.code yX3_walk cX3_walk 1 none ∈ TB := tb_of 651 (by decide +kernel) rfl
theorem cd_X1_seizeFirst : Cond.code yX1_seizeFirst cX1_seizeFirst 7 none ∈ TB := tb_of 655 (by decide +kernel) rfl
theorem cd_X4_until : Cond.code yX4_until cX4_until 4 (some .int) ∈ TB := tb_of 662 (by decide +kernel) rfl
theorem cd_X1_copyFrom : Cond.code yX1_copyFrom cX1_copyFrom 3 none ∈ TB := tb_of 666 (by decide +kernel) rfl
theorem cd_X2_copyFrom : Cond.code yX2_copyFrom cX2_copyFrom 2 none ∈ TB := tb_of 673 (by decide +kernel) rfl
theorem cd_X3_copyFrom : Cond.code yX3_copyFrom cX3_copyFrom 2 none ∈ TB := tb_of 678 (by decide +kernel) rfl
theorem cd_X0_copyFrom : Cond.code yX0_copyFrom cX0_copyFrom 2 none ∈ TB := tb_of 682 (by decide +kernel) rfl
theorem cd_X4_foresee : Cond.code yX4_foresee cX4_foresee 3 (some .int) ∈ TB := tb_of 690 (by decide +kernel) rfl
theorem cd_X4_advise : Cond.code yX4_advise cX4_advise 6 (some .int) ∈ TB := tb_of 697 (by decide +kernel) rfl
theorem cd_X4_balesIfSent : Cond.code yX4_balesIfSent cX4_balesIfSent 3 (some .int) ∈ TB := tb_of 701 (by decide +kernel) rfl
theorem cd_X4_quiet : Cond.code yX4_quiet cX4_quiet 3 (some .int) ∈ TB := tb_of 709 (by decide +kernel) rfl
theorem cd_X6_init : Cond.code yX6_init cX6_init 1 none ∈ TB := tb_of 715 (by decide +kernel) rfl
theorem cd_X5_init : Cond.code yX5_init cX5_init 2 none ∈ TB := tb_of 721 (by decide +kernel) rfl
theorem cd_X6_thrown : Cond.code yX6_thrown cX6_thrown 1 (some .int) ∈ TB := tb_of 839 (by decide +kernel) rfl
theorem cd_X6_setRoom : Cond.code yX6_setRoom cX6_setRoom 4 (some .int) ∈ TB := tb_of 843 (by decide +kernel) rfl
theorem cd_X6_isPlace : Cond.code yX6_isPlace cX6_isPlace 1 (some .boolean) ∈ TB := tb_of 846 (by decide +kernel) rfl
theorem cd_X6_isIn : Cond.code yX6_isIn cX6_isIn 3 (some .boolean) ∈ TB := tb_of 849 (by decide +kernel) rfl
theorem cd_X6_no : Cond.code yX6_no cX6_no 2 (some .int) ∈ TB := tb_of 853 (by decide +kernel) rfl
theorem cd_X6_setCode : Cond.code yX6_setCode cX6_setCode 4 (some .int) ∈ TB := tb_of 857 (by decide +kernel) rfl
theorem cd_X6_isCode : Cond.code yX6_isCode cX6_isCode 1 (some .boolean) ∈ TB := tb_of 860 (by decide +kernel) rfl
theorem cd_X6_lantern : Cond.code yX6_lantern cX6_lantern 3 (some .int) ∈ TB := tb_of 864 (by decide +kernel) rfl
theorem cd_X6_setShow : Cond.code yX6_setShow cX6_setShow 6 (some .int) ∈ TB := tb_of 868 (by decide +kernel) rfl
theorem cd_X6_isLantern : Cond.code yX6_isLantern cX6_isLantern 2 (some .boolean) ∈ TB := tb_of 872 (by decide +kernel) rfl
theorem cd_X6_watchman : Cond.code yX6_watchman cX6_watchman 5 (some .int) ∈ TB := tb_of 876 (by decide +kernel) rfl
theorem cd_X6_boat : Cond.code yX6_boat cX6_boat 4 (some .int) ∈ TB := tb_of 880 (by decide +kernel) rfl
theorem cd_X5_send : Cond.code yX5_send cX5_send 3 none ∈ TB := tb_of 884 (by decide +kernel) rfl
theorem cd_X6_send : Cond.code yX6_send cX6_send 4 (some .int) ∈ TB := tb_of 888 (by decide +kernel) rfl
theorem cd_X6_isBoat : Cond.code yX6_isBoat cX6_isBoat 2 (some .boolean) ∈ TB := tb_of 892 (by decide +kernel) rfl
theorem cd_X6_carry : Cond.code yX6_carry cX6_carry 3 (some .int) ∈ TB := tb_of 896 (by decide +kernel) rfl
theorem cd_X6_told : Cond.code yX6_told cX6_told 3 (some .int) ∈ TB := tb_of 900 (by decide +kernel) rfl
theorem cd_X6_boatTold : Cond.code yX6_boatTold cX6_boatTold 3 (some .int) ∈ TB := tb_of 904 (by decide +kernel) rfl
theorem cd_X6_state : Cond.code yX6_state cX6_state 2 (some .int) ∈ TB := tb_of 908 (by decide +kernel) rfl
theorem cd_X5_isThere : Cond.code yX5_isThere cX5_isThere 2 (some .boolean) ∈ TB := tb_of 912 (by decide +kernel) rfl
theorem cd_X6_about : Cond.code yX6_about cX6_about 3 (some .int) ∈ TB := tb_of 916 (by decide +kernel) rfl
theorem cd_X6_isWatchman : Cond.code yX6_isWatchman cX6_isWatchman 2 (some .boolean) ∈ TB := tb_of 920 (by decide +kernel) rfl
theorem cd_X6_watchmanTold : Cond.code yX6_watchmanTold cX6_watchmanTold 3 (some .int) ∈ TB := tb_of 924 (by decide +kernel) rfl
theorem cd_X5_sight : Cond.code yX5_sight cX5_sight 2 (some .int) ∈ TB := tb_of 928 (by decide +kernel) rfl
theorem cd_X5_moon : Cond.code yX5_moon cX5_moon 1 (some .int) ∈ TB := tb_of 932 (by decide +kernel) rfl
theorem cd_X5_moonOf : Cond.code yX5_moonOf cX5_moonOf 1 (some .int) ∈ TB := tb_of 935 (by decide +kernel) rfl
theorem cd_J9_abs_0f7a4 : Cond.code yJ9_abs_0f7a4 cJ9_abs_0f7a4 1 (some .int) ∈ TB := tb_of 938 (by decide +kernel) rfl
theorem cd_X5_farSight : Cond.code yX5_farSight cX5_farSight 2 (some .int) ∈ TB := tb_of 942 (by decide +kernel) rfl
theorem cd_X6_light : Cond.code yX6_light cX6_light 3 (some .int) ∈ TB := tb_of 946 (by decide +kernel) rfl
theorem cd_X6_lightTold : Cond.code yX6_lightTold cX6_lightTold 3 (some .int) ∈ TB := tb_of 950 (by decide +kernel) rfl
theorem cd_X5_shown : Cond.code yX5_shown cX5_shown 2 (some .int) ∈ TB := tb_of 954 (by decide +kernel) rfl
theorem cd_X5_watchersOfLight : Cond.code yX5_watchersOfLight cX5_watchersOfLight 4 (some .int) ∈ TB := tb_of 958 (by decide +kernel) rfl
theorem cd_X6_code : Cond.code yX6_code cX6_code 3 (some .int) ∈ TB := tb_of 963 (by decide +kernel) rfl
theorem cd_X6_codeTold : Cond.code yX6_codeTold cX6_codeTold 5 (some .int) ∈ TB := tb_of 967 (by decide +kernel) rfl
theorem cd_X5_isKnown : Cond.code yX5_isKnown cX5_isKnown 2 (some .boolean) ∈ TB := tb_of 971 (by decide +kernel) rfl
theorem cd_X6_place : Cond.code yX6_place cX6_place 3 (some .int) ∈ TB := tb_of 975 (by decide +kernel) rfl
theorem cd_X6_placeTold : Cond.code yX6_placeTold cX6_placeTold 5 (some .int) ∈ TB := tb_of 979 (by decide +kernel) rfl
theorem cd_X5_watchersOf : Cond.code yX5_watchersOf cX5_watchersOf 4 (some .int) ∈ TB := tb_of 983 (by decide +kernel) rfl
theorem cd_X6_moon : Cond.code yX6_moon cX6_moon 2 (some .int) ∈ TB := tb_of 988 (by decide +kernel) rfl
theorem cd_X6_count : Cond.code yX6_count cX6_count 2 (some .int) ∈ TB := tb_of 993 (by decide +kernel) rfl
theorem cd_X5_counted : Cond.code yX5_counted cX5_counted 2 (some .int) ∈ TB := tb_of 997 (by decide +kernel) rfl
theorem cd_X5_in : Cond.code yX5_in cX5_in 4 (some .int) ∈ TB := tb_of 1001 (by decide +kernel) rfl
theorem cd_X5_caves : Cond.code yX5_caves cX5_caves 6 (some .int) ∈ TB := tb_of 1005 (by decide +kernel) rfl
theorem cd_X5_known : Cond.code yX5_known cX5_known 3 (some .int) ∈ TB := tb_of 1009 (by decide +kernel) rfl
theorem cd_X6_pass : Cond.code yX6_pass cX6_pass 2 (some .int) ∈ TB := tb_of 1014 (by decide +kernel) rfl
theorem cd_X6_goOn : Cond.code yX6_goOn cX6_goOn 4 (some .int) ∈ TB := tb_of 1017 (by decide +kernel) rfl
theorem cd_X5_go : Cond.code yX5_go cX5_go 3 (some .int) ∈ TB := tb_of 1021 (by decide +kernel) rfl
theorem cd_X5_note : Cond.code yX5_note cX5_note 2 none ∈ TB := tb_of 1025 (by decide +kernel) rfl
theorem cd_X5_unload : Cond.code yX5_unload cX5_unload 4 (some .int) ∈ TB := tb_of 1032 (by decide +kernel) rfl
theorem cd_J9_min_7cf53 : Cond.code yJ9_min_7cf53 cJ9_min_7cf53 2 (some .int) ∈ TB := tb_of 1035 (by decide +kernel) rfl
theorem cd_X5_sail : Cond.code yX5_sail cX5_sail 2 none ∈ TB := tb_of 1039 (by decide +kernel) rfl
theorem cd_X5_read : Cond.code yX5_read cX5_read 5 none ∈ TB := tb_of 1043 (by decide +kernel) rfl
theorem cd_J9_max_7cf53 : Cond.code yJ9_max_7cf53 cJ9_max_7cf53 2 (some .int) ∈ TB := tb_of 1046 (by decide +kernel) rfl
theorem cd_X5_walk : Cond.code yX5_walk cX5_walk 2 none ∈ TB := tb_of 1050 (by decide +kernel) rfl
theorem cd_X5_seize : Cond.code yX5_seize cX5_seize 4 none ∈ TB := tb_of 1054 (by decide +kernel) rfl
theorem cd_X6_until : Cond.code yX6_until cX6_until 3 (some .int) ∈ TB := tb_of 1058 (by decide +kernel) rfl
theorem cd_X5_become : Cond.code yX5_become cX5_become 2 none ∈ TB := tb_of 1062 (by decide +kernel) rfl
theorem cd_X5_copy : Cond.code yX5_copy cX5_copy 2 none ∈ TB := tb_of 1065 (by decide +kernel) rfl
theorem cd_X6_foresee : Cond.code yX6_foresee cX6_foresee 3 (some .int) ∈ TB := tb_of 1070 (by decide +kernel) rfl
theorem cd_X6_advise : Cond.code yX6_advise cX6_advise 5 (some .int) ∈ TB := tb_of 1074 (by decide +kernel) rfl
theorem cd_X6_quiet : Cond.code yX6_quiet cX6_quiet 3 (some .int) ∈ TB := tb_of 1079 (by decide +kernel) rfl
theorem cd_X6_mean : Cond.code yX6_mean cX6_mean 3 (some .double) ∈ TB := tb_of 1083 (by decide +kernel) rfl
theorem cd_X6_digest : Cond.code yX6_digest cX6_digest 5 (some .long) ∈ TB := tb_of 1088 (by decide +kernel) rfl
theorem lkv_L_151 : LkV RL 151 yX4_mean 0 := ⟨⟨tb_of 202 (by decide +kernel) (by decide +kernel), tb_of 203 (by decide +kernel) (by decide +kernel), tb_of 204 (by decide +kernel) (by decide +kernel), tb_of 26 (by decide +kernel) (by decide +kernel)⟩, by decide +kernel, by decide +kernel, by decide +kernel⟩
theorem lkv_X4_201 : LkV RX4 201 yX1_boatsOfFate 1 := ⟨⟨tb_of 206 (by decide +kernel) (by decide +kernel), tb_of 207 (by decide +kernel) (by decide +kernel), tb_of 208 (by decide +kernel) (by decide +kernel), tb_of 27 (by decide +kernel) (by decide +kernel)⟩, by decide +kernel, by decide +kernel, by decide +kernel⟩
theorem lkv_X4_204 : LkV RX4 204 yX1_balesAtSea 0 := ⟨⟨tb_of 210 (by decide +kernel) (by decide +kernel), tb_of 211 (by decide +kernel) (by decide +kernel), tb_of 212 (by decide +kernel) (by decide +kernel), tb_of 27 (by decide +kernel) (by decide +kernel)⟩, by decide +kernel, by decide +kernel, by decide +kernel⟩
theorem lkv_L_156 : LkV RL 156 yX4_digest 0 := ⟨⟨tb_of 214 (by decide +kernel) (by decide +kernel), tb_of 215 (by decide +kernel) (by decide +kernel), tb_of 216 (by decide +kernel) (by decide +kernel), tb_of 26 (by decide +kernel) (by decide +kernel)⟩, by decide +kernel, by decide +kernel, by decide +kernel⟩
theorem lkv_X4_211 : LkV RX4 211 yX4_count 1 := ⟨⟨tb_of 220 (by decide +kernel) (by decide +kernel), tb_of 221 (by decide +kernel) (by decide +kernel), tb_of 222 (by decide +kernel) (by decide +kernel), tb_of 26 (by decide +kernel) (by decide +kernel)⟩, by decide +kernel, by decide +kernel, by decide +kernel⟩
theorem lks_X4_142 : LkS RX4 142 yX4_requireWhat 3 := ⟨⟨tb_of 224 (by decide +kernel) (by decide +kernel), tb_of 225 (by decide +kernel) (by decide +kernel), tb_of 26 (by decide +kernel) (by decide +kernel)⟩, by decide +kernel, by decide +kernel, by decide +kernel⟩
theorem lkv_X4_173 : LkV RX4 173 yX1_tally 1 := ⟨⟨tb_of 295 (by decide +kernel) (by decide +kernel), tb_of 296 (by decide +kernel) (by decide +kernel), tb_of 297 (by decide +kernel) (by decide +kernel), tb_of 27 (by decide +kernel) (by decide +kernel)⟩, by decide +kernel, by decide +kernel, by decide +kernel⟩
theorem lkv_X1_193 : LkV RX1 193 yX1_boatsOfFate 1 := ⟨⟨tb_of 299 (by decide +kernel) (by decide +kernel), tb_of 207 (by decide +kernel) (by decide +kernel), tb_of 208 (by decide +kernel) (by decide +kernel), tb_of 27 (by decide +kernel) (by decide +kernel)⟩, by decide +kernel, by decide +kernel, by decide +kernel⟩
theorem lkv_X1_196 : LkV RX1 196 yX1_balesInCaves 0 := ⟨⟨tb_of 300 (by decide +kernel) (by decide +kernel), tb_of 301 (by decide +kernel) (by decide +kernel), tb_of 302 (by decide +kernel) (by decide +kernel), tb_of 27 (by decide +kernel) (by decide +kernel)⟩, by decide +kernel, by decide +kernel, by decide +kernel⟩
theorem lkv_X1_199 : LkV RX1 199 yX1_knownCodes 0 := ⟨⟨tb_of 304 (by decide +kernel) (by decide +kernel), tb_of 305 (by decide +kernel) (by decide +kernel), tb_of 306 (by decide +kernel) (by decide +kernel), tb_of 27 (by decide +kernel) (by decide +kernel)⟩, by decide +kernel, by decide +kernel, by decide +kernel⟩
theorem lkv_X1_170 : LkV RX1 170 yX1_isKnown 1 := ⟨⟨tb_of 308 (by decide +kernel) (by decide +kernel), tb_of 309 (by decide +kernel) (by decide +kernel), tb_of 310 (by decide +kernel) (by decide +kernel), tb_of 27 (by decide +kernel) (by decide +kernel)⟩, by decide +kernel, by decide +kernel, by decide +kernel⟩
theorem lkv_X4_214 : LkV RX4 214 yX4_place 2 := ⟨⟨tb_of 312 (by decide +kernel) (by decide +kernel), tb_of 313 (by decide +kernel) (by decide +kernel), tb_of 314 (by decide +kernel) (by decide +kernel), tb_of 26 (by decide +kernel) (by decide +kernel)⟩, by decide +kernel, by decide +kernel, by decide +kernel⟩
theorem lks_X4_19 : LkS RX4 19 yX4_requirePlace 1 := ⟨⟨tb_of 316 (by decide +kernel) (by decide +kernel), tb_of 317 (by decide +kernel) (by decide +kernel), tb_of 26 (by decide +kernel) (by decide +kernel)⟩, by decide +kernel, by decide +kernel, by decide +kernel⟩
theorem lkv_X4_165 : LkV RX4 165 yX1_tellPlace 2 := ⟨⟨tb_of 320 (by decide +kernel) (by decide +kernel), tb_of 321 (by decide +kernel) (by decide +kernel), tb_of 322 (by decide +kernel) (by decide +kernel), tb_of 27 (by decide +kernel) (by decide +kernel)⟩, by decide +kernel, by decide +kernel, by decide +kernel⟩
theorem lkv_X1_184 : LkV RX1 184 yX1_watchmenAt 1 := ⟨⟨tb_of 324 (by decide +kernel) (by decide +kernel), tb_of 325 (by decide +kernel) (by decide +kernel), tb_of 326 (by decide +kernel) (by decide +kernel), tb_of 27 (by decide +kernel) (by decide +kernel)⟩, by decide +kernel, by decide +kernel, by decide +kernel⟩
theorem lkv_X1_187 : LkV RX1 187 yX1_boatsAtSeaAt 1 := ⟨⟨tb_of 328 (by decide +kernel) (by decide +kernel), tb_of 329 (by decide +kernel) (by decide +kernel), tb_of 330 (by decide +kernel) (by decide +kernel), tb_of 27 (by decide +kernel) (by decide +kernel)⟩, by decide +kernel, by decide +kernel, by decide +kernel⟩
theorem lkv_X1_190 : LkV RX1 190 yX1_watchmenSeeingPlace 1 := ⟨⟨tb_of 332 (by decide +kernel) (by decide +kernel), tb_of 333 (by decide +kernel) (by decide +kernel), tb_of 334 (by decide +kernel) (by decide +kernel), tb_of 27 (by decide +kernel) (by decide +kernel)⟩, by decide +kernel, by decide +kernel, by decide +kernel⟩
theorem lkv_X1_96 : LkV RX1 96 yX1_moonNow 0 := ⟨⟨tb_of 336 (by decide +kernel) (by decide +kernel), tb_of 337 (by decide +kernel) (by decide +kernel), tb_of 338 (by decide +kernel) (by decide +kernel), tb_of 27 (by decide +kernel) (by decide +kernel)⟩, by decide +kernel, by decide +kernel, by decide +kernel⟩
theorem lksn_X1_80 : LkSN RX1 80 yX4_moonOf RX4 1 := ⟨⟨List.mem_of_getElem? (i := 340) (by decide +kernel), tb_of 341 (by decide +kernel) (by decide +kernel), tb_of 26 (by decide +kernel) (by decide +kernel)⟩, by decide +kernel, by decide +kernel, by decide +kernel⟩
theorem lks_X4_257 : LkS RX4 257 yJ9_floorMod_7cf53 2 := ⟨⟨tb_of 343 (by decide +kernel) (by decide +kernel), tb_of 344 (by decide +kernel) (by decide +kernel), tb_of 39 (by decide +kernel) (by decide +kernel)⟩, by decide +kernel, by decide +kernel, by decide +kernel⟩
theorem lksn_X1_151 : LkSN RX1 151 yX4_distance RX4 2 := ⟨⟨List.mem_of_getElem? (i := 346) (by decide +kernel), tb_of 347 (by decide +kernel) (by decide +kernel), tb_of 26 (by decide +kernel) (by decide +kernel)⟩, by decide +kernel, by decide +kernel, by decide +kernel⟩
theorem lkv_X1_167 : LkV RX1 167 yX3_sightOfPlaces 1 := ⟨⟨tb_of 349 (by decide +kernel) (by decide +kernel), tb_of 350 (by decide +kernel) (by decide +kernel), tb_of 351 (by decide +kernel) (by decide +kernel), tb_of 29 (by decide +kernel) (by decide +kernel)⟩, by decide +kernel, by decide +kernel, by decide +kernel⟩
theorem lkv_X4_216 : LkV RX4 216 yX4_code 2 := ⟨⟨tb_of 353 (by decide +kernel) (by decide +kernel), tb_of 354 (by decide +kernel) (by decide +kernel), tb_of 355 (by decide +kernel) (by decide +kernel), tb_of 26 (by decide +kernel) (by decide +kernel)⟩, by decide +kernel, by decide +kernel, by decide +kernel⟩
theorem lks_X4_42 : LkS RX4 42 yX4_requireCode 1 := ⟨⟨tb_of 357 (by decide +kernel) (by decide +kernel), tb_of 358 (by decide +kernel) (by decide +kernel), tb_of 26 (by decide +kernel) (by decide +kernel)⟩, by decide +kernel, by decide +kernel, by decide +kernel⟩
theorem lkv_X4_162 : LkV RX4 162 yX1_tellCode 2 := ⟨⟨tb_of 361 (by decide +kernel) (by decide +kernel), tb_of 362 (by decide +kernel) (by decide +kernel), tb_of 363 (by decide +kernel) (by decide +kernel), tb_of 27 (by decide +kernel) (by decide +kernel)⟩, by decide +kernel, by decide +kernel, by decide +kernel⟩
theorem lkv_X1_181 : LkV RX1 181 yX1_boatsAtSeaLedBy 1 := ⟨⟨tb_of 365 (by decide +kernel) (by decide +kernel), tb_of 366 (by decide +kernel) (by decide +kernel), tb_of 367 (by decide +kernel) (by decide +kernel), tb_of 27 (by decide +kernel) (by decide +kernel)⟩, by decide +kernel, by decide +kernel, by decide +kernel⟩
theorem lkv_X4_219 : LkV RX4 219 yX4_digestOfLanterns 1 := ⟨⟨tb_of 369 (by decide +kernel) (by decide +kernel), tb_of 371 (by decide +kernel) (by decide +kernel), tb_of 1 (by decide +kernel) (by decide +kernel), tb_of 26 (by decide +kernel) (by decide +kernel)⟩, by decide +kernel, by decide +kernel, by decide +kernel⟩
theorem lkv_X4_229 : LkV RX4 229 yX4_light 2 := ⟨⟨tb_of 373 (by decide +kernel) (by decide +kernel), tb_of 374 (by decide +kernel) (by decide +kernel), tb_of 375 (by decide +kernel) (by decide +kernel), tb_of 26 (by decide +kernel) (by decide +kernel)⟩, by decide +kernel, by decide +kernel, by decide +kernel⟩
theorem lkv_X4_75 : LkV RX4 75 yX4_requireLantern 1 := ⟨⟨tb_of 377 (by decide +kernel) (by decide +kernel), tb_of 379 (by decide +kernel) (by decide +kernel), tb_of 2 (by decide +kernel) (by decide +kernel), tb_of 26 (by decide +kernel) (by decide +kernel)⟩, by decide +kernel, by decide +kernel, by decide +kernel⟩
theorem lkv_X4_158 : LkV RX4 158 yX1_tellLantern 2 := ⟨⟨tb_of 382 (by decide +kernel) (by decide +kernel), tb_of 383 (by decide +kernel) (by decide +kernel), tb_of 384 (by decide +kernel) (by decide +kernel), tb_of 27 (by decide +kernel) (by decide +kernel)⟩, by decide +kernel, by decide +kernel, by decide +kernel⟩
theorem lkv_X1_100 : LkV RX1 100 yX1_hourOfNight 0 := ⟨⟨tb_of 386 (by decide +kernel) (by decide +kernel), tb_of 387 (by decide +kernel) (by decide +kernel), tb_of 388 (by decide +kernel) (by decide +kernel), tb_of 27 (by decide +kernel) (by decide +kernel)⟩, by decide +kernel, by decide +kernel, by decide +kernel⟩
theorem lks_X1_84 : LkS RX1 84 yJ9_floorMod_7cf53 2 := ⟨⟨tb_of 390 (by decide +kernel) (by decide +kernel), tb_of 344 (by decide +kernel) (by decide +kernel), tb_of 39 (by decide +kernel) (by decide +kernel)⟩, by decide +kernel, by decide +kernel, by decide +kernel⟩
theorem lkv_X1_117 : LkV RX1 117 yX1_watchmenSeeingLantern 2 := ⟨⟨tb_of 391 (by decide +kernel) (by decide +kernel), tb_of 392 (by decide +kernel) (by decide +kernel), tb_of 393 (by decide +kernel) (by decide +kernel), tb_of 27 (by decide +kernel) (by decide +kernel)⟩, by decide +kernel, by decide +kernel, by decide +kernel⟩
theorem lkv_X1_178 : LkV RX1 178 yX3_sightOfLanterns 1 := ⟨⟨tb_of 395 (by decide +kernel) (by decide +kernel), tb_of 396 (by decide +kernel) (by decide +kernel), tb_of 397 (by decide +kernel) (by decide +kernel), tb_of 29 (by decide +kernel) (by decide +kernel)⟩, by decide +kernel, by decide +kernel, by decide +kernel⟩
theorem lkv_X4_223 : LkV RX4 223 yX4_digestOfWatchmen 1 := ⟨⟨tb_of 399 (by decide +kernel) (by decide +kernel), tb_of 401 (by decide +kernel) (by decide +kernel), tb_of 3 (by decide +kernel) (by decide +kernel), tb_of 26 (by decide +kernel) (by decide +kernel)⟩, by decide +kernel, by decide +kernel, by decide +kernel⟩
theorem lkv_X4_232 : LkV RX4 232 yX4_about 2 := ⟨⟨tb_of 403 (by decide +kernel) (by decide +kernel), tb_of 404 (by decide +kernel) (by decide +kernel), tb_of 405 (by decide +kernel) (by decide +kernel), tb_of 26 (by decide +kernel) (by decide +kernel)⟩, by decide +kernel, by decide +kernel, by decide +kernel⟩
theorem lkv_X4_151 : LkV RX4 151 yX1_moonNow 0 := ⟨⟨tb_of 408 (by decide +kernel) (by decide +kernel), tb_of 337 (by decide +kernel) (by decide +kernel), tb_of 338 (by decide +kernel) (by decide +kernel), tb_of 27 (by decide +kernel) (by decide +kernel)⟩, by decide +kernel, by decide +kernel, by decide +kernel⟩
theorem lkv_X4_155 : LkV RX4 155 yX3_tell 2 := ⟨⟨tb_of 409 (by decide +kernel) (by decide +kernel), tb_of 410 (by decide +kernel) (by decide +kernel), tb_of 411 (by decide +kernel) (by decide +kernel), tb_of 29 (by decide +kernel) (by decide +kernel)⟩, by decide +kernel, by decide +kernel, by decide +kernel⟩
theorem lkv_X3_28 : LkV RX3 28 yX3_sightOfPlaces 1 := ⟨⟨tb_of 413 (by decide +kernel) (by decide +kernel), tb_of 350 (by decide +kernel) (by decide +kernel), tb_of 351 (by decide +kernel) (by decide +kernel), tb_of 29 (by decide +kernel) (by decide +kernel)⟩, by decide +kernel, by decide +kernel, by decide +kernel⟩
theorem lkv_X3_32 : LkV RX3 32 yX3_sightOfLanterns 1 := ⟨⟨tb_of 414 (by decide +kernel) (by decide +kernel), tb_of 396 (by decide +kernel) (by decide +kernel), tb_of 397 (by decide +kernel) (by decide +kernel), tb_of 29 (by decide +kernel) (by decide +kernel)⟩, by decide +kernel, by decide +kernel, by decide +kernel⟩
theorem lkv_X4_226 : LkV RX4 226 yX4_digestOfBoats 1 := ⟨⟨tb_of 415 (by decide +kernel) (by decide +kernel), tb_of 417 (by decide +kernel) (by decide +kernel), tb_of 4 (by decide +kernel) (by decide +kernel), tb_of 26 (by decide +kernel) (by decide +kernel)⟩, by decide +kernel, by decide +kernel, by decide +kernel⟩
theorem lkv_X4_235 : LkV RX4 235 yX4_told 2 := ⟨⟨tb_of 419 (by decide +kernel) (by decide +kernel), tb_of 420 (by decide +kernel) (by decide +kernel), tb_of 421 (by decide +kernel) (by decide +kernel), tb_of 26 (by decide +kernel) (by decide +kernel)⟩, by decide +kernel, by decide +kernel, by decide +kernel⟩
theorem lkv_X4_123 : LkV RX4 123 yX4_requireBoat 1 := ⟨⟨tb_of 423 (by decide +kernel) (by decide +kernel), tb_of 425 (by decide +kernel) (by decide +kernel), tb_of 5 (by decide +kernel) (by decide +kernel), tb_of 26 (by decide +kernel) (by decide +kernel)⟩, by decide +kernel, by decide +kernel, by decide +kernel⟩
theorem lkv_X4_145 : LkV RX4 145 yX0_tell 1 := ⟨⟨tb_of 428 (by decide +kernel) (by decide +kernel), tb_of 429 (by decide +kernel) (by decide +kernel), tb_of 430 (by decide +kernel) (by decide +kernel), tb_of 30 (by decide +kernel) (by decide +kernel)⟩, by decide +kernel, by decide +kernel, by decide +kernel⟩
theorem lkv_X0_38 : LkV RX0 38 yX0_stage 0 := ⟨⟨tb_of 432 (by decide +kernel) (by decide +kernel), tb_of 433 (by decide +kernel) (by decide +kernel), tb_of 434 (by decide +kernel) (by decide +kernel), tb_of 30 (by decide +kernel) (by decide +kernel)⟩, by decide +kernel, by decide +kernel, by decide +kernel⟩
theorem lks_L_82 : LkS RL 82 yL_setRoom 4 := ⟨⟨tb_of 436 (by decide +kernel) (by decide +kernel), tb_of 437 (by decide +kernel) (by decide +kernel), tb_of 25 (by decide +kernel) (by decide +kernel)⟩, by decide +kernel, by decide +kernel, by decide +kernel⟩
theorem lkv_L_7 : LkV RL 7 yX4_setRoom 2 := ⟨⟨tb_of 442 (by decide +kernel) (by decide +kernel), tb_of 443 (by decide +kernel) (by decide +kernel), tb_of 444 (by decide +kernel) (by decide +kernel), tb_of 26 (by decide +kernel) (by decide +kernel)⟩, by decide +kernel, by decide +kernel, by decide +kernel⟩
theorem lks_L_92 : LkS RL 92 yL_setCode 4 := ⟨⟨tb_of 478 (by decide +kernel) (by decide +kernel), tb_of 479 (by decide +kernel) (by decide +kernel), tb_of 25 (by decide +kernel) (by decide +kernel)⟩, by decide +kernel, by decide +kernel, by decide +kernel⟩
theorem lkv_L_19 : LkV RL 19 yX4_setCode 2 := ⟨⟨tb_of 481 (by decide +kernel) (by decide +kernel), tb_of 482 (by decide +kernel) (by decide +kernel), tb_of 483 (by decide +kernel) (by decide +kernel), tb_of 26 (by decide +kernel) (by decide +kernel)⟩, by decide +kernel, by decide +kernel, by decide +kernel⟩
theorem lks_X4_45 : LkS RX4 45 yX4_requirePlaceOrNone 1 := ⟨⟨tb_of 485 (by decide +kernel) (by decide +kernel), tb_of 486 (by decide +kernel) (by decide +kernel), tb_of 26 (by decide +kernel) (by decide +kernel)⟩, by decide +kernel, by decide +kernel, by decide +kernel⟩
theorem lks_L_95 : LkS RL 95 yL_lantern 3 := ⟨⟨tb_of 489 (by decide +kernel) (by decide +kernel), tb_of 490 (by decide +kernel) (by decide +kernel), tb_of 25 (by decide +kernel) (by decide +kernel)⟩, by decide +kernel, by decide +kernel, by decide +kernel⟩
theorem lkv_L_22 : LkV RL 22 yX4_lantern 1 := ⟨⟨tb_of 492 (by decide +kernel) (by decide +kernel), tb_of 493 (by decide +kernel) (by decide +kernel), tb_of 494 (by decide +kernel) (by decide +kernel), tb_of 26 (by decide +kernel) (by decide +kernel)⟩, by decide +kernel, by decide +kernel, by decide +kernel⟩
theorem lkv_X4_60 : LkV RX4 60 yX1_hasLanternAt 1 := ⟨⟨tb_of 497 (by decide +kernel) (by decide +kernel), tb_of 498 (by decide +kernel) (by decide +kernel), tb_of 499 (by decide +kernel) (by decide +kernel), tb_of 27 (by decide +kernel) (by decide +kernel)⟩, by decide +kernel, by decide +kernel, by decide +kernel⟩
theorem lks_L_99 : LkS RL 99 yL_setShow 5 := ⟨⟨tb_of 502 (by decide +kernel) (by decide +kernel), tb_of 503 (by decide +kernel) (by decide +kernel), tb_of 25 (by decide +kernel) (by decide +kernel)⟩, by decide +kernel, by decide +kernel, by decide +kernel⟩
theorem lkv_L_26 : LkV RL 26 yX4_setShow 3 := ⟨⟨tb_of 505 (by decide +kernel) (by decide +kernel), tb_of 506 (by decide +kernel) (by decide +kernel), tb_of 507 (by decide +kernel) (by decide +kernel), tb_of 26 (by decide +kernel) (by decide +kernel)⟩, by decide +kernel, by decide +kernel, by decide +kernel⟩
theorem lks_L_103 : LkS RL 103 yL_watchman 5 := ⟨⟨tb_of 511 (by decide +kernel) (by decide +kernel), tb_of 512 (by decide +kernel) (by decide +kernel), tb_of 25 (by decide +kernel) (by decide +kernel)⟩, by decide +kernel, by decide +kernel, by decide +kernel⟩
theorem lkv_L_30 : LkV RL 30 yX4_watchman 3 := ⟨⟨tb_of 514 (by decide +kernel) (by decide +kernel), tb_of 515 (by decide +kernel) (by decide +kernel), tb_of 516 (by decide +kernel) (by decide +kernel), tb_of 26 (by decide +kernel) (by decide +kernel)⟩, by decide +kernel, by decide +kernel, by decide +kernel⟩
theorem lkv_X4_101 : LkV RX4 101 yX3_begin 3 := ⟨⟨tb_of 521 (by decide +kernel) (by decide +kernel), tb_of 522 (by decide +kernel) (by decide +kernel), tb_of 523 (by decide +kernel) (by decide +kernel), tb_of 29 (by decide +kernel) (by decide +kernel)⟩, by decide +kernel, by decide +kernel, by decide +kernel⟩
theorem lks_L_106 : LkS RL 106 yL_boat 4 := ⟨⟨tb_of 525 (by decide +kernel) (by decide +kernel), tb_of 526 (by decide +kernel) (by decide +kernel), tb_of 25 (by decide +kernel) (by decide +kernel)⟩, by decide +kernel, by decide +kernel, by decide +kernel⟩
theorem lkv_L_33 : LkV RL 33 yX4_boat 2 := ⟨⟨tb_of 528 (by decide +kernel) (by decide +kernel), tb_of 529 (by decide +kernel) (by decide +kernel), tb_of 530 (by decide +kernel) (by decide +kernel), tb_of 26 (by decide +kernel) (by decide +kernel)⟩, by decide +kernel, by decide +kernel, by decide +kernel⟩
theorem lkv_X4_118 : LkV RX4 118 yX0_begin 2 := ⟨⟨tb_of 534 (by decide +kernel) (by decide +kernel), tb_of 535 (by decide +kernel) (by decide +kernel), tb_of 536 (by decide +kernel) (by decide +kernel), tb_of 30 (by decide +kernel) (by decide +kernel)⟩, by decide +kernel, by decide +kernel, by decide +kernel⟩
theorem lks_L_109 : LkS RL 109 yL_send 4 := ⟨⟨tb_of 538 (by decide +kernel) (by decide +kernel), tb_of 539 (by decide +kernel) (by decide +kernel), tb_of 25 (by decide +kernel) (by decide +kernel)⟩, by decide +kernel, by decide +kernel, by decide +kernel⟩
theorem lkv_L_36 : LkV RL 36 yX4_send 2 := ⟨⟨tb_of 541 (by decide +kernel) (by decide +kernel), tb_of 542 (by decide +kernel) (by decide +kernel), tb_of 543 (by decide +kernel) (by decide +kernel), tb_of 26 (by decide +kernel) (by decide +kernel)⟩, by decide +kernel, by decide +kernel, by decide +kernel⟩
theorem lkv_X4_126 : LkV RX4 126 yX4_requireAtSea 1 := ⟨⟨tb_of 545 (by decide +kernel) (by decide +kernel), tb_of 547 (by decide +kernel) (by decide +kernel), tb_of 6 (by decide +kernel) (by decide +kernel), tb_of 26 (by decide +kernel) (by decide +kernel)⟩, by decide +kernel, by decide +kernel, by decide +kernel⟩
theorem lkv_X4_132 : LkV RX4 132 yX0_sendTo 1 := ⟨⟨tb_of 550 (by decide +kernel) (by decide +kernel), tb_of 551 (by decide +kernel) (by decide +kernel), tb_of 552 (by decide +kernel) (by decide +kernel), tb_of 30 (by decide +kernel) (by decide +kernel)⟩, by decide +kernel, by decide +kernel, by decide +kernel⟩
theorem lks_L_112 : LkS RL 112 yL_carry 4 := ⟨⟨tb_of 554 (by decide +kernel) (by decide +kernel), tb_of 555 (by decide +kernel) (by decide +kernel), tb_of 25 (by decide +kernel) (by decide +kernel)⟩, by decide +kernel, by decide +kernel, by decide +kernel⟩
theorem lkv_L_39 : LkV RL 39 yX4_carry 2 := ⟨⟨tb_of 557 (by decide +kernel) (by decide +kernel), tb_of 558 (by decide +kernel) (by decide +kernel), tb_of 559 (by decide +kernel) (by decide +kernel), tb_of 26 (by decide +kernel) (by decide +kernel)⟩, by decide +kernel, by decide +kernel, by decide +kernel⟩
theorem lks_L_115 : LkS RL 115 yL_told 4 := ⟨⟨tb_of 563 (by decide +kernel) (by decide +kernel), tb_of 564 (by decide +kernel) (by decide +kernel), tb_of 25 (by decide +kernel) (by decide +kernel)⟩, by decide +kernel, by decide +kernel, by decide +kernel⟩
theorem lkv_L_42 : LkV RL 42 yX4_told 2 := ⟨⟨tb_of 566 (by decide +kernel) (by decide +kernel), tb_of 420 (by decide +kernel) (by decide +kernel), tb_of 421 (by decide +kernel) (by decide +kernel), tb_of 26 (by decide +kernel) (by decide +kernel)⟩, by decide +kernel, by decide +kernel, by decide +kernel⟩
theorem lks_L_118 : LkS RL 118 yL_about 4 := ⟨⟨tb_of 567 (by decide +kernel) (by decide +kernel), tb_of 568 (by decide +kernel) (by decide +kernel), tb_of 25 (by decide +kernel) (by decide +kernel)⟩, by decide +kernel, by decide +kernel, by decide +kernel⟩
theorem lkv_L_45 : LkV RL 45 yX4_about 2 := ⟨⟨tb_of 570 (by decide +kernel) (by decide +kernel), tb_of 404 (by decide +kernel) (by decide +kernel), tb_of 405 (by decide +kernel) (by decide +kernel), tb_of 26 (by decide +kernel) (by decide +kernel)⟩, by decide +kernel, by decide +kernel, by decide +kernel⟩
theorem lks_L_121 : LkS RL 121 yL_light 4 := ⟨⟨tb_of 571 (by decide +kernel) (by decide +kernel), tb_of 572 (by decide +kernel) (by decide +kernel), tb_of 25 (by decide +kernel) (by decide +kernel)⟩, by decide +kernel, by decide +kernel, by decide +kernel⟩
theorem lkv_L_48 : LkV RL 48 yX4_light 2 := ⟨⟨tb_of 574 (by decide +kernel) (by decide +kernel), tb_of 374 (by decide +kernel) (by decide +kernel), tb_of 375 (by decide +kernel) (by decide +kernel), tb_of 26 (by decide +kernel) (by decide +kernel)⟩, by decide +kernel, by decide +kernel, by decide +kernel⟩
theorem lks_L_124 : LkS RL 124 yL_code 4 := ⟨⟨tb_of 575 (by decide +kernel) (by decide +kernel), tb_of 576 (by decide +kernel) (by decide +kernel), tb_of 25 (by decide +kernel) (by decide +kernel)⟩, by decide +kernel, by decide +kernel, by decide +kernel⟩
theorem lkv_L_51 : LkV RL 51 yX4_code 2 := ⟨⟨tb_of 578 (by decide +kernel) (by decide +kernel), tb_of 354 (by decide +kernel) (by decide +kernel), tb_of 355 (by decide +kernel) (by decide +kernel), tb_of 26 (by decide +kernel) (by decide +kernel)⟩, by decide +kernel, by decide +kernel, by decide +kernel⟩
theorem lks_L_127 : LkS RL 127 yL_place 4 := ⟨⟨tb_of 579 (by decide +kernel) (by decide +kernel), tb_of 580 (by decide +kernel) (by decide +kernel), tb_of 25 (by decide +kernel) (by decide +kernel)⟩, by decide +kernel, by decide +kernel, by decide +kernel⟩
theorem lkv_L_54 : LkV RL 54 yX4_place 2 := ⟨⟨tb_of 582 (by decide +kernel) (by decide +kernel), tb_of 313 (by decide +kernel) (by decide +kernel), tb_of 314 (by decide +kernel) (by decide +kernel), tb_of 26 (by decide +kernel) (by decide +kernel)⟩, by decide +kernel, by decide +kernel, by decide +kernel⟩
theorem lks_L_130 : LkS RL 130 yL_moon 3 := ⟨⟨tb_of 583 (by decide +kernel) (by decide +kernel), tb_of 584 (by decide +kernel) (by decide +kernel), tb_of 25 (by decide +kernel) (by decide +kernel)⟩, by decide +kernel, by decide +kernel, by decide +kernel⟩
theorem lkv_L_57 : LkV RL 57 yX4_moon 1 := ⟨⟨tb_of 586 (by decide +kernel) (by decide +kernel), tb_of 587 (by decide +kernel) (by decide +kernel), tb_of 588 (by decide +kernel) (by decide +kernel), tb_of 26 (by decide +kernel) (by decide +kernel)⟩, by decide +kernel, by decide +kernel, by decide +kernel⟩
theorem lks_X4_170 : LkS RX4 170 yX4_moonOf 1 := ⟨⟨tb_of 591 (by decide +kernel) (by decide +kernel), tb_of 341 (by decide +kernel) (by decide +kernel), tb_of 26 (by decide +kernel) (by decide +kernel)⟩, by decide +kernel, by decide +kernel, by decide +kernel⟩
theorem lks_L_133 : LkS RL 133 yL_count 3 := ⟨⟨tb_of 592 (by decide +kernel) (by decide +kernel), tb_of 593 (by decide +kernel) (by decide +kernel), tb_of 25 (by decide +kernel) (by decide +kernel)⟩, by decide +kernel, by decide +kernel, by decide +kernel⟩
theorem lkv_L_60 : LkV RL 60 yX4_count 1 := ⟨⟨tb_of 595 (by decide +kernel) (by decide +kernel), tb_of 221 (by decide +kernel) (by decide +kernel), tb_of 222 (by decide +kernel) (by decide +kernel), tb_of 26 (by decide +kernel) (by decide +kernel)⟩, by decide +kernel, by decide +kernel, by decide +kernel⟩
theorem lks_L_136 : LkS RL 136 yL_pass 3 := ⟨⟨tb_of 596 (by decide +kernel) (by decide +kernel), tb_of 597 (by decide +kernel) (by decide +kernel), tb_of 25 (by decide +kernel) (by decide +kernel)⟩, by decide +kernel, by decide +kernel, by decide +kernel⟩
theorem lkv_L_63 : LkV RL 63 yX4_pass 1 := ⟨⟨tb_of 599 (by decide +kernel) (by decide +kernel), tb_of 600 (by decide +kernel) (by decide +kernel), tb_of 601 (by decide +kernel) (by decide +kernel), tb_of 26 (by decide +kernel) (by decide +kernel)⟩, by decide +kernel, by decide +kernel, by decide +kernel⟩
theorem lks_X4_176 : LkS RX4 176 yX4_requireHours 1 := ⟨⟨tb_of 603 (by decide +kernel) (by decide +kernel), tb_of 604 (by decide +kernel) (by decide +kernel), tb_of 26 (by decide +kernel) (by decide +kernel)⟩, by decide +kernel, by decide +kernel, by decide +kernel⟩
theorem lkv_X4_179 : LkV RX4 179 yX1_balesUnloaded 0 := ⟨⟨tb_of 607 (by decide +kernel) (by decide +kernel), tb_of 608 (by decide +kernel) (by decide +kernel), tb_of 609 (by decide +kernel) (by decide +kernel), tb_of 27 (by decide +kernel) (by decide +kernel)⟩, by decide +kernel, by decide +kernel, by decide +kernel⟩
theorem lkv_X4_182 : LkV RX4 182 yX1_letGoBy 1 := ⟨⟨tb_of 611 (by decide +kernel) (by decide +kernel), tb_of 612 (by decide +kernel) (by decide +kernel), tb_of 613 (by decide +kernel) (by decide +kernel), tb_of 27 (by decide +kernel) (by decide +kernel)⟩, by decide +kernel, by decide +kernel, by decide +kernel⟩
theorem lkv_X1_93 : LkV RX1 93 yX1_passHour 0 := ⟨⟨tb_of 615 (by decide +kernel) (by decide +kernel), tb_of 616 (by decide +kernel) (by decide +kernel), tb_of 617 (by decide +kernel) (by decide +kernel), tb_of 27 (by decide +kernel) (by decide +kernel)⟩, by decide +kernel, by decide +kernel, by decide +kernel⟩
theorem lkv_X1_103 : LkV RX1 103 yX1_noteLanterns 2 := ⟨⟨tb_of 619 (by decide +kernel) (by decide +kernel), tb_of 620 (by decide +kernel) (by decide +kernel), tb_of 621 (by decide +kernel) (by decide +kernel), tb_of 27 (by decide +kernel) (by decide +kernel)⟩, by decide +kernel, by decide +kernel, by decide +kernel⟩
theorem lkv_X1_107 : LkV RX1 107 yX1_moveBoats 2 := ⟨⟨tb_of 623 (by decide +kernel) (by decide +kernel), tb_of 624 (by decide +kernel) (by decide +kernel), tb_of 625 (by decide +kernel) (by decide +kernel), tb_of 27 (by decide +kernel) (by decide +kernel)⟩, by decide +kernel, by decide +kernel, by decide +kernel⟩
theorem lkv_X1_123 : LkV RX1 123 yX0_liesAtGoal 0 := ⟨⟨tb_of 627 (by decide +kernel) (by decide +kernel), tb_of 628 (by decide +kernel) (by decide +kernel), tb_of 629 (by decide +kernel) (by decide +kernel), tb_of 30 (by decide +kernel) (by decide +kernel)⟩, by decide +kernel, by decide +kernel, by decide +kernel⟩
theorem lkv_X1_127 : LkV RX1 127 yX1_unload 1 := ⟨⟨tb_of 631 (by decide +kernel) (by decide +kernel), tb_of 632 (by decide +kernel) (by decide +kernel), tb_of 633 (by decide +kernel) (by decide +kernel), tb_of 27 (by decide +kernel) (by decide +kernel)⟩, by decide +kernel, by decide +kernel, by decide +kernel⟩
theorem lkv_X1_137 : LkV RX1 137 yX1_followLantern 3 := ⟨⟨tb_of 635 (by decide +kernel) (by decide +kernel), tb_of 636 (by decide +kernel) (by decide +kernel), tb_of 637 (by decide +kernel) (by decide +kernel), tb_of 27 (by decide +kernel) (by decide +kernel)⟩, by decide +kernel, by decide +kernel, by decide +kernel⟩
theorem lkv_X1_141 : LkV RX1 141 yX0_sail 0 := ⟨⟨tb_of 639 (by decide +kernel) (by decide +kernel), tb_of 640 (by decide +kernel) (by decide +kernel), tb_of 641 (by decide +kernel) (by decide +kernel), tb_of 30 (by decide +kernel) (by decide +kernel)⟩, by decide +kernel, by decide +kernel, by decide +kernel⟩
theorem lksn_X0_34 : LkSN RX0 34 yX4_distance RX4 2 := ⟨⟨List.mem_of_getElem? (i := 643) (by decide +kernel), tb_of 347 (by decide +kernel) (by decide +kernel), tb_of 26 (by decide +kernel) (by decide +kernel)⟩, by decide +kernel, by decide +kernel, by decide +kernel⟩
theorem lkv_X1_110 : LkV RX1 110 yX1_moveWatchmen 1 := ⟨⟨tb_of 644 (by decide +kernel) (by decide +kernel), tb_of 645 (by decide +kernel) (by decide +kernel), tb_of 646 (by decide +kernel) (by decide +kernel), tb_of 27 (by decide +kernel) (by decide +kernel)⟩, by decide +kernel, by decide +kernel, by decide +kernel⟩
theorem lkv_X1_160 : LkV RX1 160 yX3_walk 0 := ⟨⟨tb_of 648 (by decide +kernel) (by decide +kernel), tb_of 649 (by decide +kernel) (by decide +kernel), tb_of 650 (by decide +kernel) (by decide +kernel), tb_of 29 (by decide +kernel) (by decide +kernel)⟩, by decide +kernel, by decide +kernel, by decide +kernel⟩
theorem lkv_X1_163 : LkV RX1 163 yX1_seizeFirst 2 := ⟨⟨tb_of 652 (by decide +kernel) (by decide +kernel), tb_of 653 (by decide +kernel) (by decide +kernel), tb_of 654 (by decide +kernel) (by decide +kernel), tb_of 27 (by decide +kernel) (by decide +kernel)⟩, by decide +kernel, by decide +kernel, by decide +kernel⟩
theorem lks_L_139 : LkS RL 139 yL_until 3 := ⟨⟨tb_of 656 (by decide +kernel) (by decide +kernel), tb_of 657 (by decide +kernel) (by decide +kernel), tb_of 25 (by decide +kernel) (by decide +kernel)⟩, by decide +kernel, by decide +kernel, by decide +kernel⟩
theorem lkv_L_66 : LkV RL 66 yX4_until 1 := ⟨⟨tb_of 659 (by decide +kernel) (by decide +kernel), tb_of 660 (by decide +kernel) (by decide +kernel), tb_of 661 (by decide +kernel) (by decide +kernel), tb_of 26 (by decide +kernel) (by decide +kernel)⟩, by decide +kernel, by decide +kernel, by decide +kernel⟩
theorem lkv_X4_185 : LkV RX4 185 yX1_copyFrom 1 := ⟨⟨tb_of 663 (by decide +kernel) (by decide +kernel), tb_of 664 (by decide +kernel) (by decide +kernel), tb_of 665 (by decide +kernel) (by decide +kernel), tb_of 27 (by decide +kernel) (by decide +kernel)⟩, by decide +kernel, by decide +kernel, by decide +kernel⟩
theorem lkv_X1_61 : LkV RX1 61 yX2_copyFrom 1 := ⟨⟨tb_of 670 (by decide +kernel) (by decide +kernel), tb_of 671 (by decide +kernel) (by decide +kernel), tb_of 672 (by decide +kernel) (by decide +kernel), tb_of 28 (by decide +kernel) (by decide +kernel)⟩, by decide +kernel, by decide +kernel, by decide +kernel⟩
theorem lkv_X1_65 : LkV RX1 65 yX3_copyFrom 1 := ⟨⟨tb_of 675 (by decide +kernel) (by decide +kernel), tb_of 676 (by decide +kernel) (by decide +kernel), tb_of 677 (by decide +kernel) (by decide +kernel), tb_of 29 (by decide +kernel) (by decide +kernel)⟩, by decide +kernel, by decide +kernel, by decide +kernel⟩
theorem lkv_X1_68 : LkV RX1 68 yX0_copyFrom 1 := ⟨⟨tb_of 679 (by decide +kernel) (by decide +kernel), tb_of 680 (by decide +kernel) (by decide +kernel), tb_of 681 (by decide +kernel) (by decide +kernel), tb_of 30 (by decide +kernel) (by decide +kernel)⟩, by decide +kernel, by decide +kernel, by decide +kernel⟩
theorem lkv_X4_192 : LkV RX4 192 yX1_passHour 0 := ⟨⟨tb_of 683 (by decide +kernel) (by decide +kernel), tb_of 616 (by decide +kernel) (by decide +kernel), tb_of 617 (by decide +kernel) (by decide +kernel), tb_of 27 (by decide +kernel) (by decide +kernel)⟩, by decide +kernel, by decide +kernel, by decide +kernel⟩
theorem lks_L_142 : LkS RL 142 yL_foresee 4 := ⟨⟨tb_of 684 (by decide +kernel) (by decide +kernel), tb_of 685 (by decide +kernel) (by decide +kernel), tb_of 25 (by decide +kernel) (by decide +kernel)⟩, by decide +kernel, by decide +kernel, by decide +kernel⟩
theorem lkv_L_69 : LkV RL 69 yX4_foresee 2 := ⟨⟨tb_of 687 (by decide +kernel) (by decide +kernel), tb_of 688 (by decide +kernel) (by decide +kernel), tb_of 689 (by decide +kernel) (by decide +kernel), tb_of 26 (by decide +kernel) (by decide +kernel)⟩, by decide +kernel, by decide +kernel, by decide +kernel⟩
theorem lks_L_145 : LkS RL 145 yL_advise 3 := ⟨⟨tb_of 691 (by decide +kernel) (by decide +kernel), tb_of 692 (by decide +kernel) (by decide +kernel), tb_of 25 (by decide +kernel) (by decide +kernel)⟩, by decide +kernel, by decide +kernel, by decide +kernel⟩
theorem lkv_L_72 : LkV RL 72 yX4_advise 1 := ⟨⟨tb_of 694 (by decide +kernel) (by decide +kernel), tb_of 695 (by decide +kernel) (by decide +kernel), tb_of 696 (by decide +kernel) (by decide +kernel), tb_of 26 (by decide +kernel) (by decide +kernel)⟩, by decide +kernel, by decide +kernel, by decide +kernel⟩
theorem lkv_X4_195 : LkV RX4 195 yX4_balesIfSent 2 := ⟨⟨tb_of 698 (by decide +kernel) (by decide +kernel), tb_of 700 (by decide +kernel) (by decide +kernel), tb_of 7 (by decide +kernel) (by decide +kernel), tb_of 26 (by decide +kernel) (by decide +kernel)⟩, by decide +kernel, by decide +kernel, by decide +kernel⟩
theorem lkv_X4_238 : LkV RX4 238 yX1_balesInCaves 0 := ⟨⟨tb_of 702 (by decide +kernel) (by decide +kernel), tb_of 301 (by decide +kernel) (by decide +kernel), tb_of 302 (by decide +kernel) (by decide +kernel), tb_of 27 (by decide +kernel) (by decide +kernel)⟩, by decide +kernel, by decide +kernel, by decide +kernel⟩
theorem lks_L_148 : LkS RL 148 yL_quiet 3 := ⟨⟨tb_of 703 (by decide +kernel) (by decide +kernel), tb_of 704 (by decide +kernel) (by decide +kernel), tb_of 25 (by decide +kernel) (by decide +kernel)⟩, by decide +kernel, by decide +kernel, by decide +kernel⟩
theorem lkv_L_75 : LkV RL 75 yX4_quiet 1 := ⟨⟨tb_of 706 (by decide +kernel) (by decide +kernel), tb_of 707 (by decide +kernel) (by decide +kernel), tb_of 708 (by decide +kernel) (by decide +kernel), tb_of 26 (by decide +kernel) (by decide +kernel)⟩, by decide +kernel, by decide +kernel, by decide +kernel⟩
theorem lkv_X4_198 : LkV RX4 198 yX1_watchmenSeeingPlace 1 := ⟨⟨tb_of 710 (by decide +kernel) (by decide +kernel), tb_of 333 (by decide +kernel) (by decide +kernel), tb_of 334 (by decide +kernel) (by decide +kernel), tb_of 27 (by decide +kernel) (by decide +kernel)⟩, by decide +kernel, by decide +kernel, by decide +kernel⟩
theorem lkv_L_88 : LkV RL 88 yX6_thrown 0 := ⟨⟨tb_of 836 (by decide +kernel) (by decide +kernel), tb_of 837 (by decide +kernel) (by decide +kernel), tb_of 838 (by decide +kernel) (by decide +kernel), tb_of 31 (by decide +kernel) (by decide +kernel)⟩, by decide +kernel, by decide +kernel, by decide +kernel⟩
theorem lkv_L_87 : LkV RL 87 yX6_setRoom 2 := ⟨⟨tb_of 840 (by decide +kernel) (by decide +kernel), tb_of 841 (by decide +kernel) (by decide +kernel), tb_of 842 (by decide +kernel) (by decide +kernel), tb_of 31 (by decide +kernel) (by decide +kernel)⟩, by decide +kernel, by decide +kernel, by decide +kernel⟩
theorem lks_X6_36 : LkS RX6 36 yX6_isPlace 1 := ⟨⟨tb_of 844 (by decide +kernel) (by decide +kernel), tb_of 845 (by decide +kernel) (by decide +kernel), tb_of 31 (by decide +kernel) (by decide +kernel)⟩, by decide +kernel, by decide +kernel, by decide +kernel⟩
theorem lks_X6_23 : LkS RX6 23 yX6_isIn 3 := ⟨⟨tb_of 847 (by decide +kernel) (by decide +kernel), tb_of 848 (by decide +kernel) (by decide +kernel), tb_of 31 (by decide +kernel) (by decide +kernel)⟩, by decide +kernel, by decide +kernel, by decide +kernel⟩
theorem lkv_X6_40 : LkV RX6 40 yX6_no 1 := ⟨⟨tb_of 850 (by decide +kernel) (by decide +kernel), tb_of 852 (by decide +kernel) (by decide +kernel), tb_of 8 (by decide +kernel) (by decide +kernel), tb_of 31 (by decide +kernel) (by decide +kernel)⟩, by decide +kernel, by decide +kernel, by decide +kernel⟩
theorem lkv_L_94 : LkV RL 94 yX6_setCode 2 := ⟨⟨tb_of 854 (by decide +kernel) (by decide +kernel), tb_of 855 (by decide +kernel) (by decide +kernel), tb_of 856 (by decide +kernel) (by decide +kernel), tb_of 31 (by decide +kernel) (by decide +kernel)⟩, by decide +kernel, by decide +kernel, by decide +kernel⟩
theorem lks_X6_51 : LkS RX6 51 yX6_isCode 1 := ⟨⟨tb_of 858 (by decide +kernel) (by decide +kernel), tb_of 859 (by decide +kernel) (by decide +kernel), tb_of 31 (by decide +kernel) (by decide +kernel)⟩, by decide +kernel, by decide +kernel, by decide +kernel⟩
theorem lkv_L_98 : LkV RL 98 yX6_lantern 1 := ⟨⟨tb_of 861 (by decide +kernel) (by decide +kernel), tb_of 862 (by decide +kernel) (by decide +kernel), tb_of 863 (by decide +kernel) (by decide +kernel), tb_of 31 (by decide +kernel) (by decide +kernel)⟩, by decide +kernel, by decide +kernel, by decide +kernel⟩
theorem lkv_L_102 : LkV RL 102 yX6_setShow 3 := ⟨⟨tb_of 865 (by decide +kernel) (by decide +kernel), tb_of 866 (by decide +kernel) (by decide +kernel), tb_of 867 (by decide +kernel) (by decide +kernel), tb_of 31 (by decide +kernel) (by decide +kernel)⟩, by decide +kernel, by decide +kernel, by decide +kernel⟩
theorem lkv_X6_63 : LkV RX6 63 yX6_isLantern 1 := ⟨⟨tb_of 869 (by decide +kernel) (by decide +kernel), tb_of 871 (by decide +kernel) (by decide +kernel), tb_of 9 (by decide +kernel) (by decide +kernel), tb_of 31 (by decide +kernel) (by decide +kernel)⟩, by decide +kernel, by decide +kernel, by decide +kernel⟩
theorem lkv_L_105 : LkV RL 105 yX6_watchman 3 := ⟨⟨tb_of 873 (by decide +kernel) (by decide +kernel), tb_of 874 (by decide +kernel) (by decide +kernel), tb_of 875 (by decide +kernel) (by decide +kernel), tb_of 31 (by decide +kernel) (by decide +kernel)⟩, by decide +kernel, by decide +kernel, by decide +kernel⟩
theorem lkv_L_108 : LkV RL 108 yX6_boat 2 := ⟨⟨tb_of 877 (by decide +kernel) (by decide +kernel), tb_of 878 (by decide +kernel) (by decide +kernel), tb_of 879 (by decide +kernel) (by decide +kernel), tb_of 31 (by decide +kernel) (by decide +kernel)⟩, by decide +kernel, by decide +kernel, by decide +kernel⟩
theorem lkv_X6_90 : LkV RX6 90 yX5_send 2 := ⟨⟨tb_of 881 (by decide +kernel) (by decide +kernel), tb_of 882 (by decide +kernel) (by decide +kernel), tb_of 883 (by decide +kernel) (by decide +kernel), tb_of 32 (by decide +kernel) (by decide +kernel)⟩, by decide +kernel, by decide +kernel, by decide +kernel⟩
theorem lkv_L_111 : LkV RL 111 yX6_send 2 := ⟨⟨tb_of 885 (by decide +kernel) (by decide +kernel), tb_of 886 (by decide +kernel) (by decide +kernel), tb_of 887 (by decide +kernel) (by decide +kernel), tb_of 31 (by decide +kernel) (by decide +kernel)⟩, by decide +kernel, by decide +kernel, by decide +kernel⟩
theorem lkv_X6_94 : LkV RX6 94 yX6_isBoat 1 := ⟨⟨tb_of 889 (by decide +kernel) (by decide +kernel), tb_of 891 (by decide +kernel) (by decide +kernel), tb_of 10 (by decide +kernel) (by decide +kernel), tb_of 31 (by decide +kernel) (by decide +kernel)⟩, by decide +kernel, by decide +kernel, by decide +kernel⟩
theorem lkv_L_114 : LkV RL 114 yX6_carry 2 := ⟨⟨tb_of 893 (by decide +kernel) (by decide +kernel), tb_of 894 (by decide +kernel) (by decide +kernel), tb_of 895 (by decide +kernel) (by decide +kernel), tb_of 31 (by decide +kernel) (by decide +kernel)⟩, by decide +kernel, by decide +kernel, by decide +kernel⟩
theorem lkv_L_117 : LkV RL 117 yX6_told 2 := ⟨⟨tb_of 897 (by decide +kernel) (by decide +kernel), tb_of 898 (by decide +kernel) (by decide +kernel), tb_of 899 (by decide +kernel) (by decide +kernel), tb_of 31 (by decide +kernel) (by decide +kernel)⟩, by decide +kernel, by decide +kernel, by decide +kernel⟩
theorem lkv_X6_121 : LkV RX6 121 yX6_boatTold 2 := ⟨⟨tb_of 901 (by decide +kernel) (by decide +kernel), tb_of 903 (by decide +kernel) (by decide +kernel), tb_of 11 (by decide +kernel) (by decide +kernel), tb_of 31 (by decide +kernel) (by decide +kernel)⟩, by decide +kernel, by decide +kernel, by decide +kernel⟩
theorem lkv_X6_109 : LkV RX6 109 yX6_state 1 := ⟨⟨tb_of 905 (by decide +kernel) (by decide +kernel), tb_of 907 (by decide +kernel) (by decide +kernel), tb_of 12 (by decide +kernel) (by decide +kernel), tb_of 31 (by decide +kernel) (by decide +kernel)⟩, by decide +kernel, by decide +kernel, by decide +kernel⟩
theorem lkv_X6_106 : LkV RX6 106 yX5_isThere 1 := ⟨⟨tb_of 909 (by decide +kernel) (by decide +kernel), tb_of 910 (by decide +kernel) (by decide +kernel), tb_of 911 (by decide +kernel) (by decide +kernel), tb_of 32 (by decide +kernel) (by decide +kernel)⟩, by decide +kernel, by decide +kernel, by decide +kernel⟩
theorem lkv_L_120 : LkV RL 120 yX6_about 2 := ⟨⟨tb_of 913 (by decide +kernel) (by decide +kernel), tb_of 914 (by decide +kernel) (by decide +kernel), tb_of 915 (by decide +kernel) (by decide +kernel), tb_of 31 (by decide +kernel) (by decide +kernel)⟩, by decide +kernel, by decide +kernel, by decide +kernel⟩
theorem lkv_X6_134 : LkV RX6 134 yX6_isWatchman 1 := ⟨⟨tb_of 917 (by decide +kernel) (by decide +kernel), tb_of 919 (by decide +kernel) (by decide +kernel), tb_of 13 (by decide +kernel) (by decide +kernel), tb_of 31 (by decide +kernel) (by decide +kernel)⟩, by decide +kernel, by decide +kernel, by decide +kernel⟩
theorem lkv_X6_137 : LkV RX6 137 yX6_watchmanTold 2 := ⟨⟨tb_of 921 (by decide +kernel) (by decide +kernel), tb_of 923 (by decide +kernel) (by decide +kernel), tb_of 14 (by decide +kernel) (by decide +kernel), tb_of 31 (by decide +kernel) (by decide +kernel)⟩, by decide +kernel, by decide +kernel, by decide +kernel⟩
theorem lkv_X6_125 : LkV RX6 125 yX5_sight 1 := ⟨⟨tb_of 925 (by decide +kernel) (by decide +kernel), tb_of 926 (by decide +kernel) (by decide +kernel), tb_of 927 (by decide +kernel) (by decide +kernel), tb_of 32 (by decide +kernel) (by decide +kernel)⟩, by decide +kernel, by decide +kernel, by decide +kernel⟩
theorem lkv_X5_110 : LkV RX5 110 yX5_moon 0 := ⟨⟨tb_of 929 (by decide +kernel) (by decide +kernel), tb_of 930 (by decide +kernel) (by decide +kernel), tb_of 931 (by decide +kernel) (by decide +kernel), tb_of 32 (by decide +kernel) (by decide +kernel)⟩, by decide +kernel, by decide +kernel, by decide +kernel⟩
theorem lks_X5_107 : LkS RX5 107 yX5_moonOf 1 := ⟨⟨tb_of 933 (by decide +kernel) (by decide +kernel), tb_of 934 (by decide +kernel) (by decide +kernel), tb_of 32 (by decide +kernel) (by decide +kernel)⟩, by decide +kernel, by decide +kernel, by decide +kernel⟩
theorem lks_X5_101 : LkS RX5 101 yJ9_abs_0f7a4 1 := ⟨⟨tb_of 936 (by decide +kernel) (by decide +kernel), tb_of 937 (by decide +kernel) (by decide +kernel), tb_of 39 (by decide +kernel) (by decide +kernel)⟩, by decide +kernel, by decide +kernel, by decide +kernel⟩
theorem lkv_X6_128 : LkV RX6 128 yX5_farSight 1 := ⟨⟨tb_of 939 (by decide +kernel) (by decide +kernel), tb_of 940 (by decide +kernel) (by decide +kernel), tb_of 941 (by decide +kernel) (by decide +kernel), tb_of 32 (by decide +kernel) (by decide +kernel)⟩, by decide +kernel, by decide +kernel, by decide +kernel⟩
theorem lkv_L_123 : LkV RL 123 yX6_light 2 := ⟨⟨tb_of 943 (by decide +kernel) (by decide +kernel), tb_of 944 (by decide +kernel) (by decide +kernel), tb_of 945 (by decide +kernel) (by decide +kernel), tb_of 31 (by decide +kernel) (by decide +kernel)⟩, by decide +kernel, by decide +kernel, by decide +kernel⟩
theorem lkv_X6_149 : LkV RX6 149 yX6_lightTold 2 := ⟨⟨tb_of 947 (by decide +kernel) (by decide +kernel), tb_of 949 (by decide +kernel) (by decide +kernel), tb_of 15 (by decide +kernel) (by decide +kernel), tb_of 31 (by decide +kernel) (by decide +kernel)⟩, by decide +kernel, by decide +kernel, by decide +kernel⟩
theorem lkv_X6_140 : LkV RX6 140 yX5_shown 1 := ⟨⟨tb_of 951 (by decide +kernel) (by decide +kernel), tb_of 952 (by decide +kernel) (by decide +kernel), tb_of 953 (by decide +kernel) (by decide +kernel), tb_of 32 (by decide +kernel) (by decide +kernel)⟩, by decide +kernel, by decide +kernel, by decide +kernel⟩
theorem lkv_X6_143 : LkV RX6 143 yX5_watchersOfLight 1 := ⟨⟨tb_of 955 (by decide +kernel) (by decide +kernel), tb_of 956 (by decide +kernel) (by decide +kernel), tb_of 957 (by decide +kernel) (by decide +kernel), tb_of 32 (by decide +kernel) (by decide +kernel)⟩, by decide +kernel, by decide +kernel, by decide +kernel⟩
theorem lkv_X5_114 : LkV RX5 114 yX5_farSight 1 := ⟨⟨tb_of 959 (by decide +kernel) (by decide +kernel), tb_of 940 (by decide +kernel) (by decide +kernel), tb_of 941 (by decide +kernel) (by decide +kernel), tb_of 32 (by decide +kernel) (by decide +kernel)⟩, by decide +kernel, by decide +kernel, by decide +kernel⟩
theorem lkv_L_126 : LkV RL 126 yX6_code 2 := ⟨⟨tb_of 960 (by decide +kernel) (by decide +kernel), tb_of 961 (by decide +kernel) (by decide +kernel), tb_of 962 (by decide +kernel) (by decide +kernel), tb_of 31 (by decide +kernel) (by decide +kernel)⟩, by decide +kernel, by decide +kernel, by decide +kernel⟩
theorem lkv_X6_155 : LkV RX6 155 yX6_codeTold 2 := ⟨⟨tb_of 964 (by decide +kernel) (by decide +kernel), tb_of 966 (by decide +kernel) (by decide +kernel), tb_of 16 (by decide +kernel) (by decide +kernel), tb_of 31 (by decide +kernel) (by decide +kernel)⟩, by decide +kernel, by decide +kernel, by decide +kernel⟩
theorem lkv_X6_152 : LkV RX6 152 yX5_isKnown 1 := ⟨⟨tb_of 968 (by decide +kernel) (by decide +kernel), tb_of 969 (by decide +kernel) (by decide +kernel), tb_of 970 (by decide +kernel) (by decide +kernel), tb_of 32 (by decide +kernel) (by decide +kernel)⟩, by decide +kernel, by decide +kernel, by decide +kernel⟩
theorem lkv_L_129 : LkV RL 129 yX6_place 2 := ⟨⟨tb_of 972 (by decide +kernel) (by decide +kernel), tb_of 973 (by decide +kernel) (by decide +kernel), tb_of 974 (by decide +kernel) (by decide +kernel), tb_of 31 (by decide +kernel) (by decide +kernel)⟩, by decide +kernel, by decide +kernel, by decide +kernel⟩
theorem lkv_X6_161 : LkV RX6 161 yX6_placeTold 2 := ⟨⟨tb_of 976 (by decide +kernel) (by decide +kernel), tb_of 978 (by decide +kernel) (by decide +kernel), tb_of 17 (by decide +kernel) (by decide +kernel), tb_of 31 (by decide +kernel) (by decide +kernel)⟩, by decide +kernel, by decide +kernel, by decide +kernel⟩
theorem lkv_X6_158 : LkV RX6 158 yX5_watchersOf 1 := ⟨⟨tb_of 980 (by decide +kernel) (by decide +kernel), tb_of 981 (by decide +kernel) (by decide +kernel), tb_of 982 (by decide +kernel) (by decide +kernel), tb_of 32 (by decide +kernel) (by decide +kernel)⟩, by decide +kernel, by decide +kernel, by decide +kernel⟩
theorem lkv_X5_117 : LkV RX5 117 yX5_sight 1 := ⟨⟨tb_of 984 (by decide +kernel) (by decide +kernel), tb_of 926 (by decide +kernel) (by decide +kernel), tb_of 927 (by decide +kernel) (by decide +kernel), tb_of 32 (by decide +kernel) (by decide +kernel)⟩, by decide +kernel, by decide +kernel, by decide +kernel⟩
theorem lkv_L_132 : LkV RL 132 yX6_moon 1 := ⟨⟨tb_of 985 (by decide +kernel) (by decide +kernel), tb_of 986 (by decide +kernel) (by decide +kernel), tb_of 987 (by decide +kernel) (by decide +kernel), tb_of 31 (by decide +kernel) (by decide +kernel)⟩, by decide +kernel, by decide +kernel, by decide +kernel⟩
theorem lks_X6_164 : LkS RX6 164 yX5_moonOf 1 := ⟨⟨tb_of 989 (by decide +kernel) (by decide +kernel), tb_of 934 (by decide +kernel) (by decide +kernel), tb_of 32 (by decide +kernel) (by decide +kernel)⟩, by decide +kernel, by decide +kernel, by decide +kernel⟩
theorem lkv_L_135 : LkV RL 135 yX6_count 1 := ⟨⟨tb_of 990 (by decide +kernel) (by decide +kernel), tb_of 991 (by decide +kernel) (by decide +kernel), tb_of 992 (by decide +kernel) (by decide +kernel), tb_of 31 (by decide +kernel) (by decide +kernel)⟩, by decide +kernel, by decide +kernel, by decide +kernel⟩
theorem lkv_X6_167 : LkV RX6 167 yX5_counted 1 := ⟨⟨tb_of 994 (by decide +kernel) (by decide +kernel), tb_of 995 (by decide +kernel) (by decide +kernel), tb_of 996 (by decide +kernel) (by decide +kernel), tb_of 32 (by decide +kernel) (by decide +kernel)⟩, by decide +kernel, by decide +kernel, by decide +kernel⟩
theorem lkv_X5_159 : LkV RX5 159 yX5_in 1 := ⟨⟨tb_of 998 (by decide +kernel) (by decide +kernel), tb_of 999 (by decide +kernel) (by decide +kernel), tb_of 1000 (by decide +kernel) (by decide +kernel), tb_of 32 (by decide +kernel) (by decide +kernel)⟩, by decide +kernel, by decide +kernel, by decide +kernel⟩
theorem lkv_X5_162 : LkV RX5 162 yX5_caves 0 := ⟨⟨tb_of 1002 (by decide +kernel) (by decide +kernel), tb_of 1003 (by decide +kernel) (by decide +kernel), tb_of 1004 (by decide +kernel) (by decide +kernel), tb_of 32 (by decide +kernel) (by decide +kernel)⟩, by decide +kernel, by decide +kernel, by decide +kernel⟩
theorem lkv_X5_165 : LkV RX5 165 yX5_known 0 := ⟨⟨tb_of 1006 (by decide +kernel) (by decide +kernel), tb_of 1008 (by decide +kernel) (by decide +kernel), tb_of 18 (by decide +kernel) (by decide +kernel), tb_of 32 (by decide +kernel) (by decide +kernel)⟩, by decide +kernel, by decide +kernel, by decide +kernel⟩
theorem lkv_X5_137 : LkV RX5 137 yX5_isKnown 1 := ⟨⟨tb_of 1010 (by decide +kernel) (by decide +kernel), tb_of 969 (by decide +kernel) (by decide +kernel), tb_of 970 (by decide +kernel) (by decide +kernel), tb_of 32 (by decide +kernel) (by decide +kernel)⟩, by decide +kernel, by decide +kernel, by decide +kernel⟩
theorem lkv_L_138 : LkV RL 138 yX6_pass 1 := ⟨⟨tb_of 1011 (by decide +kernel) (by decide +kernel), tb_of 1012 (by decide +kernel) (by decide +kernel), tb_of 1013 (by decide +kernel) (by decide +kernel), tb_of 31 (by decide +kernel) (by decide +kernel)⟩, by decide +kernel, by decide +kernel, by decide +kernel⟩
theorem lks_X6_174 : LkS RX6 174 yX6_goOn 2 := ⟨⟨tb_of 1015 (by decide +kernel) (by decide +kernel), tb_of 1016 (by decide +kernel) (by decide +kernel), tb_of 31 (by decide +kernel) (by decide +kernel)⟩, by decide +kernel, by decide +kernel, by decide +kernel⟩
theorem lkv_X6_170 : LkV RX6 170 yX5_go 0 := ⟨⟨tb_of 1018 (by decide +kernel) (by decide +kernel), tb_of 1019 (by decide +kernel) (by decide +kernel), tb_of 1020 (by decide +kernel) (by decide +kernel), tb_of 32 (by decide +kernel) (by decide +kernel)⟩, by decide +kernel, by decide +kernel, by decide +kernel⟩
theorem lkv_X5_144 : LkV RX5 144 yX5_note 0 := ⟨⟨tb_of 1022 (by decide +kernel) (by decide +kernel), tb_of 1024 (by decide +kernel) (by decide +kernel), tb_of 19 (by decide +kernel) (by decide +kernel), tb_of 32 (by decide +kernel) (by decide +kernel)⟩, by decide +kernel, by decide +kernel, by decide +kernel⟩
theorem lkv_X5_120 : LkV RX5 120 yX5_shown 1 := ⟨⟨tb_of 1026 (by decide +kernel) (by decide +kernel), tb_of 952 (by decide +kernel) (by decide +kernel), tb_of 953 (by decide +kernel) (by decide +kernel), tb_of 32 (by decide +kernel) (by decide +kernel)⟩, by decide +kernel, by decide +kernel, by decide +kernel⟩
theorem lkv_X5_123 : LkV RX5 123 yX5_watchersOfLight 1 := ⟨⟨tb_of 1027 (by decide +kernel) (by decide +kernel), tb_of 956 (by decide +kernel) (by decide +kernel), tb_of 957 (by decide +kernel) (by decide +kernel), tb_of 32 (by decide +kernel) (by decide +kernel)⟩, by decide +kernel, by decide +kernel, by decide +kernel⟩
theorem lkv_X5_141 : LkV RX5 141 yX5_isThere 1 := ⟨⟨tb_of 1028 (by decide +kernel) (by decide +kernel), tb_of 910 (by decide +kernel) (by decide +kernel), tb_of 911 (by decide +kernel) (by decide +kernel), tb_of 32 (by decide +kernel) (by decide +kernel)⟩, by decide +kernel, by decide +kernel, by decide +kernel⟩
theorem lkv_X5_147 : LkV RX5 147 yX5_unload 1 := ⟨⟨tb_of 1029 (by decide +kernel) (by decide +kernel), tb_of 1031 (by decide +kernel) (by decide +kernel), tb_of 20 (by decide +kernel) (by decide +kernel), tb_of 32 (by decide +kernel) (by decide +kernel)⟩, by decide +kernel, by decide +kernel, by decide +kernel⟩
theorem lks_X5_126 : LkS RX5 126 yJ9_min_7cf53 2 := ⟨⟨tb_of 1033 (by decide +kernel) (by decide +kernel), tb_of 1034 (by decide +kernel) (by decide +kernel), tb_of 39 (by decide +kernel) (by decide +kernel)⟩, by decide +kernel, by decide +kernel, by decide +kernel⟩
theorem lkv_X5_150 : LkV RX5 150 yX5_sail 1 := ⟨⟨tb_of 1036 (by decide +kernel) (by decide +kernel), tb_of 1038 (by decide +kernel) (by decide +kernel), tb_of 21 (by decide +kernel) (by decide +kernel), tb_of 32 (by decide +kernel) (by decide +kernel)⟩, by decide +kernel, by decide +kernel, by decide +kernel⟩
theorem lkv_X5_130 : LkV RX5 130 yX5_read 1 := ⟨⟨tb_of 1040 (by decide +kernel) (by decide +kernel), tb_of 1042 (by decide +kernel) (by decide +kernel), tb_of 22 (by decide +kernel) (by decide +kernel), tb_of 32 (by decide +kernel) (by decide +kernel)⟩, by decide +kernel, by decide +kernel, by decide +kernel⟩
theorem lks_X5_134 : LkS RX5 134 yJ9_max_7cf53 2 := ⟨⟨tb_of 1044 (by decide +kernel) (by decide +kernel), tb_of 1045 (by decide +kernel) (by decide +kernel), tb_of 39 (by decide +kernel) (by decide +kernel)⟩, by decide +kernel, by decide +kernel, by decide +kernel⟩
theorem lkv_X5_153 : LkV RX5 153 yX5_walk 1 := ⟨⟨tb_of 1047 (by decide +kernel) (by decide +kernel), tb_of 1049 (by decide +kernel) (by decide +kernel), tb_of 23 (by decide +kernel) (by decide +kernel), tb_of 32 (by decide +kernel) (by decide +kernel)⟩, by decide +kernel, by decide +kernel, by decide +kernel⟩
theorem lkv_X5_156 : LkV RX5 156 yX5_seize 1 := ⟨⟨tb_of 1051 (by decide +kernel) (by decide +kernel), tb_of 1053 (by decide +kernel) (by decide +kernel), tb_of 24 (by decide +kernel) (by decide +kernel), tb_of 32 (by decide +kernel) (by decide +kernel)⟩, by decide +kernel, by decide +kernel, by decide +kernel⟩
theorem lkv_L_141 : LkV RL 141 yX6_until 1 := ⟨⟨tb_of 1055 (by decide +kernel) (by decide +kernel), tb_of 1056 (by decide +kernel) (by decide +kernel), tb_of 1057 (by decide +kernel) (by decide +kernel), tb_of 31 (by decide +kernel) (by decide +kernel)⟩, by decide +kernel, by decide +kernel, by decide +kernel⟩
theorem lkv_X6_178 : LkV RX6 178 yX5_become 1 := ⟨⟨tb_of 1059 (by decide +kernel) (by decide +kernel), tb_of 1060 (by decide +kernel) (by decide +kernel), tb_of 1061 (by decide +kernel) (by decide +kernel), tb_of 32 (by decide +kernel) (by decide +kernel)⟩, by decide +kernel, by decide +kernel, by decide +kernel⟩
theorem lks_X5_97 : LkS RX5 97 yX5_copy 2 := ⟨⟨tb_of 1063 (by decide +kernel) (by decide +kernel), tb_of 1064 (by decide +kernel) (by decide +kernel), tb_of 32 (by decide +kernel) (by decide +kernel)⟩, by decide +kernel, by decide +kernel, by decide +kernel⟩
theorem lkv_L_144 : LkV RL 144 yX6_foresee 2 := ⟨⟨tb_of 1067 (by decide +kernel) (by decide +kernel), tb_of 1068 (by decide +kernel) (by decide +kernel), tb_of 1069 (by decide +kernel) (by decide +kernel), tb_of 31 (by decide +kernel) (by decide +kernel)⟩, by decide +kernel, by decide +kernel, by decide +kernel⟩
theorem lkv_L_147 : LkV RL 147 yX6_advise 1 := ⟨⟨tb_of 1071 (by decide +kernel) (by decide +kernel), tb_of 1072 (by decide +kernel) (by decide +kernel), tb_of 1073 (by decide +kernel) (by decide +kernel), tb_of 31 (by decide +kernel) (by decide +kernel)⟩, by decide +kernel, by decide +kernel, by decide +kernel⟩
theorem lkv_X6_182 : LkV RX6 182 yX5_caves 0 := ⟨⟨tb_of 1075 (by decide +kernel) (by decide +kernel), tb_of 1003 (by decide +kernel) (by decide +kernel), tb_of 1004 (by decide +kernel) (by decide +kernel), tb_of 32 (by decide +kernel) (by decide +kernel)⟩, by decide +kernel, by decide +kernel, by decide +kernel⟩
theorem lkv_L_150 : LkV RL 150 yX6_quiet 1 := ⟨⟨tb_of 1076 (by decide +kernel) (by decide +kernel), tb_of 1077 (by decide +kernel) (by decide +kernel), tb_of 1078 (by decide +kernel) (by decide +kernel), tb_of 31 (by decide +kernel) (by decide +kernel)⟩, by decide +kernel, by decide +kernel, by decide +kernel⟩
theorem lkv_L_155 : LkV RL 155 yX6_mean 0 := ⟨⟨tb_of 1080 (by decide +kernel) (by decide +kernel), tb_of 1081 (by decide +kernel) (by decide +kernel), tb_of 1082 (by decide +kernel) (by decide +kernel), tb_of 31 (by decide +kernel) (by decide +kernel)⟩, by decide +kernel, by decide +kernel, by decide +kernel⟩
theorem lkv_X6_185 : LkV RX6 185 yX5_in 1 := ⟨⟨tb_of 1084 (by decide +kernel) (by decide +kernel), tb_of 999 (by decide +kernel) (by decide +kernel), tb_of 1000 (by decide +kernel) (by decide +kernel), tb_of 32 (by decide +kernel) (by decide +kernel)⟩, by decide +kernel, by decide +kernel, by decide +kernel⟩
theorem lkv_L_160 : LkV RL 160 yX6_digest 0 := ⟨⟨tb_of 1085 (by decide +kernel) (by decide +kernel), tb_of 1086 (by decide +kernel) (by decide +kernel), tb_of 1087 (by decide +kernel) (by decide +kernel), tb_of 31 (by decide +kernel) (by decide +kernel)⟩, by decide +kernel, by decide +kernel, by decide +kernel⟩
end
