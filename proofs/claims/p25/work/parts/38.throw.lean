/-! Methods that throw: contracts, rows, the catching. -/
abbrev eI : String := "java/lang/IndexOutOfBoundsException"
abbrev eA : String := "java/lang/IllegalArgumentException"
abbrev eS : String := "java/lang/IllegalStateException"
abbrev eN : List String := ["java/lang/RuntimeException", "java/lang/Exception"]
def isCa : Cond → Bool
  | .castable _ _ => true
  | .declares _ => true
  | _ => false
def CaOK (U : State) : Prop := ∀ w ∈ lw_tbl, isCa w = true → va_Nw w U
theorem CaOK.warm {s U : State} (hW : s.WarmedH U.vm) (h : CaOK s) : CaOK U := by
  intro w hw hn
  have h1 := h w hw hn
  match w, hn, h1 with
  | .castable _ _, _, h1 => exact va_Nw.warmC hW h1
  | .declares _, _, h1 => exact va_Nw.warmD hW h1
theorem isCa_on {w : Cond} (h : isCa w = true) : w.onTables = true := by
  match w, h with
  | .castable _ _, _ => rfl
  | .declares _, _ => rfl
theorem CaOK.same {s U : State} (hv : s.vm = U.vm) (h : CaOK s) : CaOK U := fun w hw hn => va_tabs (isCa_on hn) hv (h w hw hn)
def NcOK (_ : State) : Prop := True
theorem NcOK.moved {s U : State} (_ : s.vm.Alike U.vm) (_ : NcOK s) : NcOK U := trivial
def Lx (U : State) : Prop := SrOK U ∧ CaOK U ∧ NcOK U
theorem Lx.warm {s U : State} (hW : s.WarmedH U.vm) (h : Lx s) : Lx U := ⟨SrOK.warm hW h.1, CaOK.warm hW h.2.1, NcOK.moved hW.alike h.2.2⟩
theorem Lx.same {s U : State} (hv : s.vm = U.vm) (h : Lx s) : Lx U := ⟨SrOK.same hv h.1, CaOK.same hv h.2.1, NcOK.moved (by rw [← hv]; exact Vm.Alike.refl s.vm) h.2.2⟩
def ZqOK (A : Nat → Prop) (U : State) (H : Heap) : Prop := vx_Zq Bundle.tN "UNASSIGNED_STACK" Bundle.steD A U H ∧ vx_Zq Bundle.tN "SUPPRESSED_SENTINEL" Bundle.listD A U H
theorem ZqOK.moved {A : Nat → Prop} {u U : State} {H : Heap} (hvm : u.vm.Alike U.vm) (h : ZqOK A u H) : ZqOK A U H := ⟨vx_Zq.moved hvm h.1, vx_Zq.moved hvm h.2⟩
theorem ZqOK.kept {A : Nat → Prop} {U : State} {H H1 : Heap} (h : ZqOK A U H) (hq : ∀ a : Nat, a < H.size → ¬ A a → H1[a]? = H[a]?) : ZqOK A U H1 := ⟨h.1.kept hq, h.2.kept hq⟩
theorem ZqOK.narrow {A B : Nat → Prop} {U : State} {H : Heap} (h : ZqOK A U H) (hAB : ∀ q, B q → A q) : ZqOK B U H := ⟨h.1.narrow hAB, h.2.narrow hAB⟩
def Gx (l : Launch) (s : State) (A : Nat → Prop) : Prop := l.stackTraces = false ∧ Lx s ∧ ZqOK A s s.heap
def Px (cy : Nat → ClassId) (D : va_G) (ad : Nat → Nat → Int → Nat) (sz : Nat) (As : List Value) (M : Mem) : Array Value → State → Prop := va_Pc As (fun U => (U.heap.size = sz ∧ va_P D vwCl (wsOf cy ad M) U.heap ∧ Kp cy D U ∧ Inj ad) ∧ Lx U ∧ ZqOK (Aw ad sz) U U.heap)
theorem Px_blind (cy : Nat → ClassId) (D : va_G) (ad : Nat → Nat → Int → Nat) (sz : Nat) (As : List Value) (M : Mem) : FrameBlind (Px cy D ad sz As M) := by
  intro a U g mk q
  obtain ⟨q0, ⟨q1, q2, q3, q4⟩, q5, q6⟩ := q
  exact ⟨q0, ⟨q1, q2, Kp.same (s := U) (U := U.calling g mk a) rfl q3, q4⟩, Lx.same (s := U) (U := U.calling g mk a) rfl q5, ZqOK.moved (u := U) (U := U.calling g mk a) (Vm.Alike.refl U.vm) q6⟩
def XX (cy : Nat → ClassId) (D : va_G) (ad : Nat → Nat → Int → Nat) (sz : Nat) (E : String) (M : Mem) : String → State → State → Prop := fun E1 st t => (E1 = E ∧ va_P D vwCl (wsOf cy ad M) t.heap) ∧ va_F (Aw ad sz) st t
def RX (lev : Nat) : Room := { frames := lev, cells := 1, slots := 6, locals := 30 * lev }
def noQ : Array Value → State → Outcome → State → Prop := fun _ _ _ _ => False
/-- a method that throws E, and leaves the memory as it was -/
def Tx (l : Launch) (cy : Nat → ClassId) (D : va_G) (ad : Nat → Nat → Int → Nat) (y : MethodName) (bytes : ByteArray) (maxL : Nat) (ret : Option FieldType) (lev : Nat) (As : List Value) (M : Mem) (E : String) : Prop :=
  ∀ sz : Nat, vx_Met l y (wsT y bytes maxL ret) (RX lev) (Px cy D ad sz As M) noQ (XX cy D ad sz E M) 1 6 (Aw ad sz)
/-- a method with a table of handlers that returns, having made one object at most -/
def Hx (l : Launch) (cy : Nat → ClassId) (D : va_G) (ad : Nat → Nat → Int → Nat) (y : MethodName) (bytes : ByteArray) (maxL : Nat) (ret : Option FieldType) (hh : List (Nat × Nat × Nat × Nat)) (lev : Nat) (As : List Value) (M : Mem) (r : Option Value) (M1 : Mem) : Prop :=
  ∀ sz : Nat, Met l y (Cond.codeWith y bytes maxL ret hh :: TB) (RX lev) (Px cy D ad sz As M) (Qn cy D ad sz r M1) 1 6 (Aw ad sz)
theorem lvh_entry {As : List Value} {maxL n : Nat} {lv : List (Option Value)} {ls : Array Slot} (hl : lv_has ls maxL (lv_args 0 As)) (hlv : lve As ++ List.replicate n none = lv) : lvh maxL ls lv := by
  refine ⟨hl.1, hl.2.1, fun i v hi => hl.2.2 (i, v) ?_⟩
  have hi2 : (lve As)[i]? = some (some v) := by
    rw [← hlv] at hi
    by_cases h : i < (lve As).length
    · rw [List.getElem?_append_left h] at hi
      exact hi
    · rw [List.getElem?_append_right (by omega), List.getElem?_replicate] at hi
      split at hi <;> cases hi
  simpa using lve_mem As 0 i v hi2
theorem Tx.mk {l : Launch} {cy : Nat → ClassId} {D : va_G} {ad : Nat → Nat → Int → Nat} {y : MethodName} {bytes : ByteArray} {maxL : Nat} {ret : Option FieldType} {lev : Nat} {As : List Value} {M : Mem} {E : String} {lv : List (Option Value)} (n : Nat) (hl9 : l.stackTraces = false)
    (hy : plainName y.cls = true) (hlv : lve As ++ List.replicate n none = lv) (hlen : (lg_sl As).length ≤ maxL)
    (body : ∀ (p : Program) (e : Env) (s : State) (m : MethodId) (below : List Frame) (meth : Method) (c : Code), Fx p s m As.toArray meth c y.cls bytes maxL ret cy D ad (Aw ad s.heap.size) → Gx l s (Aw ad s.heap.size) → (∀ x ∈ c.exceptionTable.toList, False) →
      V p l e (RX lev) s m As.toArray below meth c maxL cy D ad (Aw ad s.heap.size) 0 0 (vx_MQ below noQ (XX cy D ad s.heap.size E M) As.toArray s 1 6 (Aw ad s.heap.size)) 0 lv [] M) : Tx l cy D ad y bytes maxL ret lev As M E := by
  intro sz
  refine vx_ofW (cc := bytes) (maxL := maxL) (ret := ret) hy rfl ?_
  intro p e s m args below meth c s₁ B hml htb hv
  obtain ⟨rfl, ⟨hsz, hP, hK, hI⟩, hL, hZ⟩ := hv
  subst hsz
  have hts : ∀ w ∈ TB, w.before As.toArray s = true := fun w hw => atoms_spec (ws := wsT y bytes maxL ret) B.pre w (List.mem_cons_of_mem _ hw)
  have F : Fx p s m As.toArray meth c y.cls bytes maxL ret cy D ad (Aw ad s.heap.size) := ⟨B.exec, B.bytes, hml, findClass_of_methodNamed B.named, B.returns, B.notSynchronized, hts, hK, hI, fun t c i h => Or.inl ⟨t, c, i, h, rfl⟩, fun q h => Or.inr h⟩
  have hl := lv_entry As (n := maxL) hlen
  rw [lg_entry_eq]
  exact body p e s m below meth c F ⟨hl9, hL, hZ⟩ htb s.heap [] _ hP va_S.rf (lvh_entry hl hlv)
theorem Hx.mk {l : Launch} {cy : Nat → ClassId} {D : va_G} {ad : Nat → Nat → Int → Nat} {y : MethodName} {bytes : ByteArray} {maxL : Nat} {ret : Option FieldType} {hh : List (Nat × Nat × Nat × Nat)} {lev : Nat} {As : List Value} {M M1 : Mem} {r : Option Value} {lv : List (Option Value)} (n : Nat) (hl9 : l.stackTraces = false)
    (hy : plainName y.cls = true) (hlv : lve As ++ List.replicate n none = lv) (hlen : (lg_sl As).length ≤ maxL)
    (body : ∀ (p : Program) (e : Env) (s : State) (m : MethodId) (below : List Frame) (meth : Method) (c : Code), Fx p s m As.toArray meth c y.cls bytes maxL ret cy D ad (Aw ad s.heap.size) → Gx l s (Aw ad s.heap.size) → c.exceptionTable.toList = tableOf hh →
      V p l e (RX lev) s m As.toArray below meth c maxL cy D ad (Aw ad s.heap.size) 0 0 (MQ below (Qn cy D ad s.heap.size r M1) As.toArray s 1 6 (Aw ad s.heap.size)) 0 lv [] M) : Hx l cy D ad y bytes maxL ret hh lev As M r M1 := by
  intro sz
  refine va_MetW (cc := bytes) (maxL := maxL) (ret := ret) (hh := hh) hy rfl ?_
  intro p e s m args below meth c s₁ B hml hv
  obtain ⟨rfl, ⟨hsz, hP, hK, hI⟩, hL, hZ⟩ := hv
  subst hsz
  have hpre := atoms_spec (ws := Cond.codeWith y bytes maxL ret hh :: TB) B.pre
  have hts : ∀ w ∈ TB, w.before As.toArray s = true := fun w hw => hpre w (List.mem_cons_of_mem _ hw)
  have F : Fx p s m As.toArray meth c y.cls bytes maxL ret cy D ad (Aw ad s.heap.size) := ⟨B.exec, B.bytes, hml, findClass_of_methodNamed B.named, B.returns, B.notSynchronized, hts, hK, hI, fun t c i h => Or.inl ⟨t, c, i, h, rfl⟩, fun q h => Or.inr h⟩
  have hl := lv_entry As (n := maxL) hlen
  rw [lg_entry_eq]
  exact body p e s m below meth c F ⟨hl9, hL, hZ⟩ (vx_table (x := y) B (hpre _ List.mem_cons_self)) s.heap [] _ hP va_S.rf (lvh_entry hl hlv)
def atOK (own : String) (ic : Nat) (E : String) : Bool := (vx_atS own ic E eN).all fun w => decide (w ∈ lw_tbl) && (goodWord w || isCa w)
theorem at_words {own E : String} {ic : Nat} (h : atOK own ic E = true) {args : Array Value} {s : State} (hts : ∀ w ∈ TB, w.before args s = true) (hca : CaOK s) : ∀ w ∈ vx_atS own ic E eN, w.before args s = true ∧ vx_ot w = true := by
  intro w hw
  have h1 := List.all_eq_true.mp h w hw
  simp only [Bool.and_eq_true, Bool.or_eq_true, decide_eq_true_eq] at h1
  obtain ⟨h2, h3⟩ := h1
  rcases h3 with h3 | h3
  · exact ⟨hts w (List.mem_filter.mpr ⟨h2, h3⟩), by unfold vx_ot; rw [h3, Bool.or_true]⟩
  · exact ⟨va_tabs (isCa_on h3) rfl (hca w h2 h3), by unfold vx_ot; rw [isCa_on h3, Bool.true_or]⟩
theorem at_I : atOK RX4 82 eI = true := by decide +kernel
theorem at_A : atOK RX4 27 eA = true := by decide +kernel
theorem at_S : atOK RX4 38 eS = true := by decide +kernel
section XROWS
variable {p : Program} {l : Launch} {e : Env} {R : Room} {s : State} {m : MethodId} {args : Array Value} {below : List Frame} {meth : Method} {c : Code} {nL : Nat} {cy : Nat → ClassId} {D : va_G} {ad : Nat → Nat → Int → Nat} {A : Nat → Prop} {kc ks : Nat} {Q : State → Prop} {pc : Nat} {lv : List (Option Value)} {st : List Value} {M : Mem} {own : String} {cc : ByteArray} {ret : Option FieldType} {E : String}
theorem r_throw (F : Fx p s m args meth c own cc nL ret cy D ad (Aw ad s.heap.size)) (G : Gx l s (Aw ad s.heap.size)) (htb : ∀ x ∈ c.exceptionTable.toList, False) {text : String} {ik is ic : Nat} {Qc : Array Value → State → Outcome → State → Prop}
    (hE : Bundle.fit E = true) (hk : Cond.classLink own ik E ∈ TB) (hini : Cond.initialized E ∈ TB) (hstr : Cond.stringRef own is text ∈ lw_tbl) (hat : atOK own ic E = true)
    (d0 : decode cc pc = .ok (.new ik, 3)) (d3 : decode cc (pc + 3) = .ok (.dup, 1)) (d4 : decode cc (pc + 4) = .ok (.ldc is, 2)) (d6 : decode cc (pc + 6) = .ok (.invokespecial ic, 3)) (d9 : decode cc (pc + 9) = .ok (.athrow, 1))
    (hR : 5 < R.frames ∧ (st.map fun v => v.category).sum + 82 ≤ R.locals ∧ 1 ≤ R.cells ∧ 6 ≤ R.slots) :
    V p l e R s m args below meth c nL cy D ad (Aw ad s.heap.size) 0 0 (vx_MQ below Qc (XX cy D ad s.heap.size E M) args s 1 6 (Aw ad s.heap.size)) pc lv st M := by
  obtain ⟨hx, hb, hml, hown, hr, hlk, hts, hK, hI, hA1, hA2⟩ := F
  obtain ⟨hl9, ⟨hSr, hCa, hNc⟩, hZ1, hZ2⟩ := G
  obtain ⟨sa, hsa⟩ := hSr _ _ _ hstr
  have hw := at_words hat hts hCa
  intro H locs ls hP hS hl
  refine vx_throwS (names := eN) hx hb hl9 hown hE (by decide +kernel) (hts _ hk) (hts _ hini) hsa (fun w h => (hw w h).1) ?_ hZ1 hZ2 hS (hl.1.trans hml.symm) d0 d3 d4 d6 d9 (fun x hx => (htb x hx).elim) hR.1 (by have := hR.2.1; show _ + (13 * (2 + 1) + 43) ≤ _; omega) (by omega) (by omega) hlk ?_ hS.2.2 (Nat.le_refl _) (Nat.le_refl _)
  · intro w h
    rcases List.mem_cons.mp h with rfl | h
    · rfl
    · rcases List.mem_cons.mp h with rfl | h
      · rfl
      · exact (hw w h).2
  · intro t hal hz hk9
    refine ⟨⟨rfl, hP.kept (fun k x hx => hk9 x.1 (hP k x hx).lt)⟩, Nat.le_trans hS.1 hz, fun q h1 h2 => (hk9 q (Nat.lt_of_lt_of_le h1 hS.1)).trans (hS.2.1 q h1 h2)⟩
theorem r_tafter {aa : Array Value} {stk : List Value} (htb : ∀ x ∈ c.exceptionTable.toList, False) (hlk : meth.locks = false) (hA1 : ∀ (t c : Nat) (i : Int), dmb ad t c i = true → Aw ad s.heap.size (ad t c i)) {Qc : Array Value → State → Outcome → State → Prop}
    (run : ∀ (H : Heap) (locs : List Loc) (ls : Array Slot), va_P D vwCl (wsOf cy ad M) H → va_S (Aw ad s.heap.size) s.heap H locs → lvh nL ls lv → vx_Run p l e R s m args below meth c H locs 0 0 1 6 (F0 m pc ls stk) st (noQ aa) (XX cy D ad H.size E M) (Aw ad H.size)) :
    V p l e R s m args below meth c nL cy D ad (Aw ad s.heap.size) 0 0 (vx_MQ below Qc (XX cy D ad s.heap.size E M) args s 1 6 (Aw ad s.heap.size)) pc lv stk M := by
  intro H locs ls hP hS hl T hT X
  rcases run H locs ls hP hS hl T hT X with ⟨v, st₀, t, T', L, h0, X', hL, e1, e2, hn, stp⟩ | ⟨q, st₀, t, T', L, E1, ce, h0, X', hL, e1, e2, ⟨⟨hE, hP1⟩, hz, hk⟩, hce, hcv, hcl, stp⟩
  · exact hn.elim
  · rw [h0] at hz hk
    have hsub : ∀ q, Aw ad H.size q → Aw ad s.heap.size q := Aw_sub hA1 (fun q h => Or.inr h) hS.1
    have hf : ∀ z ∈ locs ++ L, Aw ad s.heap.size z.base := fun z hz9 => by
      rcases List.mem_append.mp hz9 with h | h
      · exact hS.2.2 z h
      · exact hsub _ (hL z h)
    obtain ⟨t2, a1, b1⟩ := vx_out (p := p) (l := l) (e := e) (R := R) (s := s) (m := m) (args := args) (below := below) (meth := meth) (c := c) (H := T'.heap) (locs := locs ++ L) (cells := 0 + 1) (slots := 0 + 6) (free := Aw ad s.heap.size) (ls := ls) (rest := st) (Qc := Qc) (XC := XX cy D ad s.heap.size E M) (pc := pc) (mc := 1) (ms := 6) (fun x hx => (htb x hx).elim) hlk (by rw [e1]; exact hce) hcv hcl (fun t9 h9 _ => by
      refine ⟨⟨hE, by rw [h9, e1]; exact hP1⟩, by rw [h9, e1]; exact Nat.le_trans hS.1 hz, fun q h1 h2 => ?_⟩
      rw [h9, e1, hk q (Nat.lt_of_lt_of_le h1 hS.1) (fun z => h2 (hsub q z))]
      exact hS.2.1 q h1 h2) hf (Nat.le_refl _) (Nat.le_refl _) T' rfl X'
    exact ⟨t2, stp.trans a1, b1⟩
theorem Gx.at (G : Gx l s A) (hA1 : ∀ (t c : Nat) (i : Int), dmb ad t c i = true → A (ad t c i)) (hA2 : ∀ q : Nat, s.heap.size ≤ q → A q) {H : Heap} {locs : List Loc} (hS : va_S A s.heap H locs) {U : State} (hU : U.heap = H) (hW : s.WarmedH U.vm) : Lx U ∧ ZqOK (Aw ad H.size) U U.heap := by
  obtain ⟨-, hL, hZ⟩ := G
  refine ⟨hL.warm hW, ?_⟩
  rw [hU]
  exact ((hZ.kept hS.2.1).moved hW.alike).narrow (Aw_sub hA1 hA2 hS.1)
theorem r_tcallV (F : Fx p s m args meth c own cc nL ret cy D ad (Aw ad s.heap.size)) (G : Gx l s (Aw ad s.heap.size)) (htb : ∀ x ∈ c.exceptionTable.toList, False) {y : MethodName} {bytes : ByteArray} {maxL n lev index t cc1 ci N : Nat} {i : Int} {ret1 : Option FieldType} {fs : List Value} {T : u_T} {As stk : List Value} {Qc : Array Value → State → Outcome → State → Prop} (hM : Tx l cy D ad y bytes maxL ret1 lev (.ref (ad t cc1 i) :: As) M E) (d : decode cc pc = .ok (.invokevirtual index, 3)) (lk : LkV own index y n) (hn : As.length = n) (hst : stk = As.reverse ++ .ref (ad t cc1 i) :: st) (hk : dmb ad t cc1 i = true) (hcel : cel cy ad M t cc1 i = .inr (ci, fs)) (hc : vwCl[ci]? = some (y.cls, T, N)) (hcd : Cond.code y bytes maxL ret1 ∈ TB) (hR : lev + 1 ≤ R.frames ∧ 8 + (maxL + 11) + 30 * lev ≤ R.locals) (hf : 1 ≤ R.cells ∧ 6 ≤ R.slots) (hw : (st.map fun v => v.category).sum ≤ 8) :
    V p l e R s m args below meth c nL cy D ad (Aw ad s.heap.size) 0 0 (vx_MQ below Qc (XX cy D ad s.heap.size E M) args s 1 6 (Aw ad s.heap.size)) pc lv stk M := by
  obtain ⟨hx, hb, hml, hown, hr, hlk, hts, hK, hI, hA1, hA2⟩ := F
  subst hst
  obtain ⟨⟨l1, l2, l3, l4⟩, g1, g2, g3⟩ := lk
  refine r_tafter (st := st) (aa := (Value.ref (ad t cc1 i) :: As).toArray) htb hlk hA1 (fun H locs ls hP hS hl => ?_)
  obtain ⟨q0, hq, hw1⟩ := ws_at (cy := cy) (ad := ad) M hk
  refine vx_runV (Ts := TB) (C := y.cls) (rm := RX lev) ⟨hx, hb, hml, hown, hts⟩ (hM H.size) (cwV n hts (tb_good (fun _ h => h) (X := wsV own index y.cls y (wsT y bytes maxL ret1)) ?_) rfl rfl rfl ⟨rfl, g1, g2, g3⟩ hR) ⟨Px_blind _ _ _ _ _ _, va_recv hK.1 hP hc (by rw [hw1, hcel]), fun U hU hW => ⟨rfl, ⟨by rw [hU], by rw [hU]; exact hP, hK.warm hW, hI⟩, G.at hA1 hA2 hS hU hW⟩⟩ rfl hn hl.1 rfl (lv_room hw) d ⟨by omega, by omega⟩
  intro w hw2
  simp only [wsV, List.mem_append, List.mem_cons, List.not_mem_nil, or_false, wsT] at hw2
  rcases hw2 with (rfl | rfl | rfl | rfl) | (rfl | h)
  · exact l1
  · exact l2
  · exact l3
  · exact l4
  · exact hcd
  · exact h
theorem r_tcallS (F : Fx p s m args meth c own cc nL ret cy D ad (Aw ad s.heap.size)) (G : Gx l s (Aw ad s.heap.size)) (htb : ∀ x ∈ c.exceptionTable.toList, False) {y : MethodName} {bytes : ByteArray} {maxL n lev index : Nat} {ret1 : Option FieldType} {As stk : List Value} {Qc : Array Value → State → Outcome → State → Prop} (hM : Tx l cy D ad y bytes maxL ret1 lev As M E) (d : decode cc pc = .ok (.invokestatic index, 3)) (lk : LkS own index y n) (hn : As.length = n) (hst : stk = As.reverse ++ st) (hcd : Cond.code y bytes maxL ret1 ∈ TB) (hR : lev + 1 ≤ R.frames ∧ 8 + (maxL + 11) + 30 * lev ≤ R.locals) (hf : 1 ≤ R.cells ∧ 6 ≤ R.slots) (hw : (st.map fun v => v.category).sum ≤ 8) :
    V p l e R s m args below meth c nL cy D ad (Aw ad s.heap.size) 0 0 (vx_MQ below Qc (XX cy D ad s.heap.size E M) args s 1 6 (Aw ad s.heap.size)) pc lv stk M := by
  obtain ⟨hx, hb, hml, hown, hr, hlk, hts, hK, hI, hA1, hA2⟩ := F
  subst hst
  obtain ⟨⟨l1, l2, l4⟩, g1, g2, g3⟩ := lk
  refine r_tafter (st := st) (aa := As.toArray) htb hlk hA1 (fun H locs ls hP hS hl => ?_)
  refine vx_runS (Ts := TB) (rm := RX lev) ⟨hx, hb, hml, hown, hts⟩ (hM H.size) (va_cwS n hts (tb_good (fun _ h => h) (X := va_wsS own index y (wsT y bytes maxL ret1)) ?_) rfl rfl rfl ⟨g1, g2, g3⟩ hR) ⟨Px_blind _ _ _ _ _ _, fun U hU hW => ⟨rfl, ⟨by rw [hU], by rw [hU]; exact hP, hK.warm hW, hI⟩, G.at hA1 hA2 hS hU hW⟩⟩ rfl hn hl.1 rfl (lv_room hw) d ⟨by omega, by omega⟩
  intro w hw2
  simp only [va_wsS, List.mem_append, List.mem_cons, List.not_mem_nil, or_false, wsT] at hw2
  rcases hw2 with (rfl | rfl | rfl) | (rfl | h)
  · exact l1
  · exact l2
  · exact l4
  · exact hcd
  · exact h
/-- a call that throws, caught here -/
theorem r_catchV (F : Fx p s m args meth c own cc nL ret cy D ad A) (G : Gx l s A) {tgt : Nat} {hh : List (Nat × Nat × Nat × Nat)} (htab : c.exceptionTable.toList = tableOf hh) (pre : List ExceptionTableEntry) (x : ExceptionTableEntry) (suf : List ExceptionTableEntry) (hsplit : tableOf hh = pre ++ x :: suf)
    (hpass : ∀ z ∈ pre, covers z pc = false) (hcov : covers x pc = true) (htgt : x.handlerPc = tgt) (h0 : x.catchType ≠ 0) (hlink : Cond.classLink own x.catchType E ∈ TB) (hcast : Cond.castable E E ∈ lw_tbl)
    {y : MethodName} {bytes : ByteArray} {maxL n lev index t cc1 ci N : Nat} {i : Int} {ret1 : Option FieldType} {fs : List Value} {T : u_T} {As stk : List Value} (hM : Tx l cy D ad y bytes maxL ret1 lev (.ref (ad t cc1 i) :: As) M E) (d : decode cc pc = .ok (.invokevirtual index, 3)) (lk : LkV own index y n) (hn : As.length = n) (hst : stk = As.reverse ++ .ref (ad t cc1 i) :: st) (hk : dmb ad t cc1 i = true) (hcel : cel cy ad M t cc1 i = .inr (ci, fs)) (hc : vwCl[ci]? = some (y.cls, T, N)) (hcd : Cond.code y bytes maxL ret1 ∈ TB) (hR : lev + 1 ≤ R.frames ∧ 8 + (maxL + 11) + 30 * lev ≤ R.locals) (hf : kc + 1 ≤ R.cells ∧ ks + 6 ≤ R.slots) (hw : (st.map fun v => v.category).sum ≤ 8)
    (kk : ∀ q : Nat, V p l e R s m args below meth c nL cy D ad A (kc + 1) (ks + 6) Q tgt lv [.ref q] M) : V p l e R s m args below meth c nL cy D ad A kc ks Q pc lv stk M := by
  obtain ⟨hx, hb, hml, hown, hr, hlk, hts, hK, hI, hA1, hA2⟩ := F
  have hCa := G.2.1.2.1
  subst hst
  subst htgt
  obtain ⟨⟨l1, l2, l3, l4⟩, g1, g2, g3⟩ := lk
  intro H locs ls hP hS hl
  obtain ⟨q0, hq, hw1⟩ := ws_at (cy := cy) (ad := ad) M hk
  have run : vx_Run p l e R s m args below meth c H locs kc ks 1 6 (F0 m pc ls (As.reverse ++ .ref (ad t cc1 i) :: st)) st (noQ (Value.ref (ad t cc1 i) :: As).toArray) (XX cy D ad H.size E M) (Aw ad H.size) := by
    refine vx_runV (Ts := TB) (C := y.cls) (rm := RX lev) ⟨hx, hb, hml, hown, hts⟩ (hM H.size) (cwV n hts (tb_good (fun _ h => h) (X := wsV own index y.cls y (wsT y bytes maxL ret1)) ?_) rfl rfl rfl ⟨rfl, g1, g2, g3⟩ hR) ⟨Px_blind _ _ _ _ _ _, va_recv hK.1 hP hc (by rw [hw1, hcel]), fun U hU hW => ⟨rfl, ⟨by rw [hU], by rw [hU]; exact hP, hK.warm hW, hI⟩, G.at hA1 hA2 hS hU hW⟩⟩ rfl hn hl.1 rfl (lv_room hw) d hf
    intro w hw2
    simp only [wsV, List.mem_append, List.mem_cons, List.not_mem_nil, or_false, wsT] at hw2
    rcases hw2 with (rfl | rfl | rfl | rfl) | (rfl | h)
    · exact l1
    · exact l2
    · exact l3
    · exact l4
    · exact hcd
    · exact h
  intro T9 hT X
  rcases run T9 hT X with ⟨v, st₀, t9, T', L, h9, X', hL, e1, e2, hn, stp⟩ | ⟨q, st₀, t9, T', L, E1, ce, h9, X', hL, e1, e2, ⟨⟨hE, hP1⟩, hz, hk9⟩, hce, hcv, hcl, stp⟩
  · exact hn.elim
  · subst hE
    rw [h9] at hz hk9
    have hsub := Aw_sub hA1 hA2 (sz := H.size) hS.1
    have hS1 : va_S A s.heap T'.heap (locs ++ L) := ⟨Nat.le_trans hS.1 (by rw [e1]; exact hz), fun q h1 h2 => by
        rw [e1, hk9 q (Nat.lt_of_lt_of_le h1 hS.1) (fun z => h2 (hsub q z))]; exact hS.2.1 q h1 h2, fun q hq => by
        rcases List.mem_append.mp hq with h | h
        · exact hS.2.2 q h
        · exact hsub _ (hL q h)⟩
    obtain ⟨t2, a1, b1⟩ := vx_catch (H := T'.heap) (locs := locs ++ L) (cells := kc + 1) (slots := ks + 6) (Q := Q) (ls := ls) (pc := pc) (rest := st) hown pre x suf (htab.trans hsplit) (fun z hz9 => Or.inl (hpass z hz9)) hcov h0 (hts _ hlink) (va_tabs rfl rfl (hCa _ hcast rfl)) (by rw [e1]; exact hce) hcv hcl (kk q T'.heap (locs ++ L) ls (by rw [e1]; exact hP1) hS1 hl) T' rfl X'
    exact ⟨t2, stp.trans a1, b1⟩
/-- a static call of a method with a table of its own, which may have made one object -/
theorem r_callH (F : Fx p s m args meth c own cc nL ret cy D ad A) (G : Gx l s A) {y : MethodName} {bytes : ByteArray} {maxL n lev index : Nat} {ret1 : Option FieldType} {hh : List (Nat × Nat × Nat × Nat)} {As stk : List Value} {r : Option Value} {M1 : Mem} (hM : Hx l cy D ad y bytes maxL ret1 hh lev As M r M1) (d : decode cc pc = .ok (.invokestatic index, 3)) (lk : LkS own index y n) (hn : As.length = n) (hst : stk = As.reverse ++ st) (hcd : Cond.codeWith y bytes maxL ret1 hh ∈ TB) (hR : lev + 1 ≤ R.frames ∧ 8 + (maxL + 11) + 30 * lev ≤ R.locals) (hf : kc + 1 ≤ R.cells ∧ ks + 6 ≤ R.slots) (hw : (st.map fun v => v.category).sum ≤ 8) (kk : V p l e R s m args below meth c nL cy D ad A (kc + 1) (ks + 6) Q (pc + 3) lv (r.toList ++ st) M1) : V p l e R s m args below meth c nL cy D ad A kc ks Q pc lv stk M := by
  obtain ⟨hx, hb, hml, hown, hr, hlk, hts, hK, hI, hA1, hA2⟩ := F
  subst hst
  obtain ⟨⟨l1, l2, l4⟩, g1, g2, g3⟩ := lk
  intro H locs ls hP hS hl
  have run : va_Run p l e R s m args below meth c H locs kc ks 1 6 (F0 m pc ls (As.reverse ++ st)) st (Qn cy D ad H.size r M1 As.toArray) (Aw ad H.size) := by
    refine vx_runSW (Ts := TB) (rm := RX lev) (hh := hh) ⟨hx, hb, hml, hown, hts⟩ (hM H.size) (vx_cwSW n hts (tb_good (fun _ h => h) (X := va_wsS own index y (Cond.codeWith y bytes maxL ret1 hh :: TB)) ?_) rfl rfl rfl ⟨g1, g2, g3⟩ hR) ⟨Px_blind _ _ _ _ _ _, fun U hU hW => ⟨rfl, ⟨by rw [hU], by rw [hU]; exact hP, hK.warm hW, hI⟩, G.at hA1 hA2 hS hU hW⟩⟩ rfl hn hl.1 rfl (lv_room hw) d hf
    intro w hw2
    simp only [va_wsS, List.mem_append, List.mem_cons, List.not_mem_nil, or_false] at hw2
    rcases hw2 with (rfl | rfl | rfl) | (rfl | h)
    · exact l1
    · exact l2
    · exact l4
    · exact hcd
    · exact h
  intro T hT X
  obtain ⟨v, st₀, t, T', L, h0, X', hL, e1, e2, ⟨⟨hv, hP1⟩, hz, hk⟩, stp⟩ := run T hT X
  cases hv
  rw [h0] at hz hk
  have hsub := Aw_sub hA1 hA2 (sz := H.size) hS.1
  have hS1 : va_S A s.heap T'.heap (locs ++ L) := ⟨Nat.le_trans hS.1 (by rw [e1]; exact hz), fun q h1 h2 => by
      rw [e1, hk q (Nat.lt_of_lt_of_le h1 hS.1) (fun z => h2 (hsub q z))]; exact hS.2.1 q h1 h2, fun q hq => by
      rcases List.mem_append.mp hq with h | h
      · exact hS.2.2 q h
      · exact hsub _ (hL q h)⟩
  obtain ⟨t2, a1, b1⟩ := kk T'.heap (locs ++ L) ls (by rw [e1]; exact hP1) hS1 hl T' rfl X'
  exact ⟨t2, stp t2 a1, b1⟩
end XROWS
