/-! Contracts of methods over the world, their starts, ends and calls. -/
def wsT (y : MethodName) (bytes : ByteArray) (maxL : Nat) (ret : Option FieldType) : List Cond := Cond.code y bytes maxL ret :: TB
def RM (lev : Nat) : Room := { frames := lev, cells := 0, slots := 0, locals := 30 * lev }
def Pn (cy : Nat → ClassId) (D : va_G) (ad : Nat → Nat → Int → Nat) (sz : Nat) (As : List Value) (M : Mem) : Array Value → State → Prop := va_Pc As (fun U => U.heap.size = sz ∧ va_P D vwCl (wsOf cy ad M) U.heap ∧ Kp cy D U ∧ Inj ad)
def Qn (cy : Nat → ClassId) (D : va_G) (ad : Nat → Nat → Int → Nat) (sz : Nat) (r : Option Value) (M : Mem) : Array Value → State → Outcome → State → Prop := fun _ st o t => (o = .returned r ∧ va_P D vwCl (wsOf cy ad M) t.heap) ∧ va_F (Aw ad sz) st t
/-- a method that returns: its answer and the memory behind it -/
def Ct (l : Launch) (cy : Nat → ClassId) (D : va_G) (ad : Nat → Nat → Int → Nat) (y : MethodName) (bytes : ByteArray) (maxL : Nat) (ret : Option FieldType) (lev : Nat) (As : List Value) (M : Mem) (r : Option Value) (M1 : Mem) : Prop :=
  ∀ sz : Nat, Met l y (wsT y bytes maxL ret) (RM lev) (Pn cy D ad sz As M) (Qn cy D ad sz r M1) 0 0 (Aw ad sz)
theorem Pn_blind (cy : Nat → ClassId) (D : va_G) (ad : Nat → Nat → Int → Nat) (sz : Nat) (As : List Value) (M : Mem) : FrameBlind (Pn cy D ad sz As M) := by
  intro a U g mk q
  obtain ⟨q0, q1, q2, q3, q4⟩ := q
  exact ⟨q0, q1, q2, Kp.same (s := U) (U := U.calling g mk a) rfl q3, q4⟩
theorem Ct.mk {l : Launch} {cy : Nat → ClassId} {D : va_G} {ad : Nat → Nat → Int → Nat} {y : MethodName} {bytes : ByteArray} {maxL : Nat} {ret : Option FieldType} {lev : Nat} {As : List Value} {M M1 : Mem} {r : Option Value} {lv : List (Option Value)} (n : Nat)
    (hy : plainName y.cls = true) (hlv : lve As ++ List.replicate n none = lv) (hlen : (lg_sl As).length ≤ maxL)
    (body : ∀ (p : Program) (e : Env) (s : State) (m : MethodId) (below : List Frame) (meth : Method) (c : Code), Fx p s m As.toArray meth c y.cls bytes maxL ret cy D ad (Aw ad s.heap.size) →
      V p l e (RM lev) s m As.toArray below meth c maxL cy D ad (Aw ad s.heap.size) 0 0 (MQ below (Qn cy D ad s.heap.size r M1) As.toArray s 0 0 (Aw ad s.heap.size)) 0 lv [] M) : Ct l cy D ad y bytes maxL ret lev As M r M1 := by
  intro sz
  refine Met.ofW (cc := bytes) (maxL := maxL) (ret := ret) hy rfl ?_
  intro p e s m args below meth c s₁ B hml hv
  obtain ⟨rfl, hsz, hP, hK, hI⟩ := hv
  subst hsz
  have hts : ∀ w ∈ TB, w.before As.toArray s = true := fun w hw => atoms_spec (ws := wsT y bytes maxL ret) B.pre w (List.mem_cons_of_mem _ hw)
  have F : Fx p s m As.toArray meth c y.cls bytes maxL ret cy D ad (Aw ad s.heap.size) := ⟨B.exec, B.bytes, hml, findClass_of_methodNamed B.named, B.returns, B.notSynchronized, hts, hK, hI, fun t c i h => Or.inl ⟨t, c, i, h, rfl⟩, fun q h => Or.inr h⟩
  have hl := lv_entry As (n := maxL) hlen
  rw [lg_entry_eq]
  refine body p e s m below meth c F s.heap [] _ hP va_S.rf ⟨hl.1, hl.2.1, fun i v hi => hl.2.2 (i, v) ?_⟩
  have hi2 : (lve As)[i]? = some (some v) := by
    rw [← hlv] at hi
    by_cases h : i < (lve As).length
    · rw [List.getElem?_append_left h] at hi
      exact hi
    · rw [List.getElem?_append_right (by omega), List.getElem?_replicate] at hi
      split at hi <;> cases hi
  simpa using lve_mem As 0 i v hi2
def LkV (own : String) (index : Nat) (y : MethodName) (n : Nat) : Prop := (Cond.methodLink own index y ∈ TB ∧ Cond.instanceMethod y ∈ TB ∧ Cond.selects y.cls y y ∈ TB ∧ Cond.initialized y.cls ∈ TB) ∧ y.cls ≠ "java/lang/invoke/MethodHandle" ∧ y.cls ≠ "java/lang/invoke/VarHandle" ∧ (parseMethodDescriptor y.desc).map (fun d => d.parameters.length) = some n
def LkS (own : String) (index : Nat) (y : MethodName) (n : Nat) : Prop := (Cond.methodLink own index y ∈ TB ∧ Cond.static y ∈ TB ∧ Cond.initialized y.cls ∈ TB) ∧ y.cls ≠ "java/lang/invoke/MethodHandle" ∧ y.cls ≠ "java/lang/invoke/VarHandle" ∧ (parseMethodDescriptor y.desc).map (fun d => d.parameters.length) = some n
def LkSN (own : String) (index : Nat) (y : MethodName) (host : String) (n : Nat) : Prop := (Cond.methodLinkNest own index y host ∈ lw_tbl ∧ Cond.static y ∈ TB ∧ Cond.initialized y.cls ∈ TB) ∧ y.cls ≠ "java/lang/invoke/MethodHandle" ∧ y.cls ≠ "java/lang/invoke/VarHandle" ∧ (parseMethodDescriptor y.desc).map (fun d => d.parameters.length) = some n
section CALLS
variable {p : Program} {l : Launch} {e : Env} {R : Room} {s : State} {m : MethodId} {args : Array Value} {below : List Frame} {meth : Method} {c : Code} {nL : Nat} {cy : Nat → ClassId} {D : va_G} {ad : Nat → Nat → Int → Nat} {A : Nat → Prop} {kc ks : Nat} {Q : State → Prop} {pc : Nat} {lv : List (Option Value)} {st : List Value} {M : Mem} {own : String} {cc : ByteArray} {ret : Option FieldType}
theorem Aw_sub (hA1 : ∀ (t c : Nat) (i : Int), dmb ad t c i = true → A (ad t c i)) (hA2 : ∀ q : Nat, s.heap.size ≤ q → A q) {sz : Nat} (h : s.heap.size ≤ sz) : ∀ q, Aw ad sz q → A q := by
  intro q hq
  rcases hq with ⟨t, c, i, h1, h2⟩ | h1
  · rw [h2]; exact hA1 t c i h1
  · exact hA2 q (Nat.le_trans h h1)
theorem r_after {aa : Array Value} {stk : List Value} {r : Option Value} {M1 : Mem} (hA1 : ∀ (t c : Nat) (i : Int), dmb ad t c i = true → A (ad t c i)) (hA2 : ∀ q : Nat, s.heap.size ≤ q → A q)
    (run : ∀ (H : Heap) (locs : List Loc) (ls : Array Slot), va_P D vwCl (wsOf cy ad M) H → va_S A s.heap H locs → lvh nL ls lv → va_Run p l e R s m args below meth c H locs kc ks 0 0 (F0 m pc ls stk) st (Qn cy D ad H.size r M1 aa) (Aw ad H.size))
    (kk : V p l e R s m args below meth c nL cy D ad A kc ks Q (pc + 3) lv (r.toList ++ st) M1) : V p l e R s m args below meth c nL cy D ad A kc ks Q pc lv stk M := by
  intro H locs ls hP hS hl T hT X
  obtain ⟨v, st₀, t, T', L, h0, X', hL, e1, e2, ⟨⟨hv, hP1⟩, hz, hk⟩, stp⟩ := run H locs ls hP hS hl T hT X
  cases hv
  rw [h0] at hz hk
  have hsub := Aw_sub hA1 hA2 (sz := H.size) hS.1
  have hS1 : va_S A s.heap T'.heap (locs ++ L) := ⟨Nat.le_trans hS.1 (by rw [e1]; exact hz), fun q h1 h2 => by
      rw [e1, hk q (Nat.lt_of_lt_of_le h1 hS.1) (fun z => h2 (hsub q z))]; exact hS.2.1 q h1 h2, fun q hq => by
      rcases List.mem_append.mp hq with h | h
      · exact hS.2.2 q h
      · exact hsub _ (hL q h)⟩
  obtain ⟨t2, a1, b1⟩ := kk T'.heap (locs ++ L) ls (by rw [e1]; exact hP1) hS1 hl T' rfl X'
  exact ⟨t2, stp t2 a1, b1⟩

theorem r_callV (F : Fx p s m args meth c own cc nL ret cy D ad A) {y : MethodName} {bytes : ByteArray} {maxL n lev index t cc1 ci N : Nat} {i : Int} {ret1 : Option FieldType} {fs : List Value} {T : u_T} {As stk : List Value} {r : Option Value} {M1 : Mem} (hM : Ct l cy D ad y bytes maxL ret1 lev (.ref (ad t cc1 i) :: As) M r M1) (d : decode cc pc = .ok (.invokevirtual index, 3)) (lk : LkV own index y n) (hn : As.length = n) (hst : stk = As.reverse ++ .ref (ad t cc1 i) :: st) (hk : dmb ad t cc1 i = true) (hcel : cel cy ad M t cc1 i = .inr (ci, fs)) (hc : vwCl[ci]? = some (y.cls, T, N)) (hcd : Cond.code y bytes maxL ret1 ∈ TB) (hR : lev + 1 ≤ R.frames ∧ 8 + (maxL + 11) + 30 * lev ≤ R.locals) (hf : kc ≤ R.cells ∧ ks ≤ R.slots) (hw : (st.map fun v => v.category).sum ≤ 8) (kk : V p l e R s m args below meth c nL cy D ad A kc ks Q (pc + 3) lv (r.toList ++ st) M1) : V p l e R s m args below meth c nL cy D ad A kc ks Q pc lv stk M := by
  obtain ⟨hx, hb, hml, hown, hr, hlk, hts, hK, hI, hA1, hA2⟩ := F
  subst hst
  obtain ⟨⟨l1, l2, l3, l4⟩, g1, g2, g3⟩ := lk
  refine r_after (aa := (Value.ref (ad t cc1 i) :: As).toArray) hA1 hA2 (fun H locs ls hP hS hl => ?_) kk
  obtain ⟨q0, hq, hw1⟩ := ws_at (cy := cy) (ad := ad) M hk
  refine va_runV (Ts := TB) (C := y.cls) (rm := RM lev) ⟨hx, hb, hml, hown, hts⟩ (hM H.size) (cwV n hts (tb_good (fun _ h => h) (X := wsV own index y.cls y (wsT y bytes maxL ret1)) ?_) rfl rfl rfl ⟨rfl, g1, g2, g3⟩ hR) ⟨Pn_blind _ _ _ _ _ _, va_recv hK.1 hP hc (by rw [hw1, hcel]), fun U hU hW => ⟨rfl, by rw [hU], by rw [hU]; exact hP, hK.warm hW, hI⟩⟩ rfl hn hl.1 rfl (lv_room hw) d ⟨hf.1, hf.2⟩
  intro w hw2
  simp only [wsV, List.mem_append, List.mem_cons, List.not_mem_nil, or_false, wsT] at hw2
  rcases hw2 with (rfl | rfl | rfl | rfl) | (rfl | h)
  · exact l1
  · exact l2
  · exact l3
  · exact l4
  · exact hcd
  · exact h
theorem r_callS (F : Fx p s m args meth c own cc nL ret cy D ad A) {y : MethodName} {bytes : ByteArray} {maxL n lev index : Nat} {ret1 : Option FieldType} {As stk : List Value} {r : Option Value} {M1 : Mem} (hM : Ct l cy D ad y bytes maxL ret1 lev As M r M1) (d : decode cc pc = .ok (.invokestatic index, 3)) (lk : LkS own index y n) (hn : As.length = n) (hst : stk = As.reverse ++ st) (hcd : Cond.code y bytes maxL ret1 ∈ TB) (hR : lev + 1 ≤ R.frames ∧ 8 + (maxL + 11) + 30 * lev ≤ R.locals) (hf : kc ≤ R.cells ∧ ks ≤ R.slots) (hw : (st.map fun v => v.category).sum ≤ 8) (kk : V p l e R s m args below meth c nL cy D ad A kc ks Q (pc + 3) lv (r.toList ++ st) M1) : V p l e R s m args below meth c nL cy D ad A kc ks Q pc lv stk M := by
  obtain ⟨hx, hb, hml, hown, hr, hlk, hts, hK, hI, hA1, hA2⟩ := F
  subst hst
  obtain ⟨⟨l1, l2, l4⟩, g1, g2, g3⟩ := lk
  refine r_after (aa := As.toArray) hA1 hA2 (fun H locs ls hP hS hl => ?_) kk
  refine va_runS (Ts := TB) (rm := RM lev) ⟨hx, hb, hml, hown, hts⟩ (hM H.size) (va_cwS n hts (tb_good (fun _ h => h) (X := va_wsS own index y (wsT y bytes maxL ret1)) ?_) rfl rfl rfl ⟨g1, g2, g3⟩ hR) ⟨Pn_blind _ _ _ _ _ _, fun U hU hW => ⟨rfl, by rw [hU], by rw [hU]; exact hP, hK.warm hW, hI⟩⟩ rfl hn hl.1 rfl (lv_room hw) d ⟨hf.1, hf.2⟩
  intro w hw2
  simp only [va_wsS, List.mem_append, List.mem_cons, List.not_mem_nil, or_false, wsT] at hw2
  rcases hw2 with (rfl | rfl | rfl) | (rfl | h)
  · exact l1
  · exact l2
  · exact l4
  · exact hcd
  · exact h
theorem r_callSN (F : Fx p s m args meth c own cc nL ret cy D ad A) {y : MethodName} {bytes : ByteArray} {maxL n lev index : Nat} {host : String} {ret1 : Option FieldType} {As stk : List Value} {r : Option Value} {M1 : Mem} (hM : Ct l cy D ad y bytes maxL ret1 lev As M r M1) (d : decode cc pc = .ok (.invokestatic index, 3)) (lk : LkSN own index y host n) (hn : As.length = n) (hst : stk = As.reverse ++ st) (hcd : Cond.code y bytes maxL ret1 ∈ TB) (hR : lev + 1 ≤ R.frames ∧ 8 + (maxL + 11) + 30 * lev ≤ R.locals) (hf : kc ≤ R.cells ∧ ks ≤ R.slots) (hw : (st.map fun v => v.category).sum ≤ 8) (kk : V p l e R s m args below meth c nL cy D ad A kc ks Q (pc + 3) lv (r.toList ++ st) M1) : V p l e R s m args below meth c nL cy D ad A kc ks Q pc lv stk M := by
  obtain ⟨hx, hb, hml, hown, hr, hlk, hts, hK, hI, hA1, hA2⟩ := F
  subst hst
  obtain ⟨⟨l1, l2, l4⟩, g1, g2, g3⟩ := lk
  refine r_after (aa := As.toArray) hA1 hA2 (fun H locs ls hP hS hl => ?_) kk
  refine va_runSN (Ts := TB) (rm := RM lev) (host := host) ⟨hx, hb, hml, hown, hts⟩ (hM H.size) ⟨va_cnB n hts (tb_good (fun _ h => h) (X := wsT y bytes maxL ret1) ?_) rfl rfl rfl (hK.2.1 _ l1 rfl) (hts _ l4) ⟨g1, g2, g3⟩ hR, hts _ l2, trivial⟩ ⟨Pn_blind _ _ _ _ _ _, fun U hU hW => ⟨rfl, by rw [hU], by rw [hU]; exact hP, hK.warm hW, hI⟩⟩ rfl hn hl.1 rfl (lv_room hw) d ⟨hf.1, hf.2⟩
  intro w hw2
  simp only [List.mem_cons, wsT] at hw2
  rcases hw2 with (rfl | h)
  · exact hcd
  · exact h
def iabs (a : Int) : Int := if 0 ≤ a then a else -a
theorem r_mabs (F : Fx p s m args meth c own cc nL ret cy D ad A) {a : Int} {index : Nat} (d : decode cc pc = .ok (.invokestatic index, 3)) (h1 : Cond.methodLink own index Lib.Math.abs.name ∈ TB) (h2 : Cond.static Lib.Math.abs.name ∈ TB) (h3 : Cond.initialized "java/lang/Math" ∈ TB) (h4 : Cond.code Lib.Math.abs.name Lib.Math.abs.code 1 (some .int) ∈ TB) (hfr : 1 ≤ R.frames) (hlo : (st.map fun v => v.category).sum + 13 ≤ R.locals) (hf : kc ≤ R.cells ∧ ks ≤ R.slots) (ha : ir a) (kk : V p l e R s m args below meth c nL cy D ad A kc ks Q (pc + 3) lv (.int (i32 (iabs a)) :: st) M) : V p l e R s m args below meth c nL cy D ad A kc ks Q pc lv (.int (i32 a) :: st) M := by
  obtain ⟨hx, hb, hml, hown, hr, hlk, hts, hK, hI, hA1, hA2⟩ := F
  intro H locs ls hP hS hl
  refine va_mabs hx hb (hml.trans hl.1.symm) hown (hts _ h1) (hts _ h2) (hts _ h3) (hts _ h4) hfr hlo hf.1 hf.2 d ?_
  have e : (if 0 ≤ i32 a then i32 a else 0 - i32 a) = i32 (iabs a) := by
    have h0 : (0 : Int32) ≤ i32 a ↔ 0 ≤ a := i32_le (a := 0) ⟨by decide, by decide⟩ ha
    unfold iabs
    by_cases h : 0 ≤ a
    · rw [if_pos h, if_pos (h0.mpr h)]
    · rw [if_neg h, if_neg (fun z => h (h0.mp z)), show (0 : Int32) = i32 0 from rfl, i32_sub, Int.zero_sub]
  rw [e]
  exact kk H locs ls hP hS hl
theorem r_mmax (F : Fx p s m args meth c own cc nL ret cy D ad A) {a b : Int} {index : Nat} (d : decode cc pc = .ok (.invokestatic index, 3)) (h1 : Cond.methodLink own index Lib.Math.max.name ∈ TB) (h2 : Cond.static Lib.Math.max.name ∈ TB) (h3 : Cond.initialized "java/lang/Math" ∈ TB) (h4 : Cond.code Lib.Math.max.name Lib.Math.max.code 2 (some .int) ∈ TB) (hfr : 1 ≤ R.frames) (hlo : (st.map fun v => v.category).sum + 13 ≤ R.locals) (hf : kc ≤ R.cells ∧ ks ≤ R.slots) (ha : ir a) (hb9 : ir b) (kk : V p l e R s m args below meth c nL cy D ad A kc ks Q (pc + 3) lv (.int (i32 (max a b)) :: st) M) : V p l e R s m args below meth c nL cy D ad A kc ks Q pc lv (.int (i32 b) :: .int (i32 a) :: st) M := by
  obtain ⟨hx, hb, hml, hown, hr, hlk, hts, hK, hI, hA1, hA2⟩ := F
  intro H locs ls hP hS hl
  refine va_mmax hx hb (hml.trans hl.1.symm) hown (hts _ h1) (hts _ h2) (hts _ h3) (hts _ h4) hfr hlo hf.1 hf.2 d ?_
  have e : (if i32 a < i32 b then i32 b else i32 a) = i32 (max a b) := by
    have h0 := i32_lt ha hb9
    by_cases h : a < b
    · rw [if_pos (h0.mpr h)]
      congr 1
      omega
    · rw [if_neg (fun z => h (h0.mp z))]
      congr 1
      omega
  rw [e]
  exact kk H locs ls hP hS hl
theorem r_mmin (F : Fx p s m args meth c own cc nL ret cy D ad A) {a b : Int} {index : Nat} (d : decode cc pc = .ok (.invokestatic index, 3)) (h1 : Cond.methodLink own index Lib.Math.min.name ∈ TB) (h2 : Cond.static Lib.Math.min.name ∈ TB) (h3 : Cond.initialized "java/lang/Math" ∈ TB) (h4 : Cond.code Lib.Math.min.name Lib.Math.min.code 2 (some .int) ∈ TB) (hfr : 1 ≤ R.frames) (hlo : (st.map fun v => v.category).sum + 13 ≤ R.locals) (hf : kc ≤ R.cells ∧ ks ≤ R.slots) (ha : ir a) (hb9 : ir b) (kk : V p l e R s m args below meth c nL cy D ad A kc ks Q (pc + 3) lv (.int (i32 (min a b)) :: st) M) : V p l e R s m args below meth c nL cy D ad A kc ks Q pc lv (.int (i32 b) :: .int (i32 a) :: st) M := by
  obtain ⟨hx, hb, hml, hown, hr, hlk, hts, hK, hI, hA1, hA2⟩ := F
  intro H locs ls hP hS hl
  refine va_mmin hx hb (hml.trans hl.1.symm) hown (hts _ h1) (hts _ h2) (hts _ h3) (hts _ h4) hfr hlo hf.1 hf.2 d ?_
  have e : (if i32 b < i32 a then i32 b else i32 a) = i32 (min a b) := by
    have h0 := i32_lt hb9 ha
    by_cases h : b < a
    · rw [if_pos (h0.mpr h)]
      congr 1
      omega
    · rw [if_neg (fun z => h (h0.mp z))]
      congr 1
      omega
  rw [e]
  exact kk H locs ls hP hS hl
theorem q_end {r r1 : Option Value} {M1 : Mem} {H : Heap} {locs : List Loc} (hv : r = r1) (hM : wsOf cy ad M = wsOf cy ad M1) (hP : va_P D vwCl (wsOf cy ad M) H) (hS : va_S (Aw ad s.heap.size) s.heap H locs) : ∀ t : State, t.heap = H → s.WarmedH t.vm → Qn cy D ad s.heap.size r1 M1 args s (.returned r) t := by
  intro t ht hW
  subst hv
  exact ⟨⟨rfl, by rw [ht, ← hM]; exact hP⟩, hS.F ht⟩

theorem r_iret (F : Fx p s m args meth c own cc nL ret cy D ad (Aw ad s.heap.size)) {a b : Int} {M1 : Mem} (d : decode cc pc = .ok (.ireturn, 1)) (hret : ret = some .int) (hv : a = b) (hM : M = M1) : V p l e R s m args below meth c nL cy D ad (Aw ad s.heap.size) kc ks (MQ below (Qn cy D ad s.heap.size (some (.int (i32 b))) M1) args s kc ks (Aw ad s.heap.size)) pc lv [.int (i32 a)] M := by
  obtain ⟨hx, hb, hml, hown, hr, hlk, hts, hK, hI, hA1, hA2⟩ := F
  subst hv; subst hM
  intro H locs ls hP hS hl
  exact W.iret hx hb (hr.trans hret) (q_end rfl rfl hP hS) hS.2.2 d hlk
theorem r_zret (F : Fx p s m args meth c own cc nL ret cy D ad (Aw ad s.heap.size)) {a : Int} {b : Bool} {M1 : Mem} (d : decode cc pc = .ok (.ireturn, 1)) (hret : ret = some .boolean) (hv : a = bi b) (hM : M = M1) : V p l e R s m args below meth c nL cy D ad (Aw ad s.heap.size) kc ks (MQ below (Qn cy D ad s.heap.size (some (.int (i32 (bi b)))) M1) args s kc ks (Aw ad s.heap.size)) pc lv [.int (i32 a)] M := by
  obtain ⟨hx, hb, hml, hown, hr, hlk, hts, hK, hI, hA1, hA2⟩ := F
  subst hv; subst hM
  intro H locs ls hP hS hl
  exact W.zret hx hb (hr.trans hret) (bi_nar b) (q_end rfl rfl hP hS) hS.2.2 d hlk
theorem r_vret (F : Fx p s m args meth c own cc nL ret cy D ad (Aw ad s.heap.size)) {M1 : Mem} (d : decode cc pc = .ok (.return_, 1)) (hret : ret = none) (hM : M = M1) : V p l e R s m args below meth c nL cy D ad (Aw ad s.heap.size) kc ks (MQ below (Qn cy D ad s.heap.size none M1) args s kc ks (Aw ad s.heap.size)) pc lv [] M := by
  obtain ⟨hx, hb, hml, hown, hr, hlk, hts, hK, hI, hA1, hA2⟩ := F
  subst hM
  intro H locs ls hP hS hl
  exact W.vret hx hb (hr.trans hret) (q_end rfl rfl hP hS) hS.2.2 d hlk
theorem r_lret (F : Fx p s m args meth c own cc nL ret cy D ad (Aw ad s.heap.size)) {a b : Int64} {M1 : Mem} (d : decode cc pc = .ok (.lreturn, 1)) (hret : ret = some .long) (hv : a = b) (hM : M = M1) : V p l e R s m args below meth c nL cy D ad (Aw ad s.heap.size) kc ks (MQ below (Qn cy D ad s.heap.size (some (.long b)) M1) args s kc ks (Aw ad s.heap.size)) pc lv [.long a] M := by
  obtain ⟨hx, hb, hml, hown, hr, hlk, hts, hK, hI, hA1, hA2⟩ := F
  subst hv; subst hM
  intro H locs ls hP hS hl
  exact W.lret hx hb (hr.trans hret) (q_end rfl rfl hP hS) hS.2.2 d hlk
theorem r_dret (F : Fx p s m args meth c own cc nL ret cy D ad (Aw ad s.heap.size)) {a b : UInt64} {M1 : Mem} (d : decode cc pc = .ok (.dreturn, 1)) (hret : ret = some .double) (hv : a = b) (hM : M = M1) : V p l e R s m args below meth c nL cy D ad (Aw ad s.heap.size) kc ks (MQ below (Qn cy D ad s.heap.size (some (.double b)) M1) args s kc ks (Aw ad s.heap.size)) pc lv [.double a] M := by
  obtain ⟨hx, hb, hml, hown, hr, hlk, hts, hK, hI, hA1, hA2⟩ := F
  subst hv; subst hM
  intro H locs ls hP hS hl
  exact W.dret hx hb (hr.trans hret) (q_end rfl rfl hP hS) hS.2.2 d hlk
end CALLS
