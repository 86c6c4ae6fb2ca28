/-! Contracts of methods that leave cells behind them, or whose answer is not told; their calls; the law's two small ones; a row put behind others. -/
def Qa (cy : Nat → ClassId) (D : va_G) (ad : Nat → Nat → Int → Nat) (sz : Nat) (P : Option Value → (Nat → Nat → Int → Nat) → Mem → Prop) : Array Value → State → Outcome → State → Prop := fun _ st o t => (∃ (r : Option Value) (ad' : Nat → Nat → Int → Nat) (M' : Mem), o = .returned r ∧ P r ad' M' ∧ va_P D vwCl (wsOf cy ad' M') t.heap ∧ Inj ad' ∧ ∀ (t1 c : Nat) (i : Int), dmb ad' t1 c i = true → Aw ad sz (ad' t1 c i)) ∧ va_F (Aw ad sz) st t
abbrev RG (lev mc ms : Nat) : Room := { frames := lev, cells := mc, slots := ms, locals := 30 * lev }
def Pg (cy : Nat → ClassId) (D : va_G) (ad : Nat → Nat → Int → Nat) (sz : Nat) (As : List Value) (M : Mem) (E : State → Prop) : Array Value → State → Prop := va_Pc As (fun U => (U.heap.size = sz ∧ va_P D vwCl (wsOf cy ad M) U.heap ∧ Kp cy D U ∧ Inj ad) ∧ E U)
def Eb (E : State → Prop) : Prop := FrameBlind (fun _ U => E U)
theorem Pg_blind (cy : Nat → ClassId) (D : va_G) (ad : Nat → Nat → Int → Nat) (sz : Nat) (As : List Value) (M : Mem) {E : State → Prop} (h : Eb E) : FrameBlind (Pg cy D ad sz As M E) := by
  intro a U g mk q
  obtain ⟨q0, ⟨q1, q2, q3, q4⟩, q5⟩ := q
  exact ⟨q0, ⟨q1, q2, Kp.same (s := U) (U := U.calling g mk a) rfl q3, q4⟩, h a U g mk q5⟩
def Cg (l : Launch) (cy : Nat → ClassId) (D : va_G) (ad : Nat → Nat → Int → Nat) (y : MethodName) (ws : List Cond) (lev mc ms : Nat) (As : List Value) (M : Mem) (E : Nat → State → Prop) (P : Option Value → (Nat → Nat → Int → Nat) → Mem → Prop) : Prop :=
  ∀ sz : Nat, Met l y ws (RG lev mc ms) (Pg cy D ad sz As M (E sz)) (Qa cy D ad sz P) mc ms (Aw ad sz)
theorem Cg.mk {l : Launch} {cy : Nat → ClassId} {D : va_G} {ad : Nat → Nat → Int → Nat} {y : MethodName} {bytes : ByteArray} {maxL : Nat} {ret : Option FieldType} {lev mc ms : Nat} {As : List Value} {M : Mem} {E : Nat → State → Prop} {P : Option Value → (Nat → Nat → Int → Nat) → Mem → Prop} {lv : List (Option Value)} (n : Nat)
    (hy : plainName y.cls = true) (hlv : lve As ++ List.replicate n none = lv) (hlen : (lg_sl As).length ≤ maxL)
    (body : ∀ (p : Program) (e : Env) (s : State) (m : MethodId) (below : List Frame) (meth : Method) (c : Code), Fx p s m As.toArray meth c y.cls bytes maxL ret cy D ad (Aw ad s.heap.size) → E s.heap.size s →
      V p l e (RG lev mc ms) s m As.toArray below meth c maxL cy D ad (Aw ad s.heap.size) 0 0 (MQ below (Qa cy D ad s.heap.size P) As.toArray s mc ms (Aw ad s.heap.size)) 0 lv [] M) : Cg l cy D ad y (wsT y bytes maxL ret) lev mc ms As M E P := by
  intro sz
  refine Met.ofW (cc := bytes) (maxL := maxL) (ret := ret) hy rfl ?_
  intro p e s m args below meth c s₁ B hml hv
  obtain ⟨rfl, ⟨hsz, hP, hK, hI⟩, hE⟩ := hv
  subst hsz
  have hts : ∀ w ∈ TB, w.before As.toArray s = true := fun w hw => atoms_spec (ws := wsT y bytes maxL ret) B.pre w (List.mem_cons_of_mem _ hw)
  have F : Fx p s m As.toArray meth c y.cls bytes maxL ret cy D ad (Aw ad s.heap.size) := ⟨B.exec, B.bytes, hml, findClass_of_methodNamed B.named, B.returns, B.notSynchronized, hts, hK, hI, fun t c i h => Or.inl ⟨t, c, i, h, rfl⟩, fun q h => Or.inr h⟩
  have hl := lv_entry As (n := maxL) hlen
  rw [lg_entry_eq]
  exact body p e s m below meth c F hE s.heap [] _ hP va_S.rf (lvh_entry hl hlv)
theorem Cg.mkH {l : Launch} {cy : Nat → ClassId} {D : va_G} {ad : Nat → Nat → Int → Nat} {y : MethodName} {bytes : ByteArray} {maxL : Nat} {ret : Option FieldType} {hh : List (Nat × Nat × Nat × Nat)} {lev mc ms : Nat} {As : List Value} {M : Mem} {E : Nat → State → Prop} {P : Option Value → (Nat → Nat → Int → Nat) → Mem → Prop} {lv : List (Option Value)} (n : Nat)
    (hy : plainName y.cls = true) (hlv : lve As ++ List.replicate n none = lv) (hlen : (lg_sl As).length ≤ maxL)
    (body : ∀ (p : Program) (e : Env) (s : State) (m : MethodId) (below : List Frame) (meth : Method) (c : Code), Fx p s m As.toArray meth c y.cls bytes maxL ret cy D ad (Aw ad s.heap.size) → E s.heap.size s → c.exceptionTable.toList = tableOf hh →
      V p l e (RG lev mc ms) s m As.toArray below meth c maxL cy D ad (Aw ad s.heap.size) 0 0 (MQ below (Qa cy D ad s.heap.size P) As.toArray s mc ms (Aw ad s.heap.size)) 0 lv [] M) : Cg l cy D ad y (Cond.codeWith y bytes maxL ret hh :: TB) lev mc ms As M E P := by
  intro sz
  refine va_MetW (cc := bytes) (maxL := maxL) (ret := ret) (hh := hh) hy rfl ?_
  intro p e s m args below meth c s₁ B hml hv
  obtain ⟨rfl, ⟨hsz, hP, hK, hI⟩, hE⟩ := hv
  subst hsz
  have hpre := atoms_spec (ws := Cond.codeWith y bytes maxL ret hh :: TB) B.pre
  have hts : ∀ w ∈ TB, w.before As.toArray s = true := fun w hw => hpre w (List.mem_cons_of_mem _ hw)
  have F : Fx p s m As.toArray meth c y.cls bytes maxL ret cy D ad (Aw ad s.heap.size) := ⟨B.exec, B.bytes, hml, findClass_of_methodNamed B.named, B.returns, B.notSynchronized, hts, hK, hI, fun t c i h => Or.inl ⟨t, c, i, h, rfl⟩, fun q h => Or.inr h⟩
  have hl := lv_entry As (n := maxL) hlen
  rw [lg_entry_eq]
  exact body p e s m below meth c F hE (vx_table (x := y) B (hpre _ List.mem_cons_self)) s.heap [] _ hP va_S.rf (lvh_entry hl hlv)
section CALLG
variable {p : Program} {l : Launch} {e : Env} {R : Room} {s : State} {m : MethodId} {args : Array Value} {below : List Frame} {meth : Method} {c : Code} {nL : Nat} {cy : Nat → ClassId} {D : va_G} {ad : Nat → Nat → Int → Nat} {A : Nat → Prop} {kc ks : Nat} {Q : State → Prop} {pc : Nat} {lv : List (Option Value)} {st : List Value} {M : Mem} {own : String} {cc : ByteArray} {ret : Option FieldType}
theorem r_afterG (F : Fx p s m args meth c own cc nL ret cy D ad A) {aa : Array Value} {stk : List Value} {P : Option Value → (Nat → Nat → Int → Nat) → Mem → Prop} {mc ms : Nat}
    (run : ∀ (H : Heap) (locs : List Loc) (ls : Array Slot), va_P D vwCl (wsOf cy ad M) H → va_S A s.heap H locs → lvh nL ls lv → va_Run p l e R s m args below meth c H locs kc ks mc ms (F0 m pc ls stk) st (Qa cy D ad H.size P aa) (Aw ad H.size))
    (kk : ∀ (r : Option Value) (ad' : Nat → Nat → Int → Nat) (M' : Mem), P r ad' M' → Fx p s m args meth c own cc nL ret cy D ad' A → V p l e R s m args below meth c nL cy D ad' A (kc + mc) (ks + ms) Q (pc + 3) lv (r.toList ++ st) M') : V p l e R s m args below meth c nL cy D ad A kc ks Q pc lv stk M := by
  have F9 := F
  obtain ⟨hx, hb, hml, hown, hr, hlk, hts, hK, hI, hA1, hA2⟩ := F
  intro H locs ls hP hS hl T hT X
  obtain ⟨v, st₀, t, T', L, h0, X', hL, e1, e2, ⟨⟨r, ad', M', hv, hPr, hP1, hI1, hA3⟩, hz, hk⟩, stp⟩ := run H locs ls hP hS hl T hT X
  cases hv
  rw [h0] at hz hk
  have hsub := Aw_sub hA1 hA2 (sz := H.size) hS.1
  have hS1 : va_S A s.heap T'.heap (locs ++ L) := ⟨Nat.le_trans hS.1 (by rw [e1]; exact hz), fun q h1 h2 => by
      rw [e1, hk q (Nat.lt_of_lt_of_le h1 hS.1) (fun z => h2 (hsub q z))]; exact hS.2.1 q h1 h2, fun q hq => by
      rcases List.mem_append.mp hq with h | h
      · exact hS.2.2 q h
      · exact hsub _ (hL q h)⟩
  obtain ⟨t2, a1, b1⟩ := kk v ad' M' hPr (F9.ext hI1 (fun t1 c1 i1 hd => hsub _ (hA3 t1 c1 i1 hd))) T'.heap (locs ++ L) ls (by rw [e1]; exact hP1) hS1 hl T' rfl X'
  exact ⟨t2, stp t2 a1, b1⟩
theorem r_callSG (F : Fx p s m args meth c own cc nL ret cy D ad A) {y : MethodName} {bytes : ByteArray} {maxL n lev mc ms index : Nat} {ret1 : Option FieldType} {As stk : List Value} {E : Nat → State → Prop} {P : Option Value → (Nat → Nat → Int → Nat) → Mem → Prop} (hM : Cg l cy D ad y (wsT y bytes maxL ret1) lev mc ms As M E P) (hEb : ∀ sz, Eb (E sz)) (hE : ∀ (H : Heap) (locs : List Loc), va_S A s.heap H locs → ∀ U : State, U.heap = H → s.WarmedH U.vm → E H.size U) (d : decode cc pc = .ok (.invokestatic index, 3)) (lk : LkS own index y n) (hn : As.length = n) (hst : stk = As.reverse ++ st) (hcd : Cond.code y bytes maxL ret1 ∈ TB) (hR : lev + 1 ≤ R.frames ∧ 8 + (maxL + 11) + 30 * lev ≤ R.locals) (hf : kc + mc ≤ R.cells ∧ ks + ms ≤ R.slots) (hw : (st.map fun v => v.category).sum ≤ 8) (kk : ∀ (r : Option Value) (ad' : Nat → Nat → Int → Nat) (M' : Mem), P r ad' M' → Fx p s m args meth c own cc nL ret cy D ad' A → V p l e R s m args below meth c nL cy D ad' A (kc + mc) (ks + ms) Q (pc + 3) lv (r.toList ++ st) M') : V p l e R s m args below meth c nL cy D ad A kc ks Q pc lv stk M := by
  have F9 := F
  obtain ⟨hx, hb, hml, hown, hr, hlk, hts, hK, hI, hA1, hA2⟩ := F
  subst hst
  obtain ⟨⟨l1, l2, l4⟩, g1, g2, g3⟩ := lk
  refine r_afterG F9 (aa := As.toArray) (fun H locs ls hP hS hl => ?_) kk
  refine va_runS (Ts := TB) (rm := RG lev mc ms) ⟨hx, hb, hml, hown, hts⟩ (hM H.size) (va_cwS n hts (tb_good (fun _ h => h) (X := va_wsS own index y (wsT y bytes maxL ret1)) ?_) rfl rfl rfl ⟨g1, g2, g3⟩ hR) ⟨Pg_blind _ _ _ _ _ _ (hEb _), fun U hU hW => ⟨rfl, ⟨by rw [hU], by rw [hU]; exact hP, hK.warm hW, hI⟩, hE H locs hS U hU hW⟩⟩ rfl hn hl.1 rfl (lv_room hw) d hf
  intro w hw2
  simp only [va_wsS, List.mem_append, List.mem_cons, List.not_mem_nil, or_false, wsT] at hw2
  rcases hw2 with (rfl | rfl | rfl) | (rfl | h)
  · exact l1
  · exact l2
  · exact l4
  · exact hcd
  · exact h
theorem r_callHG (F : Fx p s m args meth c own cc nL ret cy D ad A) {y : MethodName} {bytes : ByteArray} {maxL n lev mc ms index : Nat} {ret1 : Option FieldType} {hh : List (Nat × Nat × Nat × Nat)} {As stk : List Value} {E : Nat → State → Prop} {P : Option Value → (Nat → Nat → Int → Nat) → Mem → Prop} (hM : Cg l cy D ad y (Cond.codeWith y bytes maxL ret1 hh :: TB) lev mc ms As M E P) (hEb : ∀ sz, Eb (E sz)) (hE : ∀ (H : Heap) (locs : List Loc), va_S A s.heap H locs → ∀ U : State, U.heap = H → s.WarmedH U.vm → E H.size U) (d : decode cc pc = .ok (.invokestatic index, 3)) (lk : LkS own index y n) (hn : As.length = n) (hst : stk = As.reverse ++ st) (hcd : Cond.codeWith y bytes maxL ret1 hh ∈ TB) (hR : lev + 1 ≤ R.frames ∧ 8 + (maxL + 11) + 30 * lev ≤ R.locals) (hf : kc + mc ≤ R.cells ∧ ks + ms ≤ R.slots) (hw : (st.map fun v => v.category).sum ≤ 8) (kk : ∀ (r : Option Value) (ad' : Nat → Nat → Int → Nat) (M' : Mem), P r ad' M' → Fx p s m args meth c own cc nL ret cy D ad' A → V p l e R s m args below meth c nL cy D ad' A (kc + mc) (ks + ms) Q (pc + 3) lv (r.toList ++ st) M') : V p l e R s m args below meth c nL cy D ad A kc ks Q pc lv stk M := by
  have F9 := F
  obtain ⟨hx, hb, hml, hown, hr, hlk, hts, hK, hI, hA1, hA2⟩ := F
  subst hst
  obtain ⟨⟨l1, l2, l4⟩, g1, g2, g3⟩ := lk
  refine r_afterG F9 (aa := As.toArray) (fun H locs ls hP hS hl => ?_) kk
  refine vx_runSW (Ts := TB) (rm := RG lev mc ms) (hh := hh) ⟨hx, hb, hml, hown, hts⟩ (hM H.size) (vx_cwSW n hts (tb_good (fun _ h => h) (X := va_wsS own index y (Cond.codeWith y bytes maxL ret1 hh :: TB)) ?_) rfl rfl rfl ⟨g1, g2, g3⟩ hR) ⟨Pg_blind _ _ _ _ _ _ (hEb _), fun U hU hW => ⟨rfl, ⟨by rw [hU], by rw [hU]; exact hP, hK.warm hW, hI⟩, hE H locs hS U hU hW⟩⟩ rfl hn hl.1 rfl (lv_room hw) d hf
  intro w hw2
  simp only [va_wsS, List.mem_append, List.mem_cons, List.not_mem_nil, or_false] at hw2
  rcases hw2 with (rfl | rfl | rfl) | (rfl | h)
  · exact l1
  · exact l2
  · exact l4
  · exact hcd
  · exact h
end CALLG
section ENDG
variable {p : Program} {l : Launch} {e : Env} {R : Room} {s : State} {m : MethodId} {args : Array Value} {below : List Frame} {meth : Method} {c : Code} {nL : Nat} {cy : Nat → ClassId} {D : va_G} {ad ad' : Nat → Nat → Int → Nat} {kc ks : Nat} {pc : Nat} {lv : List (Option Value)} {M : Mem} {own : String} {cc : ByteArray} {ret : Option FieldType} {P : Option Value → (Nat → Nat → Int → Nat) → Mem → Prop}
theorem q_endG (F : Fx p s m args meth c own cc nL ret cy D ad' (Aw ad s.heap.size)) {r : Option Value} {H : Heap} {locs : List Loc} (h : P r ad' M) (hP : va_P D vwCl (wsOf cy ad' M) H) (hS : va_S (Aw ad s.heap.size) s.heap H locs) : ∀ t : State, t.heap = H → s.WarmedH t.vm → Qa cy D ad s.heap.size P args s (.returned r) t := by
  intro t ht hW
  exact ⟨⟨r, ad', M, rfl, h, by rw [ht]; exact hP, F.2.2.2.2.2.2.2.2.1, F.2.2.2.2.2.2.2.2.2.1⟩, hS.F ht⟩
theorem r_iretG (F : Fx p s m args meth c own cc nL ret cy D ad' (Aw ad s.heap.size)) {a : Int} (d : decode cc pc = .ok (.ireturn, 1)) (hret : ret = some .int) (h : P (some (.int (i32 a))) ad' M) : V p l e R s m args below meth c nL cy D ad' (Aw ad s.heap.size) kc ks (MQ below (Qa cy D ad s.heap.size P) args s kc ks (Aw ad s.heap.size)) pc lv [.int (i32 a)] M := by
  intro H locs ls hP hS hl
  exact W.iret F.1 F.2.1 (F.2.2.2.2.1.trans hret) (q_endG F h hP hS) hS.2.2 d F.2.2.2.2.2.1
theorem r_zretG (F : Fx p s m args meth c own cc nL ret cy D ad' (Aw ad s.heap.size)) {a : Int} {b : Bool} (d : decode cc pc = .ok (.ireturn, 1)) (hret : ret = some .boolean) (hv : a = bi b) (h : P (some (.int (i32 (bi b)))) ad' M) : V p l e R s m args below meth c nL cy D ad' (Aw ad s.heap.size) kc ks (MQ below (Qa cy D ad s.heap.size P) args s kc ks (Aw ad s.heap.size)) pc lv [.int (i32 a)] M := by
  subst hv
  intro H locs ls hP hS hl
  exact W.zret F.1 F.2.1 (F.2.2.2.2.1.trans hret) (bi_nar b) (q_endG F h hP hS) hS.2.2 d F.2.2.2.2.2.1
theorem r_aretG (F : Fx p s m args meth c own cc nL ret cy D ad' (Aw ad s.heap.size)) {a : Nat} {rt : FieldType} (d : decode cc pc = .ok (.areturn, 1)) (hret : ret = some rt) (hrt : (∃ n, rt = .object n) ∨ ∃ t, rt = .array t) (h : P (some (.ref a)) ad' M) : V p l e R s m args below meth c nL cy D ad' (Aw ad s.heap.size) kc ks (MQ below (Qa cy D ad s.heap.size P) args s kc ks (Aw ad s.heap.size)) pc lv [.ref a] M := by
  intro H locs ls hP hS hl
  exact W.aret F.1 F.2.1 (F.2.2.2.2.1.trans hret) hrt (Or.inr ⟨a, rfl⟩) (q_endG F h hP hS) hS.2.2 d F.2.2.2.2.2.1
end ENDG
section LDC
variable {p : Program} {l : Launch} {e : Env} {R : Room} {s : State} {m : MethodId} {args : Array Value} {below : List Frame} {meth : Method} {c : Code} {nL : Nat} {cy : Nat → ClassId} {D : va_G} {ad : Nat → Nat → Int → Nat} {A : Nat → Prop} {kc ks : Nat} {Q : State → Prop} {pc : Nat} {lv : List (Option Value)} {st : List Value} {M : Mem} {own : String} {cc : ByteArray} {ret : Option FieldType}
theorem r_ldc (F : Fx p s m args meth c own cc nL ret cy D ad A) {index : Nat} {v : Int32} (d : decode cc pc = .ok (.ldc index, 2)) (hc : Cond.constant own index v ∈ TB) (kk : V p l e R s m args below meth c nL cy D ad A kc ks Q (pc + 2) lv (.int v :: st) M) : V p l e R s m args below meth c nL cy D ad A kc ks Q pc lv st M := by
  obtain ⟨hx, hb, hml, hown, hr, hlk, hts, hK, hI, hA1, hA2⟩ := F
  intro H locs ls hP hS hl
  exact lv_ldc hx hb hown (hts _ hc) d (kk H locs ls hP hS hl)
theorem r_sld (F : Fx p s m args meth c own cc nL ret cy D ad A) {b L : Nat} {xs : Nat → Int32} (hX : va_X b L xs s s.heap) (hbl : b < s.heap.size) (hbA : ¬ A b) {j x : Int} (hv : xs j.toNat = i32 x) (h1 : 0 ≤ j) (h2 : j < L) (hL : L ≤ 2048) (d : decode cc pc = .ok (.iaload, 1)) (kk : V p l e R s m args below meth c nL cy D ad A kc ks Q (pc + 1) lv (.int (i32 x) :: st) M) : V p l e R s m args below meth c nL cy D ad A kc ks Q pc lv (.int (i32 j) :: .ref b :: st) M := by
  obtain ⟨hx, hb, -⟩ := F
  intro H locs ls hP hS hl
  refine va_sld hx hb hX hbl hbA hS (i32_in h1 h2 (by omega)) d ?_
  rw [i32_cl h1 (by omega), hv]
  exact kk H locs ls hP hS hl
theorem r_slen (F : Fx p s m args meth c own cc nL ret cy D ad A) {b L : Nat} {xs : Nat → Int32} (hX : va_X b L xs s s.heap) (hbl : b < s.heap.size) (hbA : ¬ A b) (d : decode cc pc = .ok (.arraylength, 1)) (kk : V p l e R s m args below meth c nL cy D ad A kc ks Q (pc + 1) lv (.int (i32 (L : Int)) :: st) M) : V p l e R s m args below meth c nL cy D ad A kc ks Q pc lv (.ref b :: st) M := by
  obtain ⟨hx, hb, -⟩ := F
  intro H locs ls hP hS hl
  refine va_slen hx hb hX hbl hbA hS d ?_
  rw [show Int32.ofNat L = i32 (L : Int) from by show Int32.ofNat _ = Int32.ofInt _; rw [Int32.ofInt_eq_ofNat]]
  exact kk H locs ls hP hS hl
end LDC
theorem lc_L_7 : Cond.constant RL 7 2147483647 ∈ TB := tb_of 592 (by decide +kernel) (by decide +kernel)
theorem lc_L_8 : Cond.constant RL 8 790386105 ∈ TB := tb_of 596 (by decide +kernel) (by decide +kernel)
theorem tk_X5_22 : Cond.classLink RX5 22 "[I" ∈ TB := tb_of 633 (by decide +kernel) (by decide +kernel)
theorem lc_L_95 : Cond.constant RL 95 1000000 ∈ TB := tb_of 741 (by decide +kernel) (by decide +kernel)
/-- what the law's below() answers -/
def blw (x : Int32) (n : Int) : Int := (x &&& 2147483647).toInt % n
theorem and_bd (x : Int32) : 0 ≤ (x &&& 2147483647).toInt := by
  have h : (x &&& 2147483647).toBitVec.toNat ≤ 2147483647 := by
    rw [Int32.toBitVec_and, BitVec.toNat_and]
    exact Nat.and_le_right
  have e : (x &&& 2147483647).toInt = ((x &&& 2147483647).toBitVec.toNat : Int) := by
    show (x &&& 2147483647).toBitVec.toInt = _
    rw [BitVec.toInt_eq_toNat_of_lt (by omega)]
  omega
theorem blw_bd (x : Int32) {n : Int} (h : 0 < n) : 0 ≤ blw x n ∧ blw x n < n := ⟨Int.emod_nonneg _ (by omega), Int.emod_lt_of_pos _ h⟩
set_option maxHeartbeats 4000000 in
set_option maxRecDepth 100000 in
theorem C_L_below {l : Launch} {cy : Nat → ClassId} {D : va_G} {ad : Nat → Nat → Int → Nat} {M : Mem} {x : Int32} {n : Int} (hn : 0 < n ∧ n < 2147483648) : Ct l cy D ad yL_below cL_below 2 (some FieldType.int) 0 [.int x, .int (i32 n)] (M) (some (.int (i32 (blw x n)))) (M) := by
  refine Ct.mk (lv := [some _, some _]) 0 (by decide) rfl (Nat.le_of_ble_eq_true rfl) (fun p e s m below meth c F => ?_)
  have ab := and_bd x
  have ir9 := ir_toInt (x &&& 2147483647)
  refine r_iload_n (i := 0) F dL_below_0 rfl rfl ?_
  refine r_ldc F dL_below_1 lc_L_7 ?_
  refine r_iandX F dL_below_3 ?_
  rw [← i32_of (x &&& 2147483647)]
  refine r_iload_n (i := 1) F dL_below_4 rfl rfl ?_
  refine r_irem F dL_below_5 ab ir9.2 hn.1 hn.2 ?_
  exact r_iret F dL_below_6 rfl rfl rfl
/-- the script, which lies apart -/
def ES (ad : Nat → Nat → Int → Nat) (b L : Nat) (xs : Nat → Int32) (sz : Nat) (U : State) : Prop := va_X b L xs U U.heap ∧ b < U.heap.size ∧ ¬ Aw ad sz b
theorem ES_blind (ad : Nat → Nat → Int → Nat) (b L : Nat) (xs : Nat → Int32) (sz : Nat) : Eb (ES ad b L xs sz) := fun _ _ _ _ h => ⟨va_X.moved (Vm.Alike.refl _) h.1, h.2⟩
theorem E0_blind (sz : Nat) : Eb ((fun (_ : Nat) (_ : State) => True) sz) := fun _ _ _ _ h => h
set_option maxHeartbeats 4000000 in
set_option maxRecDepth 100000 in
theorem C_L_cell {l : Launch} {cy : Nat → ClassId} {D : va_G} {ad : Nat → Nat → Int → Nat} {M : Mem} {b L : Nat} {xs : Nat → Int32} {k : Int} (hk : 0 ≤ k ∧ k < 1000) (hL : L ≤ 260) : Cg l cy D ad yL_cell (wsT yL_cell cL_cell 2 (some FieldType.int)) 0 0 0 [.ref b, .int (i32 k)] (M) (ES ad b L xs) (fun r ad' M' => (∃ v : Int, ir v ∧ r = some (.int (i32 v))) ∧ ad' = ad ∧ M' = M) := by
  refine Cg.mk (lv := [some _, some _]) 0 (by decide) rfl (Nat.le_of_ble_eq_true rfl) (fun p e s m below meth c F hE9 => ?_)
  obtain ⟨hX, hbl, hbA⟩ := hE9
  refine r_iload_n (i := 1) F dL_cell_0 rfl rfl ?_
  refine r_aload_n (i := 0) F dL_cell_1 rfl rfl ?_
  refine r_slen F hX hbl hbA dL_cell_2 ?_
  refine r_icmp_ge (tgt := 12) F dL_cell_3 (by decide) (by first | assumption | exact ir_of (by omega) (by omega)) (by first | assumption | exact ir_of (by omega) (by omega)) (fun h3 => ?_) (fun h3 => ?_)
  · refine r_ldc F dL_cell_12 lc_L_8 ?_
    rw [show (790386105 : Int32) = i32 790386105 from rfl]
    refine r_iload_n (i := 1) F dL_cell_14 rfl rfl ?_
    refine r_iconst F dL_cell_15 ?_
    refine r_iadd F dL_cell_16 ?_
    refine r_imul F dL_cell_17 ?_
    refine V.top (fun v9 hv9 => ?_)
    first | exact r_iretG F dL_cell_18 rfl ⟨⟨_, ir_toInt _, rfl⟩, rfl, rfl⟩ | exact r_iretG F dL_cell_18 rfl ⟨⟨_, hv9, rfl⟩, rfl, rfl⟩
  · refine r_aload_n (i := 0) F dL_cell_6 rfl rfl ?_
    refine r_iload_n (i := 1) F dL_cell_7 rfl rfl ?_
    refine r_sld F hX hbl hbA (x := (xs k.toNat).toInt) (i32_of _).symm hk.1 (by omega) (by omega) dL_cell_8 ?_
    refine r_goto (tgt := 18) F dL_cell_9 (by decide) ?_
    first | exact r_iretG F dL_cell_18 rfl ⟨⟨_, ir_toInt _, rfl⟩, rfl, rfl⟩ | exact r_iretG F dL_cell_18 rfl ⟨⟨_, hv9, rfl⟩, rfl, rfl⟩
theorem set32a {ad : Nat → Nat → Int → Nat} {M : Mem} {k : Nat} {i : Int} (hg : ad 42 0 0 = k) (g0 : 0 ≤ i) (q : Nat) : outF ad (setc (setc M 4 (u2 (u2 (M 4) 20 0 i) 20 1 0)) 4 (u2 (u2 (M 4) 20 0 (i + 1)) 20 1 0)) q = if q = i.toNat then some (ad (21 + k) 2 i) else outF ad (setc M 4 (u2 (u2 (M 4) 20 0 i) 20 1 0)) q := by
  unfold outF
  rw [setc_setc, setc_at, setc_at, hg]
  rw [show (u2 (u2 (M 4) 20 0 (i + 1)) 20 1 0) 20 0 = i + 1 from by rw [u2_i (by decide), u2_at], show (u2 (u2 (M 4) 20 0 (i + 1)) 20 1 0) 20 1 = 0 from u2_at _ _ _ _, show (u2 (u2 (M 4) 20 0 i) 20 1 0) 20 0 = i from by rw [u2_i (by decide), u2_at], show (u2 (u2 (M 4) 20 0 i) 20 1 0) 20 1 = 0 from u2_at _ _ _ _]
  by_cases h1 : q = i.toNat
  · rw [if_pos h1, if_pos (by omega), h1, Int.toNat_of_nonneg g0]
  · rw [if_neg h1]
    by_cases h2 : (q : Int) < i
    · rw [if_pos (by omega), if_pos h2]
    · rw [if_neg (by omega), if_neg (by omega), if_neg (by omega), if_neg (by omega)]
theorem set32b {ad : Nat → Nat → Int → Nat} {M : Mem} {n : Nat} {i : Int} (hi : i = (n : Int)) (q : Nat) : outF ad (setc (setc M 4 (u2 (u2 (M 4) 20 0 i) 20 1 0)) 4 (u2 (u2 (M 4) 20 0 (n : Int)) 20 1 1)) q = if q = i.toNat then some (ad 31 2 0) else outF ad (setc M 4 (u2 (u2 (M 4) 20 0 i) 20 1 0)) q := by
  subst hi
  unfold outF
  rw [setc_setc, setc_at, setc_at]
  rw [show (u2 (u2 (M 4) 20 0 (n : Int)) 20 1 1) 20 0 = (n : Int) from by rw [u2_i (by decide), u2_at], show (u2 (u2 (M 4) 20 0 (n : Int)) 20 1 1) 20 1 = 1 from u2_at _ _ _ _, show (u2 (u2 (M 4) 20 0 (n : Int)) 20 1 0) 20 0 = (n : Int) from by rw [u2_i (by decide), u2_at], show (u2 (u2 (M 4) 20 0 (n : Int)) 20 1 0) 20 1 = 0 from u2_at _ _ _ _]
  by_cases h1 : q = ((n : Nat) : Int).toNat
  · rw [if_pos h1, if_neg (by omega), if_pos ⟨by omega, rfl⟩]
  · rw [if_neg h1]
    by_cases h2 : (q : Int) < (n : Int)
    · rw [if_pos h2, if_pos h2]
    · rw [if_neg h2, if_neg h2, if_neg (by omega), if_neg (by omega)]
set_option maxHeartbeats 4000000 in
set_option maxRecDepth 100000 in
theorem C_X5_with0 {l : Launch} {cy : Nat → ClassId} {D : va_G} {ad : Nat → Nat → Int → Nat} {M : Mem} {n : Nat} (hs : ad 40 13 0 = 1) (h31 : ad 40 31 0 = 1) (h32 : ad 40 32 0 ≠ 1) (hgh : ad 42 0 0 = 0) (hn : ad 41 18 0 = n) (hnl : n < 5) : Cg l cy D ad yX5_with (wsT yX5_with cX5_with 4 (some (FieldType.array (FieldType.array FieldType.int)))) 0 1 6 [.ref (ad 18 2 0), .ref (ad 31 2 0)] (M) (fun _ _ => True) (fun r ad' M' => r = some (.ref (ad' 32 2 0)) ∧ Ext ad ad' 32 (n + 1) ∧ M' = setc M 4 (u2 (u2 (M 4) 20 0 (n : Int)) 20 1 1)) := by
  refine Cg.mk (lv := [some _, some _, none, none]) 2 (by decide) rfl (Nat.le_of_ble_eq_true rfl) (fun p e s m below meth c F hE9 => ?_)
  have hn1 : (ad 41 18 0 : Int) = (n : Int) := by rw [hn]
  refine r_aload_n (i := 0) F dX5_with_0 rfl rfl ?_
  refine al_18 F dX5_with_1 hs hn1 ?_
  refine r_iconst F dX5_with_2 ?_
  refine r_iadd F dX5_with_3 ?_
  have F0 := F
  refine r_newq F h32 (n + 1) dX5_with_4 tk_X5_22 (by omega) (by omega) ⟨by show 0 + 1 ≤ 1; omega, by show 0 + (n + 1) ≤ 6; omega⟩ (fun ad9 E9 F => ?_)
  have h329 := E9.1
  have h4132 : (ad9 41 32 0 : Int) = (n : Int) + 1 := by rw [E9.2.1]; rfl
  have hs0 := hs
  have hs : ad9 40 13 0 = 1 := (E9.fl (by decide) (Or.inl rfl) (by decide)).trans hs0
  have h319 : ad9 40 31 0 = 1 := (E9.fl (by decide) (Or.inl rfl) (by decide)).trans h31
  have hn1 : (ad9 41 18 0 : Int) = (n : Int) := by rw [E9.fl (by decide) (Or.inr rfl) (by decide)]; exact hn1
  have hgh9 : ad9 42 0 0 = 0 := (E9.2.2 42 0 0 (by decide) (by decide) (by decide)).trans hgh
  have e18 : ad9 18 2 0 = ad 18 2 0 := E9.lo (by decide) (by decide)
  have e31 : ad9 31 2 0 = ad 31 2 0 := E9.hi (by decide) (by decide) (by decide)
  refine r_astore_n (i := 2) (lv1 := [_, _, _, _]) F dX5_with_7 rfl (by decide) rfl rfl ?_
  refine r_iconst F dX5_with_8 ?_
  refine r_istore_n (i := 3) (lv1 := [_, _, _, _]) F dX5_with_9 rfl (by decide) rfl rfl ?_
  have loop : ∀ (n9 : Nat) (i : Int), 0 ≤ i → i + (n9 : Int) = (n : Int) → V p l e (RG 0 1 6) s m ([.ref (ad 18 2 0), .ref (ad 31 2 0)] : List Value).toArray below meth c 4 cy D ad9 (Aw ad s.heap.size) (0 + 1) (0 + (n + 1)) (MQ below (Qa cy D ad s.heap.size (fun r ad' M' => r = some (.ref (ad' 32 2 0)) ∧ Ext ad ad' 32 (n + 1) ∧ M' = setc M 4 (u2 (u2 (M 4) 20 0 (n : Int)) 20 1 1))) ([.ref (ad 18 2 0), .ref (ad 31 2 0)] : List Value).toArray s 1 6 (Aw ad s.heap.size)) 10 [some (.ref (ad 18 2 0)), some (.ref (ad 31 2 0)), some (.ref (ad9 32 2 0)), some (.int (i32 i))] [] (setc M 4 (u2 (u2 (M 4) 20 0 i) 20 1 0)) := by
    intro n9
    induction n9 with
    | zero =>
      intro i g0 g1
      obtain rfl : i = (n : Int) := by omega
      refine r_iload_n (i := 3) F dX5_with_10 rfl rfl ?_
      refine r_aload_n (x := ad9 18 2 0) (i := 0) F dX5_with_11 rfl (by rw [e18]; rfl) ?_
      refine al_18 F dX5_with_12 hs hn1 ?_
      refine r_icmp_ge (tgt := 28) F dX5_with_13 (by decide) (by first | assumption | exact ir_of (by omega) (by omega)) (by first | assumption | exact ir_of (by omega) (by omega)) (fun h13 => ?_) (fun h13 => ?_)
      · refine r_aload_n (i := 2) F dX5_with_28 rfl rfl ?_
        refine r_aload_n (x := ad9 18 2 0) (i := 0) F dX5_with_29 rfl (by rw [e18]; rfl) ?_
        refine al_18 F dX5_with_30 hs hn1 ?_
        refine r_aload_n (x := ad9 31 2 0) (i := 1) F dX5_with_31 rfl (by rw [e31]; rfl) ?_
        refine r_ast32 F dX5_with_32 h329 (T := u2 (u2 (M 4) 20 0 (n : Int)) 20 1 1) (dm31 h319) rfl rfl (by omega) (by omega) (by omega) (set32b (M := M) rfl) (fun k9 i9 hk9 => by rw [u2_k hk9, u2_k hk9, setc_at, u2_k hk9, u2_k hk9]) ?_
        refine V.cast (setc_setc _ _ _ _) ?_
        refine r_aload_n (i := 2) F dX5_with_33 rfl rfl ?_
        refine V.wide (kc1 := 1) (ks1 := 6) (by omega) (by omega) ?_
        exact r_aretG F dX5_with_34 rfl (Or.inr ⟨_, rfl⟩) ⟨rfl, E9, rfl⟩
      · exfalso; omega
    | succ n9 ih9 =>
      intro i g0 g1
      refine r_iload_n (i := 3) F dX5_with_10 rfl rfl ?_
      refine r_aload_n (x := ad9 18 2 0) (i := 0) F dX5_with_11 rfl (by rw [e18]; rfl) ?_
      refine al_18 F dX5_with_12 hs hn1 ?_
      refine r_icmp_ge (tgt := 28) F dX5_with_13 (by decide) (by first | assumption | exact ir_of (by omega) (by omega)) (by first | assumption | exact ir_of (by omega) (by omega)) (fun h13 => ?_) (fun h13 => ?_)
      · exfalso; omega
      · refine r_aload_n (i := 2) F dX5_with_16 rfl rfl ?_
        refine r_iload_n (i := 3) F dX5_with_17 rfl rfl ?_
        refine r_aload_n (x := ad9 18 2 0) (i := 0) F dX5_with_18 rfl (by rw [e18]; rfl) ?_
        refine r_iload_n (i := 3) F dX5_with_19 rfl rfl ?_
        refine aa_18 F dX5_with_20 hs (by omega) (by omega) (by omega) ?_
        refine r_ast32 F dX5_with_21 h329 (T := (u2 (u2 (M 4) 20 0 (i + 1)) 20 1 0)) (dm21 hs g0 (by omega) (by omega)) rfl rfl g0 (by omega) (by omega) (set32a (M := M) hgh9 g0) (fun k9 i9 hk9 => by rw [u2_k hk9, u2_k hk9, setc_at, u2_k hk9, u2_k hk9]) ?_
        refine V.cast (setc_setc _ _ _ _) ?_
        refine r_iinc (lv1 := [_, _, _, _]) F dX5_with_22 rfl (by decide) rfl rfl ?_
        refine r_goto (tgt := 10) F dX5_with_25 (by decide) ?_
        exact ih9 (i + 1) (by omega) (by omega)
  exact loop n 0 (by decide) (by omega)
set_option maxHeartbeats 4000000 in
set_option maxRecDepth 100000 in
theorem C_X5_with1 {l : Launch} {cy : Nat → ClassId} {D : va_G} {ad : Nat → Nat → Int → Nat} {M : Mem} {n : Nat} (hs : ad 40 13 0 = 1) (h31 : ad 40 31 0 = 1) (h32 : ad 40 32 0 ≠ 1) (hgh : ad 42 0 0 = 1) (hn : ad 41 19 0 = n) (hnl : n < 4) : Cg l cy D ad yX5_with (wsT yX5_with cX5_with 4 (some (FieldType.array (FieldType.array FieldType.int)))) 0 1 6 [.ref (ad 19 2 0), .ref (ad 31 2 0)] (M) (fun _ _ => True) (fun r ad' M' => r = some (.ref (ad' 32 2 0)) ∧ Ext ad ad' 32 (n + 1) ∧ M' = setc M 4 (u2 (u2 (M 4) 20 0 (n : Int)) 20 1 1)) := by
  refine Cg.mk (lv := [some _, some _, none, none]) 2 (by decide) rfl (Nat.le_of_ble_eq_true rfl) (fun p e s m below meth c F hE9 => ?_)
  have hn2 : (ad 41 19 0 : Int) = (n : Int) := by rw [hn]
  refine r_aload_n (i := 0) F dX5_with_0 rfl rfl ?_
  refine al_19 F dX5_with_1 hs hn2 ?_
  refine r_iconst F dX5_with_2 ?_
  refine r_iadd F dX5_with_3 ?_
  have F0 := F
  refine r_newq F h32 (n + 1) dX5_with_4 tk_X5_22 (by omega) (by omega) ⟨by show 0 + 1 ≤ 1; omega, by show 0 + (n + 1) ≤ 6; omega⟩ (fun ad9 E9 F => ?_)
  have h329 := E9.1
  have h4132 : (ad9 41 32 0 : Int) = (n : Int) + 1 := by rw [E9.2.1]; rfl
  have hs0 := hs
  have hs : ad9 40 13 0 = 1 := (E9.fl (by decide) (Or.inl rfl) (by decide)).trans hs0
  have h319 : ad9 40 31 0 = 1 := (E9.fl (by decide) (Or.inl rfl) (by decide)).trans h31
  have hn2 : (ad9 41 19 0 : Int) = (n : Int) := by rw [E9.fl (by decide) (Or.inr rfl) (by decide)]; exact hn2
  have hgh9 : ad9 42 0 0 = 1 := (E9.2.2 42 0 0 (by decide) (by decide) (by decide)).trans hgh
  have e19 : ad9 19 2 0 = ad 19 2 0 := E9.lo (by decide) (by decide)
  have e31 : ad9 31 2 0 = ad 31 2 0 := E9.hi (by decide) (by decide) (by decide)
  refine r_astore_n (i := 2) (lv1 := [_, _, _, _]) F dX5_with_7 rfl (by decide) rfl rfl ?_
  refine r_iconst F dX5_with_8 ?_
  refine r_istore_n (i := 3) (lv1 := [_, _, _, _]) F dX5_with_9 rfl (by decide) rfl rfl ?_
  have loop : ∀ (n9 : Nat) (i : Int), 0 ≤ i → i + (n9 : Int) = (n : Int) → V p l e (RG 0 1 6) s m ([.ref (ad 19 2 0), .ref (ad 31 2 0)] : List Value).toArray below meth c 4 cy D ad9 (Aw ad s.heap.size) (0 + 1) (0 + (n + 1)) (MQ below (Qa cy D ad s.heap.size (fun r ad' M' => r = some (.ref (ad' 32 2 0)) ∧ Ext ad ad' 32 (n + 1) ∧ M' = setc M 4 (u2 (u2 (M 4) 20 0 (n : Int)) 20 1 1))) ([.ref (ad 19 2 0), .ref (ad 31 2 0)] : List Value).toArray s 1 6 (Aw ad s.heap.size)) 10 [some (.ref (ad 19 2 0)), some (.ref (ad 31 2 0)), some (.ref (ad9 32 2 0)), some (.int (i32 i))] [] (setc M 4 (u2 (u2 (M 4) 20 0 i) 20 1 0)) := by
    intro n9
    induction n9 with
    | zero =>
      intro i g0 g1
      obtain rfl : i = (n : Int) := by omega
      refine r_iload_n (i := 3) F dX5_with_10 rfl rfl ?_
      refine r_aload_n (x := ad9 19 2 0) (i := 0) F dX5_with_11 rfl (by rw [e19]; rfl) ?_
      refine al_19 F dX5_with_12 hs hn2 ?_
      refine r_icmp_ge (tgt := 28) F dX5_with_13 (by decide) (by first | assumption | exact ir_of (by omega) (by omega)) (by first | assumption | exact ir_of (by omega) (by omega)) (fun h13 => ?_) (fun h13 => ?_)
      · refine r_aload_n (i := 2) F dX5_with_28 rfl rfl ?_
        refine r_aload_n (x := ad9 19 2 0) (i := 0) F dX5_with_29 rfl (by rw [e19]; rfl) ?_
        refine al_19 F dX5_with_30 hs hn2 ?_
        refine r_aload_n (x := ad9 31 2 0) (i := 1) F dX5_with_31 rfl (by rw [e31]; rfl) ?_
        refine r_ast32 F dX5_with_32 h329 (T := u2 (u2 (M 4) 20 0 (n : Int)) 20 1 1) (dm31 h319) rfl rfl (by omega) (by omega) (by omega) (set32b (M := M) rfl) (fun k9 i9 hk9 => by rw [u2_k hk9, u2_k hk9, setc_at, u2_k hk9, u2_k hk9]) ?_
        refine V.cast (setc_setc _ _ _ _) ?_
        refine r_aload_n (i := 2) F dX5_with_33 rfl rfl ?_
        refine V.wide (kc1 := 1) (ks1 := 6) (by omega) (by omega) ?_
        exact r_aretG F dX5_with_34 rfl (Or.inr ⟨_, rfl⟩) ⟨rfl, E9, rfl⟩
      · exfalso; omega
    | succ n9 ih9 =>
      intro i g0 g1
      refine r_iload_n (i := 3) F dX5_with_10 rfl rfl ?_
      refine r_aload_n (x := ad9 19 2 0) (i := 0) F dX5_with_11 rfl (by rw [e19]; rfl) ?_
      refine al_19 F dX5_with_12 hs hn2 ?_
      refine r_icmp_ge (tgt := 28) F dX5_with_13 (by decide) (by first | assumption | exact ir_of (by omega) (by omega)) (by first | assumption | exact ir_of (by omega) (by omega)) (fun h13 => ?_) (fun h13 => ?_)
      · exfalso; omega
      · refine r_aload_n (i := 2) F dX5_with_16 rfl rfl ?_
        refine r_iload_n (i := 3) F dX5_with_17 rfl rfl ?_
        refine r_aload_n (x := ad9 19 2 0) (i := 0) F dX5_with_18 rfl (by rw [e19]; rfl) ?_
        refine r_iload_n (i := 3) F dX5_with_19 rfl rfl ?_
        refine aa_19 F dX5_with_20 hs (by omega) (by omega) (by omega) ?_
        refine r_ast32 F dX5_with_21 h329 (T := (u2 (u2 (M 4) 20 0 (i + 1)) 20 1 0)) (dm22 hs g0 (by omega) (by omega)) rfl rfl g0 (by omega) (by omega) (set32a (M := M) hgh9 g0) (fun k9 i9 hk9 => by rw [u2_k hk9, u2_k hk9, setc_at, u2_k hk9, u2_k hk9]) ?_
        refine V.cast (setc_setc _ _ _ _) ?_
        refine r_iinc (lv1 := [_, _, _, _]) F dX5_with_22 rfl (by decide) rfl rfl ?_
        refine r_goto (tgt := 10) F dX5_with_25 (by decide) ?_
        exact ih9 (i + 1) (by omega) (by omega)
  exact loop n 0 (by decide) (by omega)
set_option maxHeartbeats 4000000 in
set_option maxRecDepth 100000 in
theorem C_X5_with2 {l : Launch} {cy : Nat → ClassId} {D : va_G} {ad : Nat → Nat → Int → Nat} {M : Mem} {n : Nat} (hs : ad 40 13 0 = 1) (h31 : ad 40 31 0 = 1) (h32 : ad 40 32 0 ≠ 1) (hgh : ad 42 0 0 = 2) (hn : ad 41 20 0 = n) (hnl : n < 6) : Cg l cy D ad yX5_with (wsT yX5_with cX5_with 4 (some (FieldType.array (FieldType.array FieldType.int)))) 0 1 6 [.ref (ad 20 2 0), .ref (ad 31 2 0)] (M) (fun _ _ => True) (fun r ad' M' => r = some (.ref (ad' 32 2 0)) ∧ Ext ad ad' 32 (n + 1) ∧ M' = setc M 4 (u2 (u2 (M 4) 20 0 (n : Int)) 20 1 1)) := by
  refine Cg.mk (lv := [some _, some _, none, none]) 2 (by decide) rfl (Nat.le_of_ble_eq_true rfl) (fun p e s m below meth c F hE9 => ?_)
  have hn3 : (ad 41 20 0 : Int) = (n : Int) := by rw [hn]
  refine r_aload_n (i := 0) F dX5_with_0 rfl rfl ?_
  refine al_20 F dX5_with_1 hs hn3 ?_
  refine r_iconst F dX5_with_2 ?_
  refine r_iadd F dX5_with_3 ?_
  have F0 := F
  refine r_newq F h32 (n + 1) dX5_with_4 tk_X5_22 (by omega) (by omega) ⟨by show 0 + 1 ≤ 1; omega, by show 0 + (n + 1) ≤ 6; omega⟩ (fun ad9 E9 F => ?_)
  have h329 := E9.1
  have h4132 : (ad9 41 32 0 : Int) = (n : Int) + 1 := by rw [E9.2.1]; rfl
  have hs0 := hs
  have hs : ad9 40 13 0 = 1 := (E9.fl (by decide) (Or.inl rfl) (by decide)).trans hs0
  have h319 : ad9 40 31 0 = 1 := (E9.fl (by decide) (Or.inl rfl) (by decide)).trans h31
  have hn3 : (ad9 41 20 0 : Int) = (n : Int) := by rw [E9.fl (by decide) (Or.inr rfl) (by decide)]; exact hn3
  have hgh9 : ad9 42 0 0 = 2 := (E9.2.2 42 0 0 (by decide) (by decide) (by decide)).trans hgh
  have e20 : ad9 20 2 0 = ad 20 2 0 := E9.lo (by decide) (by decide)
  have e31 : ad9 31 2 0 = ad 31 2 0 := E9.hi (by decide) (by decide) (by decide)
  refine r_astore_n (i := 2) (lv1 := [_, _, _, _]) F dX5_with_7 rfl (by decide) rfl rfl ?_
  refine r_iconst F dX5_with_8 ?_
  refine r_istore_n (i := 3) (lv1 := [_, _, _, _]) F dX5_with_9 rfl (by decide) rfl rfl ?_
  have loop : ∀ (n9 : Nat) (i : Int), 0 ≤ i → i + (n9 : Int) = (n : Int) → V p l e (RG 0 1 6) s m ([.ref (ad 20 2 0), .ref (ad 31 2 0)] : List Value).toArray below meth c 4 cy D ad9 (Aw ad s.heap.size) (0 + 1) (0 + (n + 1)) (MQ below (Qa cy D ad s.heap.size (fun r ad' M' => r = some (.ref (ad' 32 2 0)) ∧ Ext ad ad' 32 (n + 1) ∧ M' = setc M 4 (u2 (u2 (M 4) 20 0 (n : Int)) 20 1 1))) ([.ref (ad 20 2 0), .ref (ad 31 2 0)] : List Value).toArray s 1 6 (Aw ad s.heap.size)) 10 [some (.ref (ad 20 2 0)), some (.ref (ad 31 2 0)), some (.ref (ad9 32 2 0)), some (.int (i32 i))] [] (setc M 4 (u2 (u2 (M 4) 20 0 i) 20 1 0)) := by
    intro n9
    induction n9 with
    | zero =>
      intro i g0 g1
      obtain rfl : i = (n : Int) := by omega
      refine r_iload_n (i := 3) F dX5_with_10 rfl rfl ?_
      refine r_aload_n (x := ad9 20 2 0) (i := 0) F dX5_with_11 rfl (by rw [e20]; rfl) ?_
      refine al_20 F dX5_with_12 hs hn3 ?_
      refine r_icmp_ge (tgt := 28) F dX5_with_13 (by decide) (by first | assumption | exact ir_of (by omega) (by omega)) (by first | assumption | exact ir_of (by omega) (by omega)) (fun h13 => ?_) (fun h13 => ?_)
      · refine r_aload_n (i := 2) F dX5_with_28 rfl rfl ?_
        refine r_aload_n (x := ad9 20 2 0) (i := 0) F dX5_with_29 rfl (by rw [e20]; rfl) ?_
        refine al_20 F dX5_with_30 hs hn3 ?_
        refine r_aload_n (x := ad9 31 2 0) (i := 1) F dX5_with_31 rfl (by rw [e31]; rfl) ?_
        refine r_ast32 F dX5_with_32 h329 (T := u2 (u2 (M 4) 20 0 (n : Int)) 20 1 1) (dm31 h319) rfl rfl (by omega) (by omega) (by omega) (set32b (M := M) rfl) (fun k9 i9 hk9 => by rw [u2_k hk9, u2_k hk9, setc_at, u2_k hk9, u2_k hk9]) ?_
        refine V.cast (setc_setc _ _ _ _) ?_
        refine r_aload_n (i := 2) F dX5_with_33 rfl rfl ?_
        refine V.wide (kc1 := 1) (ks1 := 6) (by omega) (by omega) ?_
        exact r_aretG F dX5_with_34 rfl (Or.inr ⟨_, rfl⟩) ⟨rfl, E9, rfl⟩
      · exfalso; omega
    | succ n9 ih9 =>
      intro i g0 g1
      refine r_iload_n (i := 3) F dX5_with_10 rfl rfl ?_
      refine r_aload_n (x := ad9 20 2 0) (i := 0) F dX5_with_11 rfl (by rw [e20]; rfl) ?_
      refine al_20 F dX5_with_12 hs hn3 ?_
      refine r_icmp_ge (tgt := 28) F dX5_with_13 (by decide) (by first | assumption | exact ir_of (by omega) (by omega)) (by first | assumption | exact ir_of (by omega) (by omega)) (fun h13 => ?_) (fun h13 => ?_)
      · exfalso; omega
      · refine r_aload_n (i := 2) F dX5_with_16 rfl rfl ?_
        refine r_iload_n (i := 3) F dX5_with_17 rfl rfl ?_
        refine r_aload_n (x := ad9 20 2 0) (i := 0) F dX5_with_18 rfl (by rw [e20]; rfl) ?_
        refine r_iload_n (i := 3) F dX5_with_19 rfl rfl ?_
        refine aa_20 F dX5_with_20 hs (by omega) (by omega) (by omega) ?_
        refine r_ast32 F dX5_with_21 h329 (T := (u2 (u2 (M 4) 20 0 (i + 1)) 20 1 0)) (dm23 hs g0 (by omega) (by omega)) rfl rfl g0 (by omega) (by omega) (set32a (M := M) hgh9 g0) (fun k9 i9 hk9 => by rw [u2_k hk9, u2_k hk9, setc_at, u2_k hk9, u2_k hk9]) ?_
        refine V.cast (setc_setc _ _ _ _) ?_
        refine r_iinc (lv1 := [_, _, _, _]) F dX5_with_22 rfl (by decide) rfl rfl ?_
        refine r_goto (tgt := 10) F dX5_with_25 (by decide) ?_
        exact ih9 (i + 1) (by omega) (by omega)
  exact loop n 0 (by decide) (by omega)
