/-! Constructors: the walk over a list of cells, and its rows. -/
def FK (p : Program) (s : State) (m : MethodId) (args : Array Value) (meth : Method) (c : Code) (own : String) (cc : ByteArray) (nL : Nat) (cy : Nat → ClassId) (D : va_G) (A : Nat → Prop) : Prop :=
  p.tables.exec = Jvm.exec ∧ c.code = cc ∧ c.maxLocals = nL ∧ s.vm.findClass own = some m.cls ∧ meth.locks = false ∧ (∀ w ∈ TB, w.before args s = true) ∧ Kp cy D s ∧ AOK s ∧ (∀ q : Nat, s.heap.size ≤ q → A q)
def UV (p : Program) (l : Launch) (e : Env) (R : Room) (s : State) (m : MethodId) (args : Array Value) (below : List Frame) (meth : Method) (c : Code) (nL : Nat) (D : va_G) (A : Nat → Prop) (kc ks : Nat) (Q : State → Prop) (pc : Nat) (lv : List (Option Value)) (st : List Value) (ws : va_W) : Prop :=
  ∀ (H : Heap) (locs : List Loc) (ls : Array Slot), va_P D vwCl ws H → va_D A ws → va_S A s.heap H locs → lvh nL ls lv → W p l e R s m args below meth c H locs kc ks Q (F0 m pc ls st)
def RI (lev mc ms : Nat) : Room := { frames := lev, cells := mc, slots := ms, locals := 30 * lev }
def IP (cy : Nat → ClassId) (D : va_G) (b : Nat) (ws0 : va_W) (sz : Nat) : Array Value → State → Prop := va_Pc [.ref b] (fun U => U.heap.size = sz ∧ va_P D vwCl ws0 U.heap ∧ Kp cy D U ∧ AOK U ∧ va_D (fun _ => True) ws0)
theorem IP_blind (cy : Nat → ClassId) (D : va_G) (b : Nat) (ws0 : va_W) (sz : Nat) : FrameBlind (IP cy D b ws0 sz) := by
  intro a U g mk q
  obtain ⟨q0, q1, q2, q3, q4, q5⟩ := q
  exact ⟨q0, q1, q2, Kp.same (s := U) (U := U.calling g mk a) rfl q3, AOK.moved (u := U) (U := U.calling g mk a) (Vm.Alike.refl U.vm) q4, q5⟩
def IQ {S : Type} (D : va_G) (ws0 : va_W) (W1 : S → va_W) (sz : Nat) : Array Value → State → Outcome → State → Prop := va_Qv (fun _ : S => True) (fun g t => va_P D vwCl (W1 g) t.heap ∧ va_D (va_A ws0 sz) (W1 g)) (va_A ws0 sz)
/-- a constructor: its cell, then what it makes, at addresses that a function tells -/
def It {S : Type} (l : Launch) (cy : Nat → ClassId) (D : va_G) (y : MethodName) (bytes : ByteArray) (maxL lev b mc ms : Nat) (ws0 : va_W) (W1 : S → va_W) : Prop :=
  ∀ sz : Nat, Met l y (wsT y bytes maxL none) (RI lev mc ms) (IP cy D b ws0 sz) (IQ D ws0 W1 sz) mc ms (va_A ws0 sz)
theorem It.mk {l : Launch} {cy : Nat → ClassId} {D : va_G} {y : MethodName} {bytes : ByteArray} {maxL lev b mc ms : Nat} {S : Type} {ws0 : va_W} {W1 : S → va_W} (n : Nat) {lv : List (Option Value)}
    (hy : plainName y.cls = true) (hyn : y.name = "<init>") (hlv : lve [.ref b] ++ List.replicate n none = lv) (hlen : (lg_sl [Value.ref b]).length ≤ maxL)
    (body : ∀ (p : Program) (e : Env) (s : State) (m : MethodId) (below : List Frame) (meth : Method) (c : Code), FK p s m ([.ref b] : List Value).toArray meth c y.cls bytes maxL cy D (va_A ws0 s.heap.size) → meth.sig.returnType = none ∧ meth.name = "<init>" →
      UV p l e (RI lev mc ms) s m ([.ref b] : List Value).toArray below meth c maxL D (va_A ws0 s.heap.size) 0 0 (MQ below (IQ D ws0 W1 s.heap.size) ([.ref b] : List Value).toArray s mc ms (va_A ws0 s.heap.size)) 0 lv [] ws0) : It l cy D y bytes maxL lev b mc ms ws0 W1 := by
  intro sz
  refine Met.ofW (cc := bytes) (maxL := maxL) (ret := none) hy rfl ?_
  intro p e s m args below meth c s₁ B hml hv
  obtain ⟨rfl, hsz, hP, hK, hO, hD⟩ := hv
  subst hsz
  have hts : ∀ w ∈ TB, w.before ([.ref b] : List Value).toArray s = true := fun w hw => atoms_spec (ws := wsT y bytes maxL none) B.pre w (List.mem_cons_of_mem _ hw)
  have F : FK p s m ([.ref b] : List Value).toArray meth c y.cls bytes maxL cy D (va_A ws0 s.heap.size) := ⟨B.exec, B.bytes, hml, findClass_of_methodNamed B.named, B.notSynchronized, hts, hK, hO, fun q h => Or.inr h⟩
  have hl := lv_entry [Value.ref b] (n := maxL) hlen
  rw [lg_entry_eq]
  exact body p e s m below meth c F ⟨B.returns, (name_of_methodNamed B.named B.method).1.trans hyn⟩ s.heap [] _ hP hD.self va_S.rf (lvh_entry hl hlv)
theorem cA_obj {cy : Nat → ClassId} {D : va_G} {s : State} {cA : ClassId} {C : String} {tq : Nat} {cT : ClassId} (ht : (tyl cy)[tq]? = some (cT, .object C)) (hK : va_K D vwCl (tyl cy) s) (h : va_K D vwCl (tyl cy ++ [(cA, .object C)]) s) : cA = cT := by
  obtain ⟨kA, comp, -, -, -, h1⟩ := (h.2 5 (cA, .object C) rfl).2
  obtain ⟨kA2, comp2, -, -, -, h2⟩ := (hK.2 tq _ ht).2
  exact Option.some.inj (h1.symm.trans h2)
theorem va_D.pre {A : Nat → Prop} {pre w : va_W} (hD : va_D A (pre ++ w)) : va_D A pre := by
  have lf : ∀ (i : Nat) (p : Nat × va_E), pre[i]? = some p → (pre ++ w)[i]? = some p := fun i p h => by
    rw [List.getElem?_append_left (List.getElem?_eq_some_iff.mp h).1]; exact h
  exact ⟨fun i j p q h1 h2 h3 => hD.1 i j p q (lf i p h1) (lf j q h2) h3, fun k q h => hD.2 k q (lf k q h)⟩
theorem join_last {A : Nat → Prop} {D : va_G} {a : Nat} {e0 : va_E} {pre w1 : va_W} {H H1 : Heap} (hP : va_P D vwCl (pre ++ [(a, e0)]) H) (hD : va_D A (pre ++ [(a, e0)]))
    (hk : ∀ q : Nat, q < H.size → ¬ va_A [(a, e0)] H.size q → H1[q]? = H[q]?) (hF : ∀ q, va_A [(a, e0)] H.size q → A q) (hP1 : va_P D vwCl w1 H1) (hD1 : va_D (va_A [(a, e0)] H.size) w1) : va_P D vwCl (pre ++ w1) H1 ∧ va_D A (pre ++ w1) := by
  have lf : ∀ (i : Nat) (p : Nat × va_E), pre[i]? = some p → (pre ++ [(a, e0)])[i]? = some p := fun i p h => by
    rw [List.getElem?_append_left (List.getElem?_eq_some_iff.mp h).1]; exact h
  have lst : (pre ++ [(a, e0)])[pre.length]? = some (a, e0) := by
    rw [List.getElem?_append_right (Nat.le_refl _), Nat.sub_self]; rfl
  have apart : ∀ (k : Nat) (q : Nat × va_E), pre[k]? = some q → q.1 < H.size ∧ ¬ va_A [(a, e0)] H.size q.1 := by
    intro k q hq
    have hl := (hP k q (lf k q hq)).lt
    refine ⟨hl, fun h => ?_⟩
    rcases h with ⟨k2, e, h⟩ | h
    · have hz : k2 < 1 := (List.getElem?_eq_some_iff.mp h).1
      rw [show k2 = 0 by omega] at h
      have e1 : (a, e0) = (q.1, e) := Option.some.inj h
      have hij := hD.1 k pre.length q (a, e0) (lf k q hq) lst (congrArg Prod.fst e1).symm
      have := (List.getElem?_eq_some_iff.mp hq).1
      omega
    · omega
  refine ⟨va_P.app (fun k q hq => ?_) hP1, va_D.app hD.pre (hD1.weaken (fun k q _ h => hF q.1 h)) (fun i j x y hx hy hxy => ?_)⟩
  · obtain ⟨g1, g2⟩ := apart k q hq
    exact (hP k q (lf k q hq)).kept (hk q.1 g1 g2)
  · exact (apart i x hx).2 (by rw [hxy]; exact hD1.2 j y hy)
section KROWS
variable {p : Program} {l : Launch} {e : Env} {R : Room} {s : State} {m : MethodId} {args : Array Value} {below : List Frame} {meth : Method} {c : Code} {nL : Nat} {cy : Nat → ClassId} {D : va_G} {A : Nat → Prop} {kc ks : Nat} {Q : State → Prop} {pc : Nat} {lv : List (Option Value)} {st : List Value} {ws : va_W} {own : String} {cc : ByteArray}
theorem UV.cast {ws1 : va_W} (h : ws = ws1) (k : UV p l e R s m args below meth c nL D A kc ks Q pc lv st ws1) : UV p l e R s m args below meth c nL D A kc ks Q pc lv st ws := h ▸ k
theorem UV.loc {lv1 : List (Option Value)} (hs : ∀ (i : Nat) (v : Value), lv1[i]? = some (some v) → lv[i]? = some (some v)) (k : UV p l e R s m args below meth c nL D A kc ks Q pc lv1 st ws) : UV p l e R s m args below meth c nL D A kc ks Q pc lv st ws := fun H locs ls hP hD hS hl => k H locs ls hP hD hS (hl.le hs)
theorem UV.kill (i : Nat) {lv1 : List (Option Value)} (hs : lv.set i none = lv1) (k9 : UV p l e R s m args below meth c nL D A kc ks Q pc lv1 st ws) : UV p l e R s m args below meth c nL D A kc ks Q pc lv st ws := UV.loc (fun j v h => kill_le lv i j v (by rw [hs]; exact h)) k9
theorem UV.cell (k : Nat) {a : Nat} {e0 e1 : va_E} {ws1 : va_W} (hk : ws[k]? = some (a, e0)) (hc : ∀ H : Heap, va_at D vwCl (a, e0) H → va_at D vwCl (a, e1) H) (hws : ws.set k (a, e1) = ws1) (kk : UV p l e R s m args below meth c nL D A kc ks Q pc lv st ws1) : UV p l e R s m args below meth c nL D A kc ks Q pc lv st ws := by
  subst hws
  intro H locs ls hP hD hS hl
  exact kk H locs ls (hP.set hD hk (hc H (hP k _ hk)) (fun _ _ => rfl)) (hD.set hk) hS hl
theorem k_aload_n (F : FK p s m args meth c own cc nL cy D A) {k : Fin 4} {i : Nat} {x : Nat} (d : decode cc pc = .ok (.aload_n k, 1)) (hi : (k : Nat) = i) (hv : lv[i]? = some (some (.ref x))) (kk : UV p l e R s m args below meth c nL D A kc ks Q (pc + 1) lv (.ref x :: st) ws) : UV p l e R s m args below meth c nL D A kc ks Q pc lv st ws := fun H locs ls hP hD hS hl => lv_aload_n F.1 F.2.1 d hi (hl.2.2 _ _ hv) (kk H locs ls hP hD hS hl)
theorem k_iload_n (F : FK p s m args meth c own cc nL cy D A) {k : Fin 4} {i : Nat} {x : Int32} (d : decode cc pc = .ok (.iload_n k, 1)) (hi : (k : Nat) = i) (hv : lv[i]? = some (some (.int x))) (kk : UV p l e R s m args below meth c nL D A kc ks Q (pc + 1) lv (.int x :: st) ws) : UV p l e R s m args below meth c nL D A kc ks Q pc lv st ws := fun H locs ls hP hD hS hl => lv_iload_n F.1 F.2.1 d hi (hl.2.2 _ _ hv) (kk H locs ls hP hD hS hl)
theorem k_iconst (F : FK p s m args meth c own cc nL cy D A) {n : Int} (d : decode cc pc = .ok (.iconst n, 1)) (kk : UV p l e R s m args below meth c nL D A kc ks Q (pc + 1) lv (.int (i32 n) :: st) ws) : UV p l e R s m args below meth c nL D A kc ks Q pc lv st ws := fun H locs ls hP hD hS hl => lv_iconst (v := i32 n) F.1 F.2.1 d rfl (kk H locs ls hP hD hS hl)
theorem k_bipush (F : FK p s m args meth c own cc nL cy D A) {n : Int} (d : decode cc pc = .ok (.bipush n, 2)) (hv : (Int8.ofInt n).toInt32 = i32 n) (kk : UV p l e R s m args below meth c nL D A kc ks Q (pc + 2) lv (.int (i32 n) :: st) ws) : UV p l e R s m args below meth c nL D A kc ks Q pc lv st ws := fun H locs ls hP hD hS hl => lv_bipush (v := i32 n) F.1 F.2.1 d hv (kk H locs ls hP hD hS hl)
theorem k_dup (F : FK p s m args meth c own cc nL cy D A) {v : Value} (d : decode cc pc = .ok (.dup, 1)) (hv : v.category = 1) (kk : UV p l e R s m args below meth c nL D A kc ks Q (pc + 1) lv (v :: v :: st) ws) : UV p l e R s m args below meth c nL D A kc ks Q pc lv (v :: st) ws := fun H locs ls hP hD hS hl => lv_dup F.1 F.2.1 d hv (kk H locs ls hP hD hS hl)
theorem k_goto (F : FK p s m args meth c own cc nL cy D A) {off : Int} {tgt : Nat} (d : decode cc pc = .ok (.goto off, 3)) (ht : (pc : Int) + off = (tgt : Int)) (kk : UV p l e R s m args below meth c nL D A kc ks Q tgt lv st ws) : UV p l e R s m args below meth c nL D A kc ks Q pc lv st ws := fun H locs ls hP hD hS hl => lv_goto F.1 F.2.1 d ht (kk H locs ls hP hD hS hl)
theorem k_istore_n (F : FK p s m args meth c own cc nL cy D A) {k : Fin 4} {i : Nat} {x : Int32} {lv1 : List (Option Value)} (d : decode cc pc = .ok (.istore_n k, 1)) (hi : (k : Nat) = i) (hn : i < nL) (hs : lv.set i (some (.int x)) = lv1) (hp : okp lv i = true) (kk : UV p l e R s m args below meth c nL D A kc ks Q (pc + 1) lv1 st ws) : UV p l e R s m args below meth c nL D A kc ks Q pc lv (.int x :: st) ws := fun H locs _ hP hD hS hl => lv_istore_n F.1 F.2.1 d hi hl.has hn rfl (fun ls1 h1 => kk H locs ls1 hP hD hS (lvh.st1 hs hp h1))
theorem k_astore_n (F : FK p s m args meth c own cc nL cy D A) {k : Fin 4} {i : Nat} {x : Nat} {lv1 : List (Option Value)} (d : decode cc pc = .ok (.astore_n k, 1)) (hi : (k : Nat) = i) (hn : i < nL) (hs : lv.set i (some (.ref x)) = lv1) (hp : okp lv i = true) (kk : UV p l e R s m args below meth c nL D A kc ks Q (pc + 1) lv1 st ws) : UV p l e R s m args below meth c nL D A kc ks Q pc lv (.ref x :: st) ws := fun H locs _ hP hD hS hl => lv_astore_n F.1 F.2.1 d hi hl.has hn rfl (fun ls1 h1 => kk H locs ls1 hP hD hS (lvh.st1 hs hp h1))
theorem k_iinc (F : FK p s m args meth c own cc nL cy D A) {i : Nat} {n a : Int} {lv1 : List (Option Value)} (d : decode cc pc = .ok (.iinc i n, 3)) (hv : lv[i]? = some (some (.int (i32 a)))) (hn : i < nL) (hs : lv.set i (some (.int (i32 (a + n)))) = lv1) (hp : okp lv i = true) (kk : UV p l e R s m args below meth c nL D A kc ks Q (pc + 3) lv1 st ws) : UV p l e R s m args below meth c nL D A kc ks Q pc lv st ws := by
  intro H locs ls hP hD hS hl
  have hm : (i, Value.int (i32 a)) ∈ lvl 0 lv := by simpa using lvl_of lv 0 i _ hv
  obtain ⟨q0, hq⟩ := List.getElem?_of_mem hm
  exact lv_iinc (v := i32 (a + n)) F.1 F.2.1 d hl.has (k := q0) hq (by show i32 a + i32 n = _; rw [i32_add]) hn rfl (fun ls1 h1 => kk H locs ls1 hP hD hS (lvh.st1 hs hp h1))
theorem k_icmp_gt (F : FK p s m args meth c own cc nL cy D A) {a b off : Int} {tgt : Nat} (d : decode cc pc = .ok (.if_icmp .gt off, 3)) (ht : (pc : Int) + off = (tgt : Int)) (ha : ir a) (hb9 : ir b) (kt : b < a → UV p l e R s m args below meth c nL D A kc ks Q tgt lv st ws) (kf : a ≤ b → UV p l e R s m args below meth c nL D A kc ks Q (pc + 3) lv st ws) : UV p l e R s m args below meth c nL D A kc ks Q pc lv (.int (i32 b) :: .int (i32 a) :: st) ws := by
  intro H locs ls hP hD hS hl
  exact lv_icmp_gt F.1 F.2.1 d ht (fun h => kt ((i32_lt hb9 ha).mp h) H locs ls hP hD hS hl) (fun h => kf (Int.not_lt.mp (fun z => h ((i32_lt hb9 ha).mpr z))) H locs ls hP hD hS hl)
theorem k_icmp_ge (F : FK p s m args meth c own cc nL cy D A) {a b off : Int} {tgt : Nat} (d : decode cc pc = .ok (.if_icmp .ge off, 3)) (ht : (pc : Int) + off = (tgt : Int)) (ha : ir a) (hb9 : ir b) (kt : b ≤ a → UV p l e R s m args below meth c nL D A kc ks Q tgt lv st ws) (kf : a < b → UV p l e R s m args below meth c nL D A kc ks Q (pc + 3) lv st ws) : UV p l e R s m args below meth c nL D A kc ks Q pc lv (.int (i32 b) :: .int (i32 a) :: st) ws := by
  intro H locs ls hP hD hS hl
  exact lv_icmp_ge F.1 F.2.1 d ht (fun h => kt ((i32_le hb9 ha).mp h) H locs ls hP hD hS hl) (fun h => kf (Int.not_le.mp (fun z => h ((i32_le hb9 ha).mpr z))) H locs ls hP hD hS hl)
theorem k_obj (F : FK p s m args meth c own cc nL cy D A) {idx a : Nat} (d : decode cc pc = .ok (.invokespecial idx, 3)) (h1 : Cond.methodLink own idx objectInit ∈ TB) (h2 : Cond.instanceMethod objectInit ∈ TB) (h3 : Cond.code objectInit ⟨#[0xb1]⟩ 1 none ∈ TB) (hfr : 1 ≤ R.frames) (hlo : 12 ≤ R.locals) (kk : UV p l e R s m args below meth c nL D A kc ks Q (pc + 3) lv [] ws) : UV p l e R s m args below meth c nL D A kc ks Q pc lv [.ref a] ws := by
  intro H locs ls hP hD hS hl
  refine W.objInit F.1 F.2.1 F.2.2.2.1 (F.2.2.2.2.2.1 _ h1) (F.2.2.2.2.2.1 _ h2) (F.2.2.2.2.2.1 _ h3) rfl (by show ls.size = _; rw [F.2.2.1]; exact hl.1) rfl d hfr (by show 2 * 0 + 0 + 12 ≤ _; omega) ?_
  exact W.eq (g2 := F0 m (pc + 3) ls []) rfl (kk H locs ls hP hD hS hl)
theorem k_get (F : FK p s m args meth c own cc nL cy D A) (q0 : Nat) {a : Nat} {C : String} {T : u_T} {N ci index : Nat} {fs : List Value} {k : Nat} {v : Value} (d : decode cc pc = .ok (.getfield index, 3)) (he : ws[q0]? = some (a, .inr (ci, fs))) (hc : vwCl[ci]? = some (C, T, N)) (hkN : k < N) (hin : ∀ w ∈ u_ws C T N, w ∈ TB) (hlk9 : Cond.fieldLink own index (T k).1 (T k).2.1 (T k).2.2.1 ∈ TB) (hv : fs[k]? = some v) (kk : UV p l e R s m args below meth c nL D A kc ks Q (pc + 3) lv (v :: st) ws) : UV p l e R s m args below meth c nL D A kc ks Q pc lv (.ref a :: st) ws := by
  obtain ⟨hx, hb, hml, hown, hlk, hts, hK, hO, hA⟩ := F
  intro H locs ls hP hD hS hl
  exact va_get hx hb hts hin hown hK.1 hP q0 he hc k hkN (hts _ hlk9) (fun _ h => h) hv d (kk H locs ls hP hD hS hl)
theorem k_putF (F : FK p s m args meth c own cc nL cy D A) (hnm9 : meth.name = "<init>") (q0 : Nat) {a : Nat} {C : String} {T : u_T} {N ci index : Nat} {fs : List Value} {k : Nat} {v : Value} {ty : FieldType} {ws1 : va_W} (d : decode cc pc = .ok (.putfield index, 3)) (he : ws[q0]? = some (a, .inr (ci, fs))) (hc : vwCl[ci]? = some (C, T, N)) (hlen : fs.length = N) (hkN : k < N) (hin : ∀ w ∈ u_ws C T N, w ∈ TB) (ty0 : Nat → FieldType) (hty : ∀ k, k < N → parseFieldDescriptor (T k).2.2.1 = some (ty0 k)) (hnm : ∀ a, a < N → ∀ b, b < N → a ≠ b → (T a).2.1 ≠ (T b).2.1) (hlk9 : Cond.fieldLink own index (T k).1 (T k).2.1 (T k).2.2.1 ∈ TB) (hfin : (T k).2.2.2 = true) (hdecl : (T k).1 = own) (hd : parseFieldDescriptor (T k).2.2.1 = some ty) (hn : narrow ty v = v) (hfit : fits ty v = true) (hws : ws.set q0 (a, .inr (ci, fs.set k v)) = ws1) (kk : UV p l e R s m args below meth c nL D A kc ks Q (pc + 3) lv st ws1) : UV p l e R s m args below meth c nL D A kc ks Q pc lv (v :: .ref a :: st) ws := by
  obtain ⟨hx, hb, hml, hown, hlk, hts, hK, hO, hA⟩ := F
  subst hws
  intro H locs ls hP hD hS hl
  exact va_putF hx hb hts hin ty0 hty hnm hown hK.1 hP hD hS q0 he hc k hkN (hts _ hlk9) (fun _ h => h) hfin hnm9 hdecl hd hn hfit (by rw [hlen]; exact hkN) d (fun H1 locs1 hP1 hD1 hS1 => kk H1 locs1 ls hP1 hD1 hS1 hl)
theorem k_iast (F : FK p s m args meth c own cc nL cy D A) (q0 : Nat) {a n : Nat} {j : Int} {f : Nat → Int32} {x : Int32} {ws1 : va_W} (d : decode cc pc = .ok (.iastore, 1)) (he : ws[q0]? = some (a, .inl (cy 0, n, .inl f))) (h1 : 0 ≤ j) (h2 : j < n) (hn : n < 2147483648) (hws : ws.set q0 (a, .inl (cy 0, n, .inl (upd f j.toNat x))) = ws1) (kk : UV p l e R s m args below meth c nL D A kc ks Q (pc + 1) lv st ws1) : UV p l e R s m args below meth c nL D A kc ks Q pc lv (.int x :: .int (i32 j) :: .ref a :: st) ws := by
  obtain ⟨hx, hb, hml, hown, hlk, hts, hK, hO, hA⟩ := F
  subst hws
  intro H locs ls hP hD hS hl
  refine va_iast hx hb hK.1 hP hD hS q0 0 he rfl (i32_in h1 h2 hn) d (fun H1 locs1 hP1 hD1 hS1 => ?_)
  rw [i32_cl h1 (by omega)] at hP1 hD1
  exact kk H1 locs1 ls hP1 hD1 hS1 hl
theorem k_aast (F : FK p s m args meth c own cc nL cy D A) (q0 t0 qk ci : Nat) {a n v : Nat} {j : Int} {cA : ClassId} {r : vw_C} {vs : List Value} {f : Nat → Option Nat} {ws1 : va_W} (d : decode cc pc = .ok (.aastore, 1)) (he : ws[q0]? = some (a, .inl (cA, n, .inr (.inr (.inr (.inr f)))))) (ht : (tyl cy)[t0]? = some (cA, .object r.1)) (hv : ws[qk]? = some (v, .inr (ci, vs))) (hc : vwCl[ci]? = some r) (h1 : 0 ≤ j) (h2 : j < n) (hn : n < 2147483648) (hws : ws.set q0 (a, .inl (cA, n, .inr (.inr (.inr (.inr (va_up f j.toNat (some v))))))) = ws1) (kk : UV p l e R s m args below meth c nL D A kc ks Q (pc + 1) lv st ws1) : UV p l e R s m args below meth c nL D A kc ks Q pc lv (.ref v :: .int (i32 j) :: .ref a :: st) ws := by
  obtain ⟨hx, hb, hml, hown, hlk, hts, hK, hO, hA⟩ := F
  subst hws
  intro H locs ls hP hD hS hl
  refine va_astq hx hb hK.1 hP hD hS q0 t0 qk ci he ht hv hc (i32_in h1 h2 hn) d (fun H1 locs1 hP1 hD1 hS1 => ?_)
  rw [i32_cl h1 (by omega)] at hP1 hD1
  exact kk H1 locs1 ls hP1 hD1 hS1 hl
theorem k_put (F : FK p s m args meth c own cc nL cy D A) (q0 : Nat) {a : Nat} {C : String} {T : u_T} {N ci index : Nat} {fs : List Value} {k : Nat} {v : Value} {ty : FieldType} {ws1 : va_W} (d : decode cc pc = .ok (.putfield index, 3)) (he : ws[q0]? = some (a, .inr (ci, fs))) (hc : vwCl[ci]? = some (C, T, N)) (hlen : fs.length = N) (hkN : k < N) (hin : ∀ w ∈ u_ws C T N, w ∈ TB) (ty0 : Nat → FieldType) (hty : ∀ k, k < N → parseFieldDescriptor (T k).2.2.1 = some (ty0 k)) (hnm : ∀ a, a < N → ∀ b, b < N → a ≠ b → (T a).2.1 ≠ (T b).2.1) (hlk9 : Cond.fieldLink own index (T k).1 (T k).2.1 (T k).2.2.1 ∈ TB) (hfin : (T k).2.2.2 = false) (hd : parseFieldDescriptor (T k).2.2.1 = some ty) (hn : narrow ty v = v) (hfit : fits ty v = true) (hws : ws.set q0 (a, .inr (ci, fs.set k v)) = ws1) (kk : UV p l e R s m args below meth c nL D A kc ks Q (pc + 3) lv st ws1) : UV p l e R s m args below meth c nL D A kc ks Q pc lv (v :: .ref a :: st) ws := by
  obtain ⟨hx, hb, hml, hown, hlk, hts, hK, hO, hA⟩ := F
  subst hws
  intro H locs ls hP hD hS hl
  exact va_put hx hb hts hin ty0 hty hnm hown hK.1 hP hD hS q0 he hc k hkN (hts _ hlk9) (fun _ h => h) hfin hd hn hfit (by rw [hlen]; exact hkN) d (fun H1 locs1 hP1 hD1 hS1 => kk H1 locs1 ls hP1 hD1 hS1 hl)
theorem k_newqA (F : FK p s m args meth c own cc nL cy D A) (N : Nat) {index : Nat} (d : decode cc pc = .ok (.anewarray index, 3)) (hcl : Cond.classLink own index "[I" ∈ TB) (hN : N < 1000) (hf : kc + 1 ≤ R.cells ∧ ks + N ≤ R.slots) (kk : ∀ q : Nat, UV p l e R s m args below meth c nL D A (kc + 1) (ks + N) Q (pc + 3) lv (.ref q :: st) (ws ++ [(q, .inl (cy 1, N, .inr (.inr (.inr (.inr (fun _ => none))))))])) : UV p l e R s m args below meth c nL D A kc ks Q pc lv (.int (i32 (N : Int)) :: st) ws := by
  obtain ⟨hx, hb, hml, hown, hlk, hts, hK, hO, hA⟩ := F
  intro H locs ls hP hD hS hl
  have ecl : (i32 (N : Int)).toNatClampNeg = N := by rw [i32_cl (by omega) (by omega)]; omega
  refine W.anewA (t := .int) hx hb hown (hts _ hcl) (show (Cond.arrayOver (.array .int)).before args s = true from hO.2.2.2) rfl d rfl (by have h := (i32_lt0 (a := (N : Int)) ⟨by omega, by omega⟩); intro z; have := h.mp z; omega) (by rw [ecl]; omega) hf.1 (by rw [ecl]; exact hf.2) (fun cA kA comp f1 f2 f3 f4 => ?_)
  rw [ecl]
  have hcA : cA = cy 1 := by
    have h2 : va_RA s (cy 1) (.array .int) := (hK.1.2 1 (cy 1, .array .int) rfl).2
    exact Option.some.inj (f1.symm.trans h2)
  subst hcA
  generalize hH1 : H.push ({ cls := cy 1, slots := Array.replicate N .null, vm := .none } : Cell) = H1
  have z1 : H1.size = H.size + 1 := by rw [← hH1, Array.size_push]
  have e1 : H1[H.size]? = some (arrV (cy 1) N (fun _ => .null)) := by rw [← hH1, Array.getElem?_push_size, ← arrV_new]
  have o1 : ∀ q : Nat, q < H.size → H1[q]? = H[q]? := fun q hq => by rw [← hH1, Array.getElem?_push, if_neg (Nat.ne_of_lt hq)]
  have hk : ∀ (k : Nat) (x : Nat × va_E), ws[k]? = some x → H1[x.1]? = H[x.1]? := fun k x hx => o1 x.1 ((hP k x hx).lt)
  refine kk H.size H1 locs ls ((hP.kept hk).app (fun k x hx => ?_)) (hD.push hP rfl (hA _ hS.1)) ⟨Nat.le_trans hS.1 (by omega), fun x h1 h2 => (o1 x (Nat.lt_of_lt_of_le h1 hS.1)).trans (hS.2.1 x h1 h2), hS.2.2⟩ hl
  have hz : k < 1 := (List.getElem?_eq_some_iff.mp hx).1
  rw [show k = 0 by omega] at hx
  cases hx
  show H1[H.size]? = some (vp_cell _ _)
  rw [vp_cell_q]
  exact e1
theorem k_new (F : FK p s m args meth c own cc nL cy D A) {C : String} {T : u_T} {N ci index : Nat} {fs : List Value} (d : decode cc pc = .ok (.new index, 3)) (hcl : Cond.classLink own index C ∈ TB) (hins : Cond.instantiable C N ∈ TB) (hini : Cond.initialized C ∈ TB) (hin : ∀ w ∈ u_ws C T N, w ∈ TB) (ty : Nat → FieldType) (hty : ∀ k, k < N → parseFieldDescriptor (T k).2.2.1 = some (ty k)) (hc : vwCl[ci]? = some (C, T, N)) (hfs : ∀ j, j < N → defaultValue (ty j) = vp_V fs j) (hf : kc + 1 ≤ R.cells ∧ ks + N ≤ R.slots) (kk : ∀ q : Nat, UV p l e R s m args below meth c nL D A (kc + 1) (ks + N) Q (pc + 3) lv (.ref q :: st) (ws ++ [(q, .inr (ci, fs))])) : UV p l e R s m args below meth c nL D A kc ks Q pc lv st ws := by
  obtain ⟨hx, hb, hml, hown, hlk, hts, hK, hO, hA⟩ := F
  intro H locs ls hP hD hS hl
  exact va_new hx hb hts hin ty hty hown (hts _ hcl) (hts _ hins) (hts _ hini) hK.1 hP hD hS hA hc hfs hf.1 hf.2 d (fun q H1 hP1 hD1 hS1 => kk q H1 locs ls hP1 hD1 hS1 hl)
theorem k_newa (F : FK p s m args meth c own cc nL cy D A) (N : Nat) (d : decode cc pc = .ok (.newarray .int, 2)) (harr : Cond.arrayClass .int ∈ TB) (hN : N < 1000) (hf : kc + 1 ≤ R.cells ∧ ks + N ≤ R.slots) (kk : ∀ q : Nat, UV p l e R s m args below meth c nL D A (kc + 1) (ks + N) Q (pc + 2) lv (.ref q :: st) (ws ++ [(q, .inl (cy 0, N, .inl (fun _ => 0)))])) : UV p l e R s m args below meth c nL D A kc ks Q pc lv (.int (i32 (N : Int)) :: st) ws := by
  obtain ⟨hx, hb, hml, hown, hlk, hts, hK, hO, hA⟩ := F
  intro H locs ls hP hD hS hl
  refine va_newa (atype := .int) hx hb (hts _ harr) (ty := .int) rfl hK.1 hP hD hS hA (N' := N) (a0 := (N, .inl (fun _ => 0))) (fun cA => by rw [vp_cell_i]; rfl) (by have h := (i32_lt0 (a := (N : Int)) ⟨by omega, by omega⟩); intro z; have := h.mp z; omega) (by rw [i32_cl (by omega) (by omega)]; omega) (by show N * 4 ≤ _; omega) hf.1 hf.2 d (fun q cA H1 hK1 hP1 hD1 hS1 => ?_)
  rw [cA_int hK.1 hK1] at hP1 hD1
  exact kk q H1 locs ls hP1 hD1 hS1 hl
theorem k_newq (F : FK p s m args meth c own cc nL cy D A) (N tq : Nat) {C : String} {index : Nat} {cT : ClassId} (d : decode cc pc = .ok (.anewarray index, 3)) (hcl : Cond.classLink own index C ∈ TB) (hov : va_AO C s) (ht : (tyl cy)[tq]? = some (cT, .object C)) (hN : N < 1000) (hf : kc + 1 ≤ R.cells ∧ ks + N ≤ R.slots) (kk : ∀ q : Nat, UV p l e R s m args below meth c nL D A (kc + 1) (ks + N) Q (pc + 3) lv (.ref q :: st) (ws ++ [(q, .inl (cT, N, .inr (.inr (.inr (.inr (fun _ => none))))))])) : UV p l e R s m args below meth c nL D A kc ks Q pc lv (.int (i32 (N : Int)) :: st) ws := by
  obtain ⟨hx, hb, hml, hown, hlk, hts, hK, hO, hA⟩ := F
  intro H locs ls hP hD hS hl
  refine va_newq hx hb hown (hts _ hcl) hov hK.1 hP hD hS hA (N' := N) (by have h := (i32_lt0 (a := (N : Int)) ⟨by omega, by omega⟩); intro z; have := h.mp z; omega) (by rw [i32_cl (by omega) (by omega)]; omega) (by omega) hf.1 hf.2 d (fun q cA H1 hK1 hP1 hD1 hS1 => ?_)
  rw [cA_obj ht hK.1 hK1] at hP1 hD1
  exact kk q H1 locs ls hP1 hD1 hS1 hl
theorem k_after (F : FK p s m args meth c own cc nL cy D A) {a mc ms : Nat} {e0 : va_E} {S : Type} {pre : va_W} {W1 : S → va_W} {aa : Array Value} {stk : List Value}
    (run : ∀ (H : Heap) (locs : List Loc) (ls : Array Slot), va_P D vwCl (pre ++ [(a, e0)]) H → va_D A (pre ++ [(a, e0)]) → va_S A s.heap H locs → lvh nL ls lv → va_Run p l e R s m args below meth c H locs kc ks mc ms (F0 m pc ls stk) st (IQ D [(a, e0)] W1 H.size aa) (va_A [(a, e0)] H.size))
    (kk : ∀ g : S, UV p l e R s m args below meth c nL D A (kc + mc) (ks + ms) Q (pc + 3) lv st (pre ++ W1 g)) : UV p l e R s m args below meth c nL D A kc ks Q pc lv stk (pre ++ [(a, e0)]) := by
  intro H locs ls hP hD hS hl
  have hF : ∀ q, va_A [(a, e0)] H.size q → A q := by
    intro q h
    rcases h with ⟨k, e9, h⟩ | h
    · have hz : k < 1 := (List.getElem?_eq_some_iff.mp h).1
      rw [show k = 0 by omega] at h
      have e1 : (a, e0) = (q, e9) := Option.some.inj h
      have h2 := hD.2 pre.length (a, e0) (by rw [List.getElem?_append_right (Nat.le_refl _), Nat.sub_self]; rfl)
      rw [show q = a from (congrArg Prod.fst e1).symm]
      exact h2
    · exact F.2.2.2.2.2.2.2.2 q (Nat.le_trans hS.1 h)
  refine va_callv (run H locs ls hP hD hS hl) hS (fun q _ h => hF q h) hF (fun g t H1 locs1 ht hvm hw hB hz1 hk1 hS1 => ?_)
  obtain ⟨hP1, hD1⟩ := hB
  rw [ht] at hP1
  obtain ⟨hP2, hD2⟩ := join_last hP hD hk1 hF hP1 hD1
  exact kk g H1 locs1 ls hP2 hD2 hS1 hl
theorem k_callI (F : FK p s m args meth c own cc nL cy D A) {y : MethodName} {bytes : ByteArray} {maxL lev index a mc ms : Nat} {e0 : va_E} {S : Type} {pre : va_W} {W1 : S → va_W} (hM : It l cy D y bytes maxL lev a mc ms [(a, e0)] W1) (hws : ws = pre ++ [(a, e0)]) (d : decode cc pc = .ok (.invokespecial index, 3)) (h1 : Cond.methodLink own index y ∈ TB) (h2 : Cond.instanceMethod y ∈ TB) (h3 : Cond.initialized y.cls ∈ TB) (hcd : Cond.code y bytes maxL none ∈ TB) (hyn : y.name = "<init>") (hd9 : y.cls ≠ "java/lang/invoke/MethodHandle" ∧ y.cls ≠ "java/lang/invoke/VarHandle" ∧ (parseMethodDescriptor y.desc).map (fun d => d.parameters.length) = some 0) (hR : lev + 1 ≤ R.frames ∧ 8 + (maxL + 11) + 30 * lev ≤ R.locals) (hf : kc + mc ≤ R.cells ∧ ks + ms ≤ R.slots) (hw : (st.map fun v => v.category).sum ≤ 8) (kk : ∀ g : S, UV p l e R s m args below meth c nL D A (kc + mc) (ks + ms) Q (pc + 3) lv st (pre ++ W1 g)) : UV p l e R s m args below meth c nL D A kc ks Q pc lv (.ref a :: st) ws := by
  subst hws
  have F9 := F
  obtain ⟨hx, hb, hml, hown, hlk, hts, hK, hO, hA⟩ := F
  refine k_after (st := st) (aa := (Value.ref a :: []).toArray) F9 (fun H locs ls hP hD hS hl => ?_) kk
  refine va_runI (Ts := TB) (As := []) (rm := RI lev mc ms) ⟨hx, hb, hml, hown, hts⟩ (hM H.size) (cwI 0 hts (tb_good (fun _ h => h) (X := wsT y bytes maxL none) ?_) rfl rfl rfl (hts _ h3) (hts _ h1) (hts _ h2) hyn hd9 hR) ⟨IP_blind _ _ _ _ _, fun U hU hW => ⟨rfl, by rw [hU], by rw [hU]; intro k q hk; have hz : k < 1 := (List.getElem?_eq_some_iff.mp hk).1; rw [show k = 0 by omega] at hk; cases hk; exact hP pre.length _ (by rw [List.getElem?_append_right (Nat.le_refl _), Nat.sub_self]; rfl), hK.warm hW, hO.moved hW.alike, ⟨fun i j p q h1 h2 _ => by have z1 : i < 1 := (List.getElem?_eq_some_iff.mp h1).1; have z2 : j < 1 := (List.getElem?_eq_some_iff.mp h2).1; omega, fun _ _ _ => trivial⟩⟩⟩ rfl rfl hl.1 rfl (lv_room hw) d hf
  intro w hw2
  rcases List.mem_cons.mp hw2 with rfl | h
  · exact hcd
  · exact h
theorem k_callIN (F : FK p s m args meth c own cc nL cy D A) {y : MethodName} {bytes : ByteArray} {maxL lev index a mc ms : Nat} {host : String} {e0 : va_E} {S : Type} {pre : va_W} {W1 : S → va_W} (hM : It l cy D y bytes maxL lev a mc ms [(a, e0)] W1) (hws : ws = pre ++ [(a, e0)]) (d : decode cc pc = .ok (.invokespecial index, 3)) (h1 : Cond.methodLinkNest own index y host ∈ lw_tbl) (h2 : Cond.instanceMethod y ∈ TB) (h3 : Cond.initialized y.cls ∈ TB) (hcd : Cond.code y bytes maxL none ∈ TB) (hyn : y.name = "<init>") (hd9 : y.cls ≠ "java/lang/invoke/MethodHandle" ∧ y.cls ≠ "java/lang/invoke/VarHandle" ∧ (parseMethodDescriptor y.desc).map (fun d => d.parameters.length) = some 0) (hR : lev + 1 ≤ R.frames ∧ 8 + (maxL + 11) + 30 * lev ≤ R.locals) (hf : kc + mc ≤ R.cells ∧ ks + ms ≤ R.slots) (hw : (st.map fun v => v.category).sum ≤ 8) (kk : ∀ g : S, UV p l e R s m args below meth c nL D A (kc + mc) (ks + ms) Q (pc + 3) lv st (pre ++ W1 g)) : UV p l e R s m args below meth c nL D A kc ks Q pc lv (.ref a :: st) ws := by
  subst hws
  have F9 := F
  obtain ⟨hx, hb, hml, hown, hlk, hts, hK, hO, hA⟩ := F
  refine k_after (st := st) (aa := (Value.ref a :: []).toArray) F9 (fun H locs ls hP hD hS hl => ?_) kk
  refine va_runIN (Ts := TB) (As := []) (rm := RI lev mc ms) (host := host) ⟨hx, hb, hml, hown, hts⟩ (hM H.size) ⟨va_cnB 0 hts (tb_good (fun _ h => h) (X := wsT y bytes maxL none) ?_) rfl rfl rfl (hK.2.1 _ h1 rfl) (hts _ h3) hd9 hR, hyn, hts _ h2⟩ ⟨IP_blind _ _ _ _ _, fun U hU hW => ⟨rfl, by rw [hU], by rw [hU]; intro k q hk; have hz : k < 1 := (List.getElem?_eq_some_iff.mp hk).1; rw [show k = 0 by omega] at hk; cases hk; exact hP pre.length _ (by rw [List.getElem?_append_right (Nat.le_refl _), Nat.sub_self]; rfl), hK.warm hW, hO.moved hW.alike, ⟨fun i j p q h1 h2 _ => by have z1 : i < 1 := (List.getElem?_eq_some_iff.mp h1).1; have z2 : j < 1 := (List.getElem?_eq_some_iff.mp h2).1; omega, fun _ _ _ => trivial⟩⟩⟩ rfl rfl hl.1 rfl (lv_room hw) d hf
  intro w hw2
  rcases List.mem_cons.mp hw2 with rfl | h
  · exact hcd
  · exact h
theorem k_vret {S : Type} {ws0 : va_W} {W1 : S → va_W} {mc ms : Nat} (F : FK p s m args meth c own cc nL cy D (va_A ws0 s.heap.size)) (hr : meth.sig.returnType = none) (d : decode cc pc = .ok (.return_, 1)) (g : S) (hws : ws = W1 g) (hkc : kc ≤ mc) (hks : ks ≤ ms) : UV p l e R s m args below meth c nL D (va_A ws0 s.heap.size) kc ks (MQ below (IQ D ws0 W1 s.heap.size) args s mc ms (va_A ws0 s.heap.size)) pc lv [] ws := by
  obtain ⟨hx, hb, hml, hown, hlk, hts, hK, hO, hA⟩ := F
  subst hws
  intro H locs ls hP hD hS hl
  refine W.widen hkc hks ?_
  exact W.vret hx hb hr (fun t ht hW => ⟨⟨g, rfl, trivial, by rw [ht]; exact hP, hD⟩, hS.F ht⟩) hS.2.2 d hlk
end KROWS
