/-! The walk's judgement V: at a pc, over every heap that holds the world of a memory, with these locals and this stack. -/
theorem i32_add (a b : Int) : i32 a + i32 b = i32 (a + b) := (Int32.ofInt_add a b).symm
theorem i32_sub (a b : Int) : i32 a - i32 b = i32 (a - b) := (Int32.ofInt_sub a b).symm
theorem i32_mul (a b : Int) : i32 a * i32 b = i32 (a * b) := (Int32.ofInt_mul a b).symm
theorem i32_neg (a : Int) : -i32 a = i32 (-a) := (Int32.ofInt_neg a).symm
def ir (a : Int) : Prop := -2147483648 ≤ a ∧ a < 2147483648
theorem ir_of {a : Int} (h1 : -2147483648 ≤ a) (h2 : a < 2147483648) : ir a := ⟨h1, h2⟩
theorem i32_T {a : Int} (h : ir a) : (i32 a).toInt = a := Int32.toInt_ofInt_of_le (by have := h.1; omega) (by have := h.2; omega)
theorem i32_lt {a b : Int} (ha : ir a) (hb : ir b) : i32 a < i32 b ↔ a < b := by rw [Int32.lt_iff_toInt_lt, i32_T ha, i32_T hb]
theorem i32_le {a b : Int} (ha : ir a) (hb : ir b) : i32 a ≤ i32 b ↔ a ≤ b := by rw [Int32.le_iff_toInt_le, i32_T ha, i32_T hb]
theorem i32_eq {a b : Int} (ha : ir a) (hb : ir b) : i32 a = i32 b ↔ a = b := by rw [← Int32.toInt_inj, i32_T ha, i32_T hb]
theorem i32_0 : i32 0 = 0 := rfl
theorem i32_eq0 {a : Int} (ha : ir a) : i32 a = 0 ↔ a = 0 := i32_eq ha (b := 0) ⟨by decide, by decide⟩
theorem i32_lt0 {a : Int} (ha : ir a) : i32 a < 0 ↔ a < 0 := i32_lt ha (b := 0) ⟨by decide, by decide⟩
theorem i32_le0 {a : Int} (ha : ir a) : i32 a ≤ 0 ↔ a ≤ 0 := i32_le ha (b := 0) ⟨by decide, by decide⟩
theorem i32_of (x : Int32) : i32 x.toInt = x := Int32.ofInt_toInt x
theorem ir_toInt (x : Int32) : ir x.toInt := ⟨by have := Int32.le_toInt x; omega, by have := Int32.toInt_lt x; omega⟩
theorem i32_div {a b : Int} (h1 : 0 ≤ a) (h2 : a < 2147483648) (h3 : 0 < b) (h4 : b < 2147483648) : i32 a / i32 b = i32 (a / b) := by
  have hb1 : i32 b ≠ -1 := fun h => by
    have := congrArg Int32.toInt h
    rw [i32_T ⟨by omega, by omega⟩] at this
    have h5 : (-1 : Int32).toInt = -1 := by decide
    omega
  have h6 : 0 ≤ a / b := Int.ediv_nonneg h1 (by omega)
  have h7 : a / b ≤ a := Int.ediv_le_self b h1
  rw [← Int32.toInt_inj, Int32.toInt_div_of_ne_right _ _ hb1, i32_T ⟨by omega, by omega⟩, i32_T ⟨by omega, by omega⟩, i32_T ⟨by omega, by omega⟩, Int.tdiv_eq_ediv_of_nonneg h1]
theorem i32_mod {a b : Int} (h1 : 0 ≤ a) (h2 : a < 2147483648) (h3 : 0 < b) (h4 : b < 2147483648) : i32 a % i32 b = i32 (a % b) := by
  have h6 : 0 ≤ a % b := Int.emod_nonneg a (by omega)
  have h7 : a % b < b := Int.emod_lt_of_pos a h3
  rw [← Int32.toInt_inj, Int32.toInt_mod, i32_T ⟨by omega, by omega⟩, i32_T ⟨by omega, by omega⟩, i32_T ⟨by omega, by omega⟩, Int.tmod_eq_emod_of_nonneg h1]
theorem i32_in {a : Int} {n : Nat} (h1 : 0 ≤ a) (h2 : a < n) (hn : n < 2147483648) : vp_in (i32 a) n := vp_in_iff.mpr (by rw [i32_T ⟨by omega, by omega⟩]; omega)
theorem i32_cl {a : Int} (h1 : 0 ≤ a) (h2 : a < 2147483648) : (i32 a).toNatClampNeg = a.toNat := by
  show (i32 a).toInt.toNat = _
  rw [i32_T ⟨by omega, by omega⟩]
theorem i32_clI {a : Int} (h1 : 0 ≤ a) (h2 : a < 2147483648) : (((i32 a).toNatClampNeg : Nat) : Int) = a := by
  rw [i32_cl h1 h2]; omega
def bi (b : Bool) : Int := if b then 1 else 0
theorem bi_ir (b : Bool) : ir (bi b) := by cases b <;> exact ⟨by decide, by decide⟩
theorem bi_t : bi true = 1 := rfl
theorem bi_f : bi false = 0 := rfl
theorem bi_nar (b : Bool) : narrow .boolean (.int (i32 (bi b))) = .int (i32 (bi b)) := by cases b <;> rfl
/-! the tables' words that last -/
def TB : List Cond := lw_tbl.filter goodWord
theorem tb_of {w : Cond} (i : Nat) (h : lw_tbl[i]? = some w) (g : goodWord w = true) : w ∈ TB := List.mem_filter.mpr ⟨List.mem_of_getElem? h, g⟩
theorem tb_tbl {w : Cond} (h : w ∈ TB) : w ∈ lw_tbl := (List.mem_filter.mp h).1
theorem tb_good {big X : List Cond} (hb : ∀ w ∈ TB, w ∈ big) (h : ∀ w ∈ X, w ∈ TB) : GoodIn big X := fun w hw => ⟨hb w (h w hw), good_of_word (List.mem_filter.mp (h w hw)).2⟩
def isNest : Cond → Bool
  | .fieldLinkNest _ _ _ _ _ _ => true
  | .methodLinkNest _ _ _ _ => true
  | _ => false
def NwOK (U : State) : Prop := ∀ w ∈ lw_tbl, isNest w = true → va_Nw w U
theorem NwOK.warm {s U : State} (hW : s.WarmedH U.vm) (h : NwOK s) : NwOK U := by
  intro w hw hn
  have h1 := h w hw hn
  match w, hn, h1 with
  | .fieldLinkNest _ _ _ _ _ _, _, h1 => exact va_Nw.warmF hW h1
  | .methodLinkNest _ _ _ _, _, h1 => exact va_Nw.warmM hW h1
theorem NwOK.same {s U : State} (hv : s.vm = U.vm) (h : NwOK s) : NwOK U := by
  intro w hw hn
  have h1 := h w hw hn
  match w, hn, h1 with
  | .fieldLinkNest _ _ _ _ _ _, _, h1 => exact va_Nw.same rfl hv h1
  | .methodLinkNest _ _ _ _, _, h1 => exact va_Nw.same rfl hv h1
def SrOK (U : State) : Prop := ∀ (o : String) (k : Nat) (tx : String), Cond.stringRef o k tx ∈ lw_tbl → ∃ a, vk_R o k tx a U
theorem SrOK.warm {s U : State} (hW : s.WarmedH U.vm) (h : SrOK s) : SrOK U := fun o k tx hw => (h o k tx hw).imp fun _ h => vk_R.warm hW h
theorem SrOK.same {s U : State} (hv : s.vm = U.vm) (h : SrOK s) : SrOK U := fun o k tx hw => (h o k tx hw).imp fun _ h => vk_R.same hv.symm h
def AOA (U : State) : Prop := (Cond.arrayOver (.array .int)).before #[] U = true
theorem AOA.moved {u U : State} (hvm : u.vm.Alike U.vm) (h : AOA u) : AOA U := over_moved hvm h
def AOK (U : State) : Prop := va_AO "CoveSignals$Lantern" U ∧ va_AO "CoveSignals$Watchman" U ∧ va_AO "CoveSignals$Boat" U ∧ AOA U
theorem AOK.moved {u U : State} (hvm : u.vm.Alike U.vm) (h : AOK u) : AOK U := ⟨h.1.moved hvm, h.2.1.moved hvm, h.2.2.1.moved hvm, h.2.2.2.moved hvm⟩
def Kp (cy : Nat → ClassId) (D : va_G) (U : State) : Prop := va_K D vwCl (tyl cy) U ∧ NwOK U ∧ AOK U
theorem Kp.warm {cy : Nat → ClassId} {D : va_G} {s U : State} (hW : s.WarmedH U.vm) (h : Kp cy D s) : Kp cy D U := ⟨va_K.moved hW.alike h.1, NwOK.warm hW h.2.1, AOK.moved hW.alike h.2.2⟩
theorem Kp.same {cy : Nat → ClassId} {D : va_G} {s U : State} (hv : s.vm = U.vm) (h : Kp cy D s) : Kp cy D U := ⟨va_K.moved (by rw [← hv]; exact Vm.Alike.refl s.vm) h.1, NwOK.same hv h.2.1, AOK.moved (by rw [← hv]; exact Vm.Alike.refl s.vm) h.2.2⟩
/-- the locals, by place -/
def lvh (nL : Nat) (ls : Array Slot) (lv : List (Option Value)) : Prop := ls.size = nL ∧ lv_wf ls ∧ ∀ (i : Nat) (v : Value), lv[i]? = some (some v) → ls[i]? = some (.val v)
def lvl : Nat → List (Option Value) → List (Nat × Value)
  | _, [] => []
  | i, none :: t => lvl (i + 1) t
  | i, some v :: t => (i, v) :: lvl (i + 1) t
theorem lvl_of : ∀ (lv : List (Option Value)) (k i : Nat) (v : Value), lv[i]? = some (some v) → (k + i, v) ∈ lvl k lv
  | [], k, i, v, h => by simp at h
  | none :: t, k, i, v, h => by
    cases i with
    | zero => simp at h
    | succ i =>
      have := lvl_of t (k + 1) i v (by simpa using h)
      rw [show k + 1 + i = k + (i + 1) from by omega] at this
      exact this
  | some x :: t, k, i, v, h => by
    cases i with
    | zero =>
      have e : x = v := by simpa using h
      subst e
      exact List.mem_cons_self
    | succ i =>
      have := lvl_of t (k + 1) i v (by simpa using h)
      rw [show k + 1 + i = k + (i + 1) from by omega] at this
      exact List.mem_cons_of_mem _ this
theorem lvl_to : ∀ (lv : List (Option Value)) (k j : Nat) (v : Value), (j, v) ∈ lvl k lv → ∃ i, j = k + i ∧ lv[i]? = some (some v)
  | [], k, j, v, h => by simp [lvl] at h
  | none :: t, k, j, v, h => by
    obtain ⟨i, h1, h2⟩ := lvl_to t (k + 1) j v h
    exact ⟨i + 1, by omega, by simpa using h2⟩
  | some x :: t, k, j, v, h => by
    rcases List.mem_cons.mp h with h | h
    · cases h
      exact ⟨0, rfl, rfl⟩
    · obtain ⟨i, h1, h2⟩ := lvl_to t (k + 1) j v h
      exact ⟨i + 1, by omega, by simpa using h2⟩
theorem lvh.has {nL : Nat} {ls : Array Slot} {lv : List (Option Value)} (h : lvh nL ls lv) : lv_has ls nL (lvl 0 lv) := ⟨h.1, h.2.1, fun q hq => by
  obtain ⟨i, h1, h2⟩ := lvl_to lv 0 q.1 q.2 hq
  have : q.1 = i := by omega
  rw [this]
  exact h.2.2 i q.2 h2⟩
def okp (lv : List (Option Value)) : Nat → Bool
  | 0 => true
  | i + 1 => match lv[i]? with
    | some (some v) => v.category == 1
    | _ => true
theorem lvh.st1 {nL : Nat} {ls' : Array Slot} {lv lv' : List (Option Value)} {i : Nat} {v : Value} (hs : lv.set i (some v) = lv') (hp : okp lv i = true)
    (h : lv_has ls' nL ((i, v) :: (lvl 0 lv).filter (fun q => !(q.1 == i) && !(q.1 + 1 == i && q.2.category == 2)))) : lvh nL ls' lv' := by
  subst hs
  refine ⟨h.1, h.2.1, fun j w hj => ?_⟩
  by_cases e : j = i
  · subst e
    rw [List.getElem?_set] at hj
    simp only [if_true] at hj
    split at hj
    · cases hj
      exact h.2.2 (j, v) List.mem_cons_self
    · cases hj
  · rw [List.getElem?_set_ne (Ne.symm e)] at hj
    refine h.2.2 (j, w) (List.mem_cons_of_mem _ (List.mem_filter.mpr ⟨by simpa using lvl_of lv 0 j w hj, ?_⟩))
    have h1 : ¬ (j + 1 = i ∧ w.category = 2) := fun ⟨a, b⟩ => by
      subst a
      simp only [okp, hj] at hp
      have : w.category = 1 := by simpa using hp
      omega
    simp only [Bool.and_eq_true, Bool.not_eq_true', beq_eq_false_iff_ne, Bool.and_eq_false_iff]
    refine ⟨e, ?_⟩
    by_cases e2 : j + 1 = i
    · exact Or.inr (fun e3 => h1 ⟨e2, e3⟩)
    · exact Or.inl e2
theorem lvh.st2 {nL : Nat} {ls' : Array Slot} {lv lv' : List (Option Value)} {i : Nat} {v : Value} (hs : (lv.set i (some v)).set (i + 1) none = lv') (hp : okp lv i = true)
    (h : lv_has ls' nL ((i, v) :: (lvl 0 lv).filter (fun q => !(q.1 == i) && (!(q.1 == i + 1) && !(q.1 + 1 == i && q.2.category == 2))))) : lvh nL ls' lv' := by
  subst hs
  refine ⟨h.1, h.2.1, fun j w hj => ?_⟩
  by_cases e0 : j = i + 1
  · subst e0
    rw [List.getElem?_set] at hj
    simp only [if_true] at hj
    split at hj <;> cases hj
  rw [List.getElem?_set_ne (Ne.symm e0)] at hj
  by_cases e : j = i
  · subst e
    rw [List.getElem?_set] at hj
    simp only [if_true] at hj
    split at hj
    · cases hj
      exact h.2.2 (j, v) List.mem_cons_self
    · cases hj
  · rw [List.getElem?_set_ne (Ne.symm e)] at hj
    refine h.2.2 (j, w) (List.mem_cons_of_mem _ (List.mem_filter.mpr ⟨by simpa using lvl_of lv 0 j w hj, ?_⟩))
    have h1 : ¬ (j + 1 = i ∧ w.category = 2) := fun ⟨a, b⟩ => by
      subst a
      simp only [okp, hj] at hp
      have : w.category = 1 := by simpa using hp
      omega
    simp only [Bool.and_eq_true, Bool.not_eq_true', beq_eq_false_iff_ne, Bool.and_eq_false_iff]
    refine ⟨e, e0, ?_⟩
    by_cases e2 : j + 1 = i
    · exact Or.inr (fun e3 => h1 ⟨e2, e3⟩)
    · exact Or.inl e2
/-- fewer known locals -/
theorem lvh.le {nL : Nat} {ls : Array Slot} {lv lv' : List (Option Value)} (h : lvh nL ls lv) (hs : ∀ (i : Nat) (v : Value), lv'[i]? = some (some v) → lv[i]? = some (some v)) : lvh nL ls lv' := ⟨h.1, h.2.1, fun i v hi => h.2.2 i v (hs i v hi)⟩
def lve : List Value → List (Option Value)
  | [] => []
  | v :: vs => if v.category = 2 then some v :: none :: lve vs else some v :: lve vs
theorem lve_mem : ∀ (As : List Value) (k i : Nat) (v : Value), (lve As)[i]? = some (some v) → (k + i, v) ∈ lv_args k As
  | [], k, i, v, h => by simp [lve] at h
  | x :: vs, k, i, v, h => by
    unfold lve at h
    unfold lv_args
    by_cases hc : x.category = 2
    · rw [if_pos hc] at h
      rw [if_pos hc]
      match i, h with
      | 0, h => have e : x = v := by simpa using h
                subst e; exact List.mem_cons_self
      | 1, h => simp at h
      | i + 2, h =>
        have := lve_mem vs (k + 2) i v (by simpa using h)
        rw [show k + 2 + i = k + (i + 2) from by omega] at this
        exact List.mem_cons_of_mem _ this
    · rw [if_neg hc] at h
      rw [if_neg hc]
      match i, h with
      | 0, h => have e : x = v := by simpa using h
                subst e; exact List.mem_cons_self
      | i + 1, h =>
        have := lve_mem vs (k + 1) i v (by simpa using h)
        rw [show k + 1 + i = k + (i + 1) from by omega] at this
        exact List.mem_cons_of_mem _ this
/-- which cells a method may change: the world's, and new ones -/
def Aw (ad : Nat → Nat → Int → Nat) (sz : Nat) : Nat → Prop := fun q => (∃ (t c : Nat) (i : Int), dmb ad t c i = true ∧ q = ad t c i) ∨ sz ≤ q
def Fx (p : Program) (s : State) (m : MethodId) (args : Array Value) (meth : Method) (c : Code) (own : String) (cc : ByteArray) (nL : Nat) (ret : Option FieldType) (cy : Nat → ClassId) (D : va_G) (ad : Nat → Nat → Int → Nat) (A : Nat → Prop) : Prop :=
  p.tables.exec = Jvm.exec ∧ c.code = cc ∧ c.maxLocals = nL ∧ s.vm.findClass own = some m.cls ∧ meth.sig.returnType = ret ∧ meth.locks = false ∧ (∀ w ∈ TB, w.before args s = true) ∧ Kp cy D s ∧ Inj ad ∧ (∀ (t c : Nat) (i : Int), dmb ad t c i = true → A (ad t c i)) ∧ ∀ q : Nat, s.heap.size ≤ q → A q
def V (p : Program) (l : Launch) (e : Env) (R : Room) (s : State) (m : MethodId) (args : Array Value) (below : List Frame) (meth : Method) (c : Code) (nL : Nat) (cy : Nat → ClassId) (D : va_G) (ad : Nat → Nat → Int → Nat) (A : Nat → Prop) (kc ks : Nat) (Q : State → Prop) (pc : Nat) (lv : List (Option Value)) (st : List Value) (M : Mem) : Prop :=
  ∀ (H : Heap) (locs : List Loc) (ls : Array Slot), va_P D vwCl (wsOf cy ad M) H → va_S A s.heap H locs → lvh nL ls lv → W p l e R s m args below meth c H locs kc ks Q (F0 m pc ls st)
section VROWS
variable {p : Program} {l : Launch} {e : Env} {R : Room} {s : State} {m : MethodId} {args : Array Value} {below : List Frame} {meth : Method} {c : Code} {nL : Nat} {cy : Nat → ClassId} {D : va_G} {ad : Nat → Nat → Int → Nat} {A : Nat → Prop} {kc ks : Nat} {Q : State → Prop} {pc : Nat} {lv : List (Option Value)} {st : List Value} {M : Mem} {own : String} {cc : ByteArray} {ret : Option FieldType}

theorem r_iconst (F : Fx p s m args meth c own cc nL ret cy D ad A) {n : Int} (d : decode cc pc = .ok (.iconst n, 1)) (k : V p l e R s m args below meth c nL cy D ad A kc ks Q (pc + 1) lv (.int (i32 n) :: st) M) : V p l e R s m args below meth c nL cy D ad A kc ks Q pc lv st M := by
  obtain ⟨hx, hb, hml, hown, hr, hlk, hts, hK, hI, hA1, hA2⟩ := F
  intro H locs ls hP hS hl
  exact lv_iconst (v := i32 n) hx hb d rfl (k H locs ls hP hS hl)
theorem r_bipush (F : Fx p s m args meth c own cc nL ret cy D ad A) {n : Int} (d : decode cc pc = .ok (.bipush n, 2)) (hv : (Int8.ofInt n).toInt32 = i32 n) (k : V p l e R s m args below meth c nL cy D ad A kc ks Q (pc + 2) lv (.int (i32 n) :: st) M) : V p l e R s m args below meth c nL cy D ad A kc ks Q pc lv st M := by
  obtain ⟨hx, hb, hml, hown, hr, hlk, hts, hK, hI, hA1, hA2⟩ := F
  intro H locs ls hP hS hl
  exact lv_bipush (v := i32 n) hx hb d hv (k H locs ls hP hS hl)
theorem r_sipush (F : Fx p s m args meth c own cc nL ret cy D ad A) {n : Int} (d : decode cc pc = .ok (.sipush n, 3)) (hv : (Int16.ofInt n).toInt32 = i32 n) (k : V p l e R s m args below meth c nL cy D ad A kc ks Q (pc + 3) lv (.int (i32 n) :: st) M) : V p l e R s m args below meth c nL cy D ad A kc ks Q pc lv st M := by
  obtain ⟨hx, hb, hml, hown, hr, hlk, hts, hK, hI, hA1, hA2⟩ := F
  intro H locs ls hP hS hl
  exact lv_sipush (v := i32 n) hx hb d hv (k H locs ls hP hS hl)
theorem r_iload_n (F : Fx p s m args meth c own cc nL ret cy D ad A) {k : Fin 4} {i : Nat} {x : Int32} (d : decode cc pc = .ok (.iload_n k, 1)) (hi : (k : Nat) = i) (hv : lv[i]? = some (some (.int x))) (kk : V p l e R s m args below meth c nL cy D ad A kc ks Q (pc + 1) lv (.int x :: st) M) : V p l e R s m args below meth c nL cy D ad A kc ks Q pc lv st M := by
  obtain ⟨hx, hb, hml, hown, hr, hlk, hts, hK, hI, hA1, hA2⟩ := F
  intro H locs ls hP hS hl
  exact lv_iload_n hx hb d hi (hl.2.2 _ _ hv) (kk H locs ls hP hS hl)
theorem r_iload (F : Fx p s m args meth c own cc nL ret cy D ad A) {i : Nat} {x : Int32} (d : decode cc pc = .ok (.iload i, 2)) (hv : lv[i]? = some (some (.int x))) (kk : V p l e R s m args below meth c nL cy D ad A kc ks Q (pc + 2) lv (.int x :: st) M) : V p l e R s m args below meth c nL cy D ad A kc ks Q pc lv st M := by
  obtain ⟨hx, hb, hml, hown, hr, hlk, hts, hK, hI, hA1, hA2⟩ := F
  intro H locs ls hP hS hl
  exact lv_iload hx hb d (hl.2.2 _ _ hv) (kk H locs ls hP hS hl)
theorem r_lload_n (F : Fx p s m args meth c own cc nL ret cy D ad A) {k : Fin 4} {i : Nat} {x : Int64} (d : decode cc pc = .ok (.lload_n k, 1)) (hi : (k : Nat) = i) (hv : lv[i]? = some (some (.long x))) (kk : V p l e R s m args below meth c nL cy D ad A kc ks Q (pc + 1) lv (.long x :: st) M) : V p l e R s m args below meth c nL cy D ad A kc ks Q pc lv st M := by
  obtain ⟨hx, hb, hml, hown, hr, hlk, hts, hK, hI, hA1, hA2⟩ := F
  intro H locs ls hP hS hl
  exact lv_lload_n hx hb d hi (hl.2.2 _ _ hv) (kk H locs ls hP hS hl)
theorem r_lload (F : Fx p s m args meth c own cc nL ret cy D ad A) {i : Nat} {x : Int64} (d : decode cc pc = .ok (.lload i, 2)) (hv : lv[i]? = some (some (.long x))) (kk : V p l e R s m args below meth c nL cy D ad A kc ks Q (pc + 2) lv (.long x :: st) M) : V p l e R s m args below meth c nL cy D ad A kc ks Q pc lv st M := by
  obtain ⟨hx, hb, hml, hown, hr, hlk, hts, hK, hI, hA1, hA2⟩ := F
  intro H locs ls hP hS hl
  exact lv_lload hx hb d (hl.2.2 _ _ hv) (kk H locs ls hP hS hl)
theorem r_dload_n (F : Fx p s m args meth c own cc nL ret cy D ad A) {k : Fin 4} {i : Nat} {x : UInt64} (d : decode cc pc = .ok (.dload_n k, 1)) (hi : (k : Nat) = i) (hv : lv[i]? = some (some (.double x))) (kk : V p l e R s m args below meth c nL cy D ad A kc ks Q (pc + 1) lv (.double x :: st) M) : V p l e R s m args below meth c nL cy D ad A kc ks Q pc lv st M := by
  obtain ⟨hx, hb, hml, hown, hr, hlk, hts, hK, hI, hA1, hA2⟩ := F
  intro H locs ls hP hS hl
  exact lv_dload_n hx hb d hi (hl.2.2 _ _ hv) (kk H locs ls hP hS hl)
theorem r_dload (F : Fx p s m args meth c own cc nL ret cy D ad A) {i : Nat} {x : UInt64} (d : decode cc pc = .ok (.dload i, 2)) (hv : lv[i]? = some (some (.double x))) (kk : V p l e R s m args below meth c nL cy D ad A kc ks Q (pc + 2) lv (.double x :: st) M) : V p l e R s m args below meth c nL cy D ad A kc ks Q pc lv st M := by
  obtain ⟨hx, hb, hml, hown, hr, hlk, hts, hK, hI, hA1, hA2⟩ := F
  intro H locs ls hP hS hl
  exact lv_dload hx hb d (hl.2.2 _ _ hv) (kk H locs ls hP hS hl)
theorem r_aload_n (F : Fx p s m args meth c own cc nL ret cy D ad A) {k : Fin 4} {i : Nat} {x : Nat} (d : decode cc pc = .ok (.aload_n k, 1)) (hi : (k : Nat) = i) (hv : lv[i]? = some (some (.ref x))) (kk : V p l e R s m args below meth c nL cy D ad A kc ks Q (pc + 1) lv (.ref x :: st) M) : V p l e R s m args below meth c nL cy D ad A kc ks Q pc lv st M := by
  obtain ⟨hx, hb, hml, hown, hr, hlk, hts, hK, hI, hA1, hA2⟩ := F
  intro H locs ls hP hS hl
  exact lv_aload_n hx hb d hi (hl.2.2 _ _ hv) (kk H locs ls hP hS hl)
theorem r_aload (F : Fx p s m args meth c own cc nL ret cy D ad A) {i : Nat} {x : Nat} (d : decode cc pc = .ok (.aload i, 2)) (hv : lv[i]? = some (some (.ref x))) (kk : V p l e R s m args below meth c nL cy D ad A kc ks Q (pc + 2) lv (.ref x :: st) M) : V p l e R s m args below meth c nL cy D ad A kc ks Q pc lv st M := by
  obtain ⟨hx, hb, hml, hown, hr, hlk, hts, hK, hI, hA1, hA2⟩ := F
  intro H locs ls hP hS hl
  exact lv_aload hx hb d (hl.2.2 _ _ hv) (kk H locs ls hP hS hl)
theorem r_istore_n (F : Fx p s m args meth c own cc nL ret cy D ad A) {k : Fin 4} {i : Nat} {x : Int32} {lv1 : List (Option Value)} (d : decode cc pc = .ok (.istore_n k, 1)) (hi : (k : Nat) = i) (hn : i < nL) (hs : lv.set i (some (.int x)) = lv1) (hp : okp lv i = true) (kk : V p l e R s m args below meth c nL cy D ad A kc ks Q (pc + 1) lv1 st M) : V p l e R s m args below meth c nL cy D ad A kc ks Q pc lv (.int x :: st) M := by
  obtain ⟨hx, hb, hml, hown, hr, hlk, hts, hK, hI, hA1, hA2⟩ := F
  intro H locs ls hP hS hl
  exact lv_istore_n hx hb d hi hl.has hn rfl (fun ls1 h1 => kk H locs ls1 hP hS (lvh.st1 hs hp h1))
theorem r_istore (F : Fx p s m args meth c own cc nL ret cy D ad A) {i : Nat} {x : Int32} {lv1 : List (Option Value)} (d : decode cc pc = .ok (.istore i, 2)) (hn : i < nL) (hs : lv.set i (some (.int x)) = lv1) (hp : okp lv i = true) (kk : V p l e R s m args below meth c nL cy D ad A kc ks Q (pc + 2) lv1 st M) : V p l e R s m args below meth c nL cy D ad A kc ks Q pc lv (.int x :: st) M := by
  obtain ⟨hx, hb, hml, hown, hr, hlk, hts, hK, hI, hA1, hA2⟩ := F
  intro H locs ls hP hS hl
  exact lv_istore hx hb d hl.has hn rfl (fun ls1 h1 => kk H locs ls1 hP hS (lvh.st1 hs hp h1))
theorem r_astore_n (F : Fx p s m args meth c own cc nL ret cy D ad A) {k : Fin 4} {i : Nat} {x : Nat} {lv1 : List (Option Value)} (d : decode cc pc = .ok (.astore_n k, 1)) (hi : (k : Nat) = i) (hn : i < nL) (hs : lv.set i (some (.ref x)) = lv1) (hp : okp lv i = true) (kk : V p l e R s m args below meth c nL cy D ad A kc ks Q (pc + 1) lv1 st M) : V p l e R s m args below meth c nL cy D ad A kc ks Q pc lv (.ref x :: st) M := by
  obtain ⟨hx, hb, hml, hown, hr, hlk, hts, hK, hI, hA1, hA2⟩ := F
  intro H locs ls hP hS hl
  exact lv_astore_n hx hb d hi hl.has hn rfl (fun ls1 h1 => kk H locs ls1 hP hS (lvh.st1 hs hp h1))
theorem r_astore (F : Fx p s m args meth c own cc nL ret cy D ad A) {i : Nat} {x : Nat} {lv1 : List (Option Value)} (d : decode cc pc = .ok (.astore i, 2)) (hn : i < nL) (hs : lv.set i (some (.ref x)) = lv1) (hp : okp lv i = true) (kk : V p l e R s m args below meth c nL cy D ad A kc ks Q (pc + 2) lv1 st M) : V p l e R s m args below meth c nL cy D ad A kc ks Q pc lv (.ref x :: st) M := by
  obtain ⟨hx, hb, hml, hown, hr, hlk, hts, hK, hI, hA1, hA2⟩ := F
  intro H locs ls hP hS hl
  exact lv_astore hx hb d hl.has hn rfl (fun ls1 h1 => kk H locs ls1 hP hS (lvh.st1 hs hp h1))
theorem r_lstore_n (F : Fx p s m args meth c own cc nL ret cy D ad A) {k : Fin 4} {i : Nat} {x : Int64} {lv1 : List (Option Value)} (d : decode cc pc = .ok (.lstore_n k, 1)) (hi : (k : Nat) = i) (hn : i + 1 < nL) (hs : (lv.set i (some (.long x))).set (i + 1) none = lv1) (hp : okp lv i = true) (kk : V p l e R s m args below meth c nL cy D ad A kc ks Q (pc + 1) lv1 st M) : V p l e R s m args below meth c nL cy D ad A kc ks Q pc lv (.long x :: st) M := by
  obtain ⟨hx, hb, hml, hown, hr, hlk, hts, hK, hI, hA1, hA2⟩ := F
  intro H locs ls hP hS hl
  exact lv_lstore_n hx hb d hi hl.has hn rfl (fun ls1 h1 => kk H locs ls1 hP hS (lvh.st2 hs hp h1))
theorem r_lstore (F : Fx p s m args meth c own cc nL ret cy D ad A) {i : Nat} {x : Int64} {lv1 : List (Option Value)} (d : decode cc pc = .ok (.lstore i, 2)) (hn : i + 1 < nL) (hs : (lv.set i (some (.long x))).set (i + 1) none = lv1) (hp : okp lv i = true) (kk : V p l e R s m args below meth c nL cy D ad A kc ks Q (pc + 2) lv1 st M) : V p l e R s m args below meth c nL cy D ad A kc ks Q pc lv (.long x :: st) M := by
  obtain ⟨hx, hb, hml, hown, hr, hlk, hts, hK, hI, hA1, hA2⟩ := F
  intro H locs ls hP hS hl
  exact lv_lstore hx hb d hl.has hn rfl (fun ls1 h1 => kk H locs ls1 hP hS (lvh.st2 hs hp h1))
theorem r_dstore_n (F : Fx p s m args meth c own cc nL ret cy D ad A) {k : Fin 4} {i : Nat} {x : UInt64} {lv1 : List (Option Value)} (d : decode cc pc = .ok (.dstore_n k, 1)) (hi : (k : Nat) = i) (hn : i + 1 < nL) (hs : (lv.set i (some (.double x))).set (i + 1) none = lv1) (hp : okp lv i = true) (kk : V p l e R s m args below meth c nL cy D ad A kc ks Q (pc + 1) lv1 st M) : V p l e R s m args below meth c nL cy D ad A kc ks Q pc lv (.double x :: st) M := by
  obtain ⟨hx, hb, hml, hown, hr, hlk, hts, hK, hI, hA1, hA2⟩ := F
  intro H locs ls hP hS hl
  exact lv_dstore_n hx hb d hi hl.has hn rfl (fun ls1 h1 => kk H locs ls1 hP hS (lvh.st2 hs hp h1))
theorem r_dstore (F : Fx p s m args meth c own cc nL ret cy D ad A) {i : Nat} {x : UInt64} {lv1 : List (Option Value)} (d : decode cc pc = .ok (.dstore i, 2)) (hn : i + 1 < nL) (hs : (lv.set i (some (.double x))).set (i + 1) none = lv1) (hp : okp lv i = true) (kk : V p l e R s m args below meth c nL cy D ad A kc ks Q (pc + 2) lv1 st M) : V p l e R s m args below meth c nL cy D ad A kc ks Q pc lv (.double x :: st) M := by
  obtain ⟨hx, hb, hml, hown, hr, hlk, hts, hK, hI, hA1, hA2⟩ := F
  intro H locs ls hP hS hl
  exact lv_dstore hx hb d hl.has hn rfl (fun ls1 h1 => kk H locs ls1 hP hS (lvh.st2 hs hp h1))
theorem r_iinc (F : Fx p s m args meth c own cc nL ret cy D ad A) {i : Nat} {n a : Int} {lv1 : List (Option Value)} (d : decode cc pc = .ok (.iinc i n, 3)) (hv : lv[i]? = some (some (.int (i32 a)))) (hn : i < nL) (hs : lv.set i (some (.int (i32 (a + n)))) = lv1) (hp : okp lv i = true) (kk : V p l e R s m args below meth c nL cy D ad A kc ks Q (pc + 3) lv1 st M) : V p l e R s m args below meth c nL cy D ad A kc ks Q pc lv st M := by
  obtain ⟨hx, hb, hml, hown, hr, hlk, hts, hK, hI, hA1, hA2⟩ := F
  intro H locs ls hP hS hl
  have hm : (i, Value.int (i32 a)) ∈ lvl 0 lv := by simpa using lvl_of lv 0 i _ hv
  obtain ⟨q0, hq⟩ := List.getElem?_of_mem hm
  exact lv_iinc (v := i32 (a + n)) hx hb d hl.has (k := q0) hq (by show i32 a + i32 n = _; rw [i32_add]) hn rfl (fun ls1 h1 => kk H locs ls1 hP hS (lvh.st1 hs hp h1))
theorem r_iadd (F : Fx p s m args meth c own cc nL ret cy D ad A) {a b : Int} (d : decode cc pc = .ok (.iadd, 1)) (k : V p l e R s m args below meth c nL cy D ad A kc ks Q (pc + 1) lv (.int (i32 (a + b)) :: st) M) : V p l e R s m args below meth c nL cy D ad A kc ks Q pc lv (.int (i32 b) :: .int (i32 a) :: st) M := by
  obtain ⟨hx, hb, hml, hown, hr, hlk, hts, hK, hI, hA1, hA2⟩ := F
  intro H locs ls hP hS hl
  refine lv_iadd hx hb d ?_
  rw [i32_add]
  exact k H locs ls hP hS hl
theorem r_isub (F : Fx p s m args meth c own cc nL ret cy D ad A) {a b : Int} (d : decode cc pc = .ok (.isub, 1)) (k : V p l e R s m args below meth c nL cy D ad A kc ks Q (pc + 1) lv (.int (i32 (a - b)) :: st) M) : V p l e R s m args below meth c nL cy D ad A kc ks Q pc lv (.int (i32 b) :: .int (i32 a) :: st) M := by
  obtain ⟨hx, hb, hml, hown, hr, hlk, hts, hK, hI, hA1, hA2⟩ := F
  intro H locs ls hP hS hl
  refine lv_isub hx hb d ?_
  rw [i32_sub]
  exact k H locs ls hP hS hl
theorem r_imul (F : Fx p s m args meth c own cc nL ret cy D ad A) {a b : Int} (d : decode cc pc = .ok (.imul, 1)) (k : V p l e R s m args below meth c nL cy D ad A kc ks Q (pc + 1) lv (.int (i32 (a * b)) :: st) M) : V p l e R s m args below meth c nL cy D ad A kc ks Q pc lv (.int (i32 b) :: .int (i32 a) :: st) M := by
  obtain ⟨hx, hb, hml, hown, hr, hlk, hts, hK, hI, hA1, hA2⟩ := F
  intro H locs ls hP hS hl
  refine lv_imul hx hb d ?_
  rw [i32_mul]
  exact k H locs ls hP hS hl
theorem r_ineg (F : Fx p s m args meth c own cc nL ret cy D ad A) {a : Int} (d : decode cc pc = .ok (.ineg, 1)) (k : V p l e R s m args below meth c nL cy D ad A kc ks Q (pc + 1) lv (.int (i32 (-a)) :: st) M) : V p l e R s m args below meth c nL cy D ad A kc ks Q pc lv (.int (i32 a) :: st) M := by
  obtain ⟨hx, hb, hml, hown, hr, hlk, hts, hK, hI, hA1, hA2⟩ := F
  intro H locs ls hP hS hl
  refine lv_ineg hx hb d ?_
  first | rw [i32_neg] | (rw [show (0 : Int32) = i32 0 from rfl, i32_sub, show (0 : Int) - a = -a by omega])
  exact k H locs ls hP hS hl
theorem r_idiv (F : Fx p s m args meth c own cc nL ret cy D ad A) {a b : Int} (d : decode cc pc = .ok (.idiv, 1)) (h1 : 0 ≤ a) (h2 : a < 2147483648) (h3 : 0 < b) (h4 : b < 2147483648) (k : V p l e R s m args below meth c nL cy D ad A kc ks Q (pc + 1) lv (.int (i32 (a / b)) :: st) M) : V p l e R s m args below meth c nL cy D ad A kc ks Q pc lv (.int (i32 b) :: .int (i32 a) :: st) M := by
  obtain ⟨hx, hb, hml, hown, hr, hlk, hts, hK, hI, hA1, hA2⟩ := F
  intro H locs ls hP hS hl
  refine lv_idiv hx hb d (fun h => by have := (i32_eq0 ⟨by omega, by omega⟩).mp h; omega) ?_
  rw [i32_div h1 h2 h3 h4]
  exact k H locs ls hP hS hl
theorem r_irem (F : Fx p s m args meth c own cc nL ret cy D ad A) {a b : Int} (d : decode cc pc = .ok (.irem, 1)) (h1 : 0 ≤ a) (h2 : a < 2147483648) (h3 : 0 < b) (h4 : b < 2147483648) (k : V p l e R s m args below meth c nL cy D ad A kc ks Q (pc + 1) lv (.int (i32 (a % b)) :: st) M) : V p l e R s m args below meth c nL cy D ad A kc ks Q pc lv (.int (i32 b) :: .int (i32 a) :: st) M := by
  obtain ⟨hx, hb, hml, hown, hr, hlk, hts, hK, hI, hA1, hA2⟩ := F
  intro H locs ls hP hS hl
  refine lv_irem hx hb d (fun h => by have := (i32_eq0 ⟨by omega, by omega⟩).mp h; omega) ?_
  first | rw [i32_mod h1 h2 h3 h4] | (rw [irem_eq_mod, i32_mod h1 h2 h3 h4])
  exact k H locs ls hP hS hl
theorem r_icmp_eq (F : Fx p s m args meth c own cc nL ret cy D ad A) {a b off : Int} {tgt : Nat} (d : decode cc pc = .ok (.if_icmp .eq off, 3)) (ht : (pc : Int) + off = (tgt : Int)) (ha : ir a) (hb9 : ir b) (kt : a = b → V p l e R s m args below meth c nL cy D ad A kc ks Q tgt lv st M) (kf : ¬ a = b → V p l e R s m args below meth c nL cy D ad A kc ks Q (pc + 3) lv st M) : V p l e R s m args below meth c nL cy D ad A kc ks Q pc lv (.int (i32 b) :: .int (i32 a) :: st) M := by
  obtain ⟨hx, hb, hml, hown, hr, hlk, hts, hK, hI, hA1, hA2⟩ := F
  intro H locs ls hP hS hl
  have e1 := i32_lt ha hb9
  have e2 := i32_le ha hb9
  have e3 := i32_eq ha hb9
  have e4 := i32_lt hb9 ha
  have e5 := i32_le hb9 ha
  refine lv_icmp_eq hx hb d ht (fun h => kt ?_ H locs ls hP hS hl) (fun h => kf ?_ H locs ls hP hS hl) <;> simp only [ge_iff_le, gt_iff_lt, e1, e2, e3, e4, e5, ne_eq, Decidable.not_not, Int.not_lt, Int.not_le] at h <;> omega
theorem r_if_eq (F : Fx p s m args meth c own cc nL ret cy D ad A) {a off : Int} {tgt : Nat} (d : decode cc pc = .ok (.ifCond .eq off, 3)) (ht : (pc : Int) + off = (tgt : Int)) (ha : ir a) (kt : a = 0 → V p l e R s m args below meth c nL cy D ad A kc ks Q tgt lv st M) (kf : ¬ a = 0 → V p l e R s m args below meth c nL cy D ad A kc ks Q (pc + 3) lv st M) : V p l e R s m args below meth c nL cy D ad A kc ks Q pc lv (.int (i32 a) :: st) M := by
  obtain ⟨hx, hb, hml, hown, hr, hlk, hts, hK, hI, hA1, hA2⟩ := F
  intro H locs ls hP hS hl
  have hb9 : ir 0 := ⟨by decide, by decide⟩
  have e1 := i32_lt ha hb9
  have e2 := i32_le ha hb9
  have e3 := i32_eq ha hb9
  have e4 := i32_lt hb9 ha
  have e5 := i32_le hb9 ha
  rw [i32_0] at e1 e2 e3 e4 e5
  refine lv_if_eq hx hb d ht (fun h => kt ?_ H locs ls hP hS hl) (fun h => kf ?_ H locs ls hP hS hl) <;> simp only [ge_iff_le, gt_iff_lt, e1, e2, e3, e4, e5, ne_eq, Decidable.not_not, Int.not_lt, Int.not_le] at h <;> omega
theorem r_icmp_ne (F : Fx p s m args meth c own cc nL ret cy D ad A) {a b off : Int} {tgt : Nat} (d : decode cc pc = .ok (.if_icmp .ne off, 3)) (ht : (pc : Int) + off = (tgt : Int)) (ha : ir a) (hb9 : ir b) (kt : ¬ a = b → V p l e R s m args below meth c nL cy D ad A kc ks Q tgt lv st M) (kf : a = b → V p l e R s m args below meth c nL cy D ad A kc ks Q (pc + 3) lv st M) : V p l e R s m args below meth c nL cy D ad A kc ks Q pc lv (.int (i32 b) :: .int (i32 a) :: st) M := by
  obtain ⟨hx, hb, hml, hown, hr, hlk, hts, hK, hI, hA1, hA2⟩ := F
  intro H locs ls hP hS hl
  have e1 := i32_lt ha hb9
  have e2 := i32_le ha hb9
  have e3 := i32_eq ha hb9
  have e4 := i32_lt hb9 ha
  have e5 := i32_le hb9 ha
  refine lv_icmp_ne hx hb d ht (fun h => kt ?_ H locs ls hP hS hl) (fun h => kf ?_ H locs ls hP hS hl) <;> simp only [ge_iff_le, gt_iff_lt, e1, e2, e3, e4, e5, ne_eq, Decidable.not_not, Int.not_lt, Int.not_le] at h <;> omega
theorem r_if_ne (F : Fx p s m args meth c own cc nL ret cy D ad A) {a off : Int} {tgt : Nat} (d : decode cc pc = .ok (.ifCond .ne off, 3)) (ht : (pc : Int) + off = (tgt : Int)) (ha : ir a) (kt : ¬ a = 0 → V p l e R s m args below meth c nL cy D ad A kc ks Q tgt lv st M) (kf : a = 0 → V p l e R s m args below meth c nL cy D ad A kc ks Q (pc + 3) lv st M) : V p l e R s m args below meth c nL cy D ad A kc ks Q pc lv (.int (i32 a) :: st) M := by
  obtain ⟨hx, hb, hml, hown, hr, hlk, hts, hK, hI, hA1, hA2⟩ := F
  intro H locs ls hP hS hl
  have hb9 : ir 0 := ⟨by decide, by decide⟩
  have e1 := i32_lt ha hb9
  have e2 := i32_le ha hb9
  have e3 := i32_eq ha hb9
  have e4 := i32_lt hb9 ha
  have e5 := i32_le hb9 ha
  rw [i32_0] at e1 e2 e3 e4 e5
  refine lv_if_ne hx hb d ht (fun h => kt ?_ H locs ls hP hS hl) (fun h => kf ?_ H locs ls hP hS hl) <;> simp only [ge_iff_le, gt_iff_lt, e1, e2, e3, e4, e5, ne_eq, Decidable.not_not, Int.not_lt, Int.not_le] at h <;> omega
theorem r_icmp_lt (F : Fx p s m args meth c own cc nL ret cy D ad A) {a b off : Int} {tgt : Nat} (d : decode cc pc = .ok (.if_icmp .lt off, 3)) (ht : (pc : Int) + off = (tgt : Int)) (ha : ir a) (hb9 : ir b) (kt : a < b → V p l e R s m args below meth c nL cy D ad A kc ks Q tgt lv st M) (kf : b ≤ a → V p l e R s m args below meth c nL cy D ad A kc ks Q (pc + 3) lv st M) : V p l e R s m args below meth c nL cy D ad A kc ks Q pc lv (.int (i32 b) :: .int (i32 a) :: st) M := by
  obtain ⟨hx, hb, hml, hown, hr, hlk, hts, hK, hI, hA1, hA2⟩ := F
  intro H locs ls hP hS hl
  have e1 := i32_lt ha hb9
  have e2 := i32_le ha hb9
  have e3 := i32_eq ha hb9
  have e4 := i32_lt hb9 ha
  have e5 := i32_le hb9 ha
  refine lv_icmp_lt hx hb d ht (fun h => kt ?_ H locs ls hP hS hl) (fun h => kf ?_ H locs ls hP hS hl) <;> simp only [ge_iff_le, gt_iff_lt, e1, e2, e3, e4, e5, ne_eq, Decidable.not_not, Int.not_lt, Int.not_le] at h <;> omega
theorem r_if_lt (F : Fx p s m args meth c own cc nL ret cy D ad A) {a off : Int} {tgt : Nat} (d : decode cc pc = .ok (.ifCond .lt off, 3)) (ht : (pc : Int) + off = (tgt : Int)) (ha : ir a) (kt : a < 0 → V p l e R s m args below meth c nL cy D ad A kc ks Q tgt lv st M) (kf : 0 ≤ a → V p l e R s m args below meth c nL cy D ad A kc ks Q (pc + 3) lv st M) : V p l e R s m args below meth c nL cy D ad A kc ks Q pc lv (.int (i32 a) :: st) M := by
  obtain ⟨hx, hb, hml, hown, hr, hlk, hts, hK, hI, hA1, hA2⟩ := F
  intro H locs ls hP hS hl
  have hb9 : ir 0 := ⟨by decide, by decide⟩
  have e1 := i32_lt ha hb9
  have e2 := i32_le ha hb9
  have e3 := i32_eq ha hb9
  have e4 := i32_lt hb9 ha
  have e5 := i32_le hb9 ha
  rw [i32_0] at e1 e2 e3 e4 e5
  refine lv_if_lt hx hb d ht (fun h => kt ?_ H locs ls hP hS hl) (fun h => kf ?_ H locs ls hP hS hl) <;> simp only [ge_iff_le, gt_iff_lt, e1, e2, e3, e4, e5, ne_eq, Decidable.not_not, Int.not_lt, Int.not_le] at h <;> omega
theorem r_icmp_ge (F : Fx p s m args meth c own cc nL ret cy D ad A) {a b off : Int} {tgt : Nat} (d : decode cc pc = .ok (.if_icmp .ge off, 3)) (ht : (pc : Int) + off = (tgt : Int)) (ha : ir a) (hb9 : ir b) (kt : b ≤ a → V p l e R s m args below meth c nL cy D ad A kc ks Q tgt lv st M) (kf : a < b → V p l e R s m args below meth c nL cy D ad A kc ks Q (pc + 3) lv st M) : V p l e R s m args below meth c nL cy D ad A kc ks Q pc lv (.int (i32 b) :: .int (i32 a) :: st) M := by
  obtain ⟨hx, hb, hml, hown, hr, hlk, hts, hK, hI, hA1, hA2⟩ := F
  intro H locs ls hP hS hl
  have e1 := i32_lt ha hb9
  have e2 := i32_le ha hb9
  have e3 := i32_eq ha hb9
  have e4 := i32_lt hb9 ha
  have e5 := i32_le hb9 ha
  refine lv_icmp_ge hx hb d ht (fun h => kt ?_ H locs ls hP hS hl) (fun h => kf ?_ H locs ls hP hS hl) <;> simp only [ge_iff_le, gt_iff_lt, e1, e2, e3, e4, e5, ne_eq, Decidable.not_not, Int.not_lt, Int.not_le] at h <;> omega
theorem r_if_ge (F : Fx p s m args meth c own cc nL ret cy D ad A) {a off : Int} {tgt : Nat} (d : decode cc pc = .ok (.ifCond .ge off, 3)) (ht : (pc : Int) + off = (tgt : Int)) (ha : ir a) (kt : 0 ≤ a → V p l e R s m args below meth c nL cy D ad A kc ks Q tgt lv st M) (kf : a < 0 → V p l e R s m args below meth c nL cy D ad A kc ks Q (pc + 3) lv st M) : V p l e R s m args below meth c nL cy D ad A kc ks Q pc lv (.int (i32 a) :: st) M := by
  obtain ⟨hx, hb, hml, hown, hr, hlk, hts, hK, hI, hA1, hA2⟩ := F
  intro H locs ls hP hS hl
  have hb9 : ir 0 := ⟨by decide, by decide⟩
  have e1 := i32_lt ha hb9
  have e2 := i32_le ha hb9
  have e3 := i32_eq ha hb9
  have e4 := i32_lt hb9 ha
  have e5 := i32_le hb9 ha
  rw [i32_0] at e1 e2 e3 e4 e5
  refine lv_if_ge hx hb d ht (fun h => kt ?_ H locs ls hP hS hl) (fun h => kf ?_ H locs ls hP hS hl) <;> simp only [ge_iff_le, gt_iff_lt, e1, e2, e3, e4, e5, ne_eq, Decidable.not_not, Int.not_lt, Int.not_le] at h <;> omega
theorem r_icmp_gt (F : Fx p s m args meth c own cc nL ret cy D ad A) {a b off : Int} {tgt : Nat} (d : decode cc pc = .ok (.if_icmp .gt off, 3)) (ht : (pc : Int) + off = (tgt : Int)) (ha : ir a) (hb9 : ir b) (kt : b < a → V p l e R s m args below meth c nL cy D ad A kc ks Q tgt lv st M) (kf : a ≤ b → V p l e R s m args below meth c nL cy D ad A kc ks Q (pc + 3) lv st M) : V p l e R s m args below meth c nL cy D ad A kc ks Q pc lv (.int (i32 b) :: .int (i32 a) :: st) M := by
  obtain ⟨hx, hb, hml, hown, hr, hlk, hts, hK, hI, hA1, hA2⟩ := F
  intro H locs ls hP hS hl
  have e1 := i32_lt ha hb9
  have e2 := i32_le ha hb9
  have e3 := i32_eq ha hb9
  have e4 := i32_lt hb9 ha
  have e5 := i32_le hb9 ha
  refine lv_icmp_gt hx hb d ht (fun h => kt ?_ H locs ls hP hS hl) (fun h => kf ?_ H locs ls hP hS hl) <;> simp only [ge_iff_le, gt_iff_lt, e1, e2, e3, e4, e5, ne_eq, Decidable.not_not, Int.not_lt, Int.not_le] at h <;> omega
theorem r_if_gt (F : Fx p s m args meth c own cc nL ret cy D ad A) {a off : Int} {tgt : Nat} (d : decode cc pc = .ok (.ifCond .gt off, 3)) (ht : (pc : Int) + off = (tgt : Int)) (ha : ir a) (kt : 0 < a → V p l e R s m args below meth c nL cy D ad A kc ks Q tgt lv st M) (kf : a ≤ 0 → V p l e R s m args below meth c nL cy D ad A kc ks Q (pc + 3) lv st M) : V p l e R s m args below meth c nL cy D ad A kc ks Q pc lv (.int (i32 a) :: st) M := by
  obtain ⟨hx, hb, hml, hown, hr, hlk, hts, hK, hI, hA1, hA2⟩ := F
  intro H locs ls hP hS hl
  have hb9 : ir 0 := ⟨by decide, by decide⟩
  have e1 := i32_lt ha hb9
  have e2 := i32_le ha hb9
  have e3 := i32_eq ha hb9
  have e4 := i32_lt hb9 ha
  have e5 := i32_le hb9 ha
  rw [i32_0] at e1 e2 e3 e4 e5
  refine lv_if_gt hx hb d ht (fun h => kt ?_ H locs ls hP hS hl) (fun h => kf ?_ H locs ls hP hS hl) <;> simp only [ge_iff_le, gt_iff_lt, e1, e2, e3, e4, e5, ne_eq, Decidable.not_not, Int.not_lt, Int.not_le] at h <;> omega
theorem r_icmp_le (F : Fx p s m args meth c own cc nL ret cy D ad A) {a b off : Int} {tgt : Nat} (d : decode cc pc = .ok (.if_icmp .le off, 3)) (ht : (pc : Int) + off = (tgt : Int)) (ha : ir a) (hb9 : ir b) (kt : a ≤ b → V p l e R s m args below meth c nL cy D ad A kc ks Q tgt lv st M) (kf : b < a → V p l e R s m args below meth c nL cy D ad A kc ks Q (pc + 3) lv st M) : V p l e R s m args below meth c nL cy D ad A kc ks Q pc lv (.int (i32 b) :: .int (i32 a) :: st) M := by
  obtain ⟨hx, hb, hml, hown, hr, hlk, hts, hK, hI, hA1, hA2⟩ := F
  intro H locs ls hP hS hl
  have e1 := i32_lt ha hb9
  have e2 := i32_le ha hb9
  have e3 := i32_eq ha hb9
  have e4 := i32_lt hb9 ha
  have e5 := i32_le hb9 ha
  refine lv_icmp_le hx hb d ht (fun h => kt ?_ H locs ls hP hS hl) (fun h => kf ?_ H locs ls hP hS hl) <;> simp only [ge_iff_le, gt_iff_lt, e1, e2, e3, e4, e5, ne_eq, Decidable.not_not, Int.not_lt, Int.not_le] at h <;> omega
theorem r_if_le (F : Fx p s m args meth c own cc nL ret cy D ad A) {a off : Int} {tgt : Nat} (d : decode cc pc = .ok (.ifCond .le off, 3)) (ht : (pc : Int) + off = (tgt : Int)) (ha : ir a) (kt : a ≤ 0 → V p l e R s m args below meth c nL cy D ad A kc ks Q tgt lv st M) (kf : 0 < a → V p l e R s m args below meth c nL cy D ad A kc ks Q (pc + 3) lv st M) : V p l e R s m args below meth c nL cy D ad A kc ks Q pc lv (.int (i32 a) :: st) M := by
  obtain ⟨hx, hb, hml, hown, hr, hlk, hts, hK, hI, hA1, hA2⟩ := F
  intro H locs ls hP hS hl
  have hb9 : ir 0 := ⟨by decide, by decide⟩
  have e1 := i32_lt ha hb9
  have e2 := i32_le ha hb9
  have e3 := i32_eq ha hb9
  have e4 := i32_lt hb9 ha
  have e5 := i32_le hb9 ha
  rw [i32_0] at e1 e2 e3 e4 e5
  refine lv_if_le hx hb d ht (fun h => kt ?_ H locs ls hP hS hl) (fun h => kf ?_ H locs ls hP hS hl) <;> simp only [ge_iff_le, gt_iff_lt, e1, e2, e3, e4, e5, ne_eq, Decidable.not_not, Int.not_lt, Int.not_le] at h <;> omega
theorem r_rcmp_lt (F : Fx p s m args meth c own cc nL ret cy D ad A) {a b off : Int} {tgt : Nat} (d : decode cc pc = .ok (.if_icmp .lt off, 3)) (ht : (pc : Int) + off = (tgt : Int)) (kt : i32 a < i32 b → V p l e R s m args below meth c nL cy D ad A kc ks Q tgt lv st M) (kf : ¬ i32 a < i32 b → V p l e R s m args below meth c nL cy D ad A kc ks Q (pc + 3) lv st M) : V p l e R s m args below meth c nL cy D ad A kc ks Q pc lv (.int (i32 b) :: .int (i32 a) :: st) M := by
  obtain ⟨hx, hb, hml, hown, hr, hlk, hts, hK, hI, hA1, hA2⟩ := F
  intro H locs ls hP hS hl
  exact lv_icmp_lt hx hb d ht (fun h => kt h H locs ls hP hS hl) (fun h => kf h H locs ls hP hS hl)
theorem r_rcmp_ge (F : Fx p s m args meth c own cc nL ret cy D ad A) {a b off : Int} {tgt : Nat} (d : decode cc pc = .ok (.if_icmp .ge off, 3)) (ht : (pc : Int) + off = (tgt : Int)) (kt : i32 b ≤ i32 a → V p l e R s m args below meth c nL cy D ad A kc ks Q tgt lv st M) (kf : ¬ i32 b ≤ i32 a → V p l e R s m args below meth c nL cy D ad A kc ks Q (pc + 3) lv st M) : V p l e R s m args below meth c nL cy D ad A kc ks Q pc lv (.int (i32 b) :: .int (i32 a) :: st) M := by
  obtain ⟨hx, hb, hml, hown, hr, hlk, hts, hK, hI, hA1, hA2⟩ := F
  intro H locs ls hP hS hl
  exact lv_icmp_ge hx hb d ht (fun h => kt h H locs ls hP hS hl) (fun h => kf h H locs ls hP hS hl)
theorem r_bz_eq (F : Fx p s m args meth c own cc nL ret cy D ad A) {b : Bool} {off : Int} {tgt : Nat} (d : decode cc pc = .ok (.ifCond .eq off, 3)) (ht : (pc : Int) + off = (tgt : Int)) (kt : b = false → V p l e R s m args below meth c nL cy D ad A kc ks Q tgt lv st M) (kf : b = true → V p l e R s m args below meth c nL cy D ad A kc ks Q (pc + 3) lv st M) : V p l e R s m args below meth c nL cy D ad A kc ks Q pc lv (.int (i32 (bi b)) :: st) M := by
  obtain ⟨hx, hb, hml, hown, hr, hlk, hts, hK, hI, hA1, hA2⟩ := F
  intro H locs ls hP hS hl
  refine lv_if_eq hx hb d ht (fun h => kt ?_ H locs ls hP hS hl) (fun h => kf ?_ H locs ls hP hS hl) <;> (cases b <;> first | rfl | (exfalso; revert h; decide))
theorem r_bz_ne (F : Fx p s m args meth c own cc nL ret cy D ad A) {b : Bool} {off : Int} {tgt : Nat} (d : decode cc pc = .ok (.ifCond .ne off, 3)) (ht : (pc : Int) + off = (tgt : Int)) (kt : b = true → V p l e R s m args below meth c nL cy D ad A kc ks Q tgt lv st M) (kf : b = false → V p l e R s m args below meth c nL cy D ad A kc ks Q (pc + 3) lv st M) : V p l e R s m args below meth c nL cy D ad A kc ks Q pc lv (.int (i32 (bi b)) :: st) M := by
  obtain ⟨hx, hb, hml, hown, hr, hlk, hts, hK, hI, hA1, hA2⟩ := F
  intro H locs ls hP hS hl
  refine lv_if_ne hx hb d ht (fun h => kt ?_ H locs ls hP hS hl) (fun h => kf ?_ H locs ls hP hS hl) <;> (cases b <;> first | rfl | (exfalso; revert h; decide))
theorem r_goto (F : Fx p s m args meth c own cc nL ret cy D ad A) {off : Int} {tgt : Nat} (d : decode cc pc = .ok (.goto off, 3)) (ht : (pc : Int) + off = (tgt : Int)) (k : V p l e R s m args below meth c nL cy D ad A kc ks Q tgt lv st M) : V p l e R s m args below meth c nL cy D ad A kc ks Q pc lv st M := by
  obtain ⟨hx, hb, hml, hown, hr, hlk, hts, hK, hI, hA1, hA2⟩ := F
  intro H locs ls hP hS hl
  exact lv_goto hx hb d ht (k H locs ls hP hS hl)
theorem r_dup (F : Fx p s m args meth c own cc nL ret cy D ad A) {v : Value} (d : decode cc pc = .ok (.dup, 1)) (hv : v.category = 1) (k : V p l e R s m args below meth c nL cy D ad A kc ks Q (pc + 1) lv (v :: v :: st) M) : V p l e R s m args below meth c nL cy D ad A kc ks Q pc lv (v :: st) M := by
  obtain ⟨hx, hb, hml, hown, hr, hlk, hts, hK, hI, hA1, hA2⟩ := F
  intro H locs ls hP hS hl
  exact lv_dup hx hb d hv (k H locs ls hP hS hl)
theorem r_dup2 (F : Fx p s m args meth c own cc nL ret cy D ad A) {v v2 : Value} (d : decode cc pc = .ok (.dup2, 1)) (hv : v.category = 1) (hv2 : v2.category = 1) (k : V p l e R s m args below meth c nL cy D ad A kc ks Q (pc + 1) lv (v :: v2 :: v :: v2 :: st) M) : V p l e R s m args below meth c nL cy D ad A kc ks Q pc lv (v :: v2 :: st) M := by
  obtain ⟨hx, hb, hml, hown, hr, hlk, hts, hK, hI, hA1, hA2⟩ := F
  intro H locs ls hP hS hl
  exact lv_dup2_11 hx hb d hv hv2 (k H locs ls hP hS hl)
theorem r_pop (F : Fx p s m args meth c own cc nL ret cy D ad A) {v : Value} (d : decode cc pc = .ok (.pop, 1)) (hv : v.category = 1) (k : V p l e R s m args below meth c nL cy D ad A kc ks Q (pc + 1) lv st M) : V p l e R s m args below meth c nL cy D ad A kc ks Q pc lv (v :: st) M := by
  obtain ⟨hx, hb, hml, hown, hr, hlk, hts, hK, hI, hA1, hA2⟩ := F
  intro H locs ls hP hS hl
  exact lv_pop hx hb d hv (k H locs ls hP hS hl)
theorem r_swIn (F : Fx p s m args meth c own cc nL ret cy D ad A) {dflt lo hi : Int} {offs : Array Int} {len : Nat} {a off : Int} {tgt : Nat} (d : decode cc pc = .ok (.tableswitch dflt lo hi offs, len)) (ha : ir a) (h1 : lo ≤ a) (h2 : a ≤ hi) (ho : offs[(a - lo).toNat]? = some off) (ht : (pc : Int) + off = (tgt : Int)) (k : V p l e R s m args below meth c nL cy D ad A kc ks Q tgt lv st M) : V p l e R s m args below meth c nL cy D ad A kc ks Q pc lv (.int (i32 a) :: st) M := by
  obtain ⟨hx, hb, hml, hown, hr, hlk, hts, hK, hI, hA1, hA2⟩ := F
  intro H locs ls hP hS hl
  exact lv_tableIn hx hb d (by rw [i32_T ha]; omega) (by rw [i32_T ha]; omega) (by rw [i32_T ha]; exact ho) ht (k H locs ls hP hS hl)
theorem r_swOut (F : Fx p s m args meth c own cc nL ret cy D ad A) {dflt lo hi : Int} {offs : Array Int} {len : Nat} {a : Int} {tgt : Nat} (d : decode cc pc = .ok (.tableswitch dflt lo hi offs, len)) (ha : ir a) (h : a < lo ∨ hi < a) (ht : (pc : Int) + dflt = (tgt : Int)) (k : V p l e R s m args below meth c nL cy D ad A kc ks Q tgt lv st M) : V p l e R s m args below meth c nL cy D ad A kc ks Q pc lv (.int (i32 a) :: st) M := by
  obtain ⟨hx, hb, hml, hown, hr, hlk, hts, hK, hI, hA1, hA2⟩ := F
  intro H locs ls hP hS hl
  exact lv_tableOut hx hb d (by rw [i32_T ha]; exact h) ht (k H locs ls hP hS hl)
theorem r_i2l (F : Fx p s m args meth c own cc nL ret cy D ad A) {x : Int32} (d : decode cc pc = .ok (.i2l, 1)) (k : V p l e R s m args below meth c nL cy D ad A kc ks Q (pc + 1) lv (.long x.toInt64 :: st) M) : V p l e R s m args below meth c nL cy D ad A kc ks Q pc lv (.int x :: st) M := by
  obtain ⟨hx, hb, hml, hown, hr, hlk, hts, hK, hI, hA1, hA2⟩ := F
  intro H locs ls hP hS hl
  exact lv_i2l hx hb d rfl (k H locs ls hP hS hl)
theorem r_ladd (F : Fx p s m args meth c own cc nL ret cy D ad A) {x y : Int64} (d : decode cc pc = .ok (.ladd, 1)) (k : V p l e R s m args below meth c nL cy D ad A kc ks Q (pc + 1) lv (.long (x + y) :: st) M) : V p l e R s m args below meth c nL cy D ad A kc ks Q pc lv (.long y :: .long x :: st) M := by
  obtain ⟨hx, hb, hml, hown, hr, hlk, hts, hK, hI, hA1, hA2⟩ := F
  intro H locs ls hP hS hl
  exact lv_ladd hx hb d (k H locs ls hP hS hl)
theorem r_lmul (F : Fx p s m args meth c own cc nL ret cy D ad A) {x y : Int64} (d : decode cc pc = .ok (.lmul, 1)) (k : V p l e R s m args below meth c nL cy D ad A kc ks Q (pc + 1) lv (.long (x * y) :: st) M) : V p l e R s m args below meth c nL cy D ad A kc ks Q pc lv (.long y :: .long x :: st) M := by
  obtain ⟨hx, hb, hml, hown, hr, hlk, hts, hK, hI, hA1, hA2⟩ := F
  intro H locs ls hP hS hl
  exact lv_lmul hx hb d (k H locs ls hP hS hl)
theorem r_ldc2 (F : Fx p s m args meth c own cc nL ret cy D ad A) {index : Nat} {v : Int64} (d : decode cc pc = .ok (.ldc2_w index, 3)) (hc : Jvm.Cond.constantLong own index v ∈ TB) (k : V p l e R s m args below meth c nL cy D ad A kc ks Q (pc + 3) lv (.long v :: st) M) : V p l e R s m args below meth c nL cy D ad A kc ks Q pc lv st M := by
  obtain ⟨hx, hb, hml, hown, hr, hlk, hts, hK, hI, hA1, hA2⟩ := F
  intro H locs ls hP hS hl
  exact lv_ldc2 hx hb hown (hts _ hc) d (k H locs ls hP hS hl)
theorem r_getF (F : Fx p s m args meth c own cc nL ret cy D ad A) {t cc1 : Nat} {i : Int} {C : String} {T : u_T} {N ci index : Nat} {fs : List Value} {k : Nat} {v : Value} (d : decode cc pc = .ok (.getfield index, 3)) (hk : dmb ad t cc1 i = true) (hcel : cel cy ad M t cc1 i = .inr (ci, fs)) (hc : vwCl[ci]? = some (C, T, N)) (hkN : k < N) (hin : ∀ w ∈ u_ws C T N, w ∈ TB) (hlk9 : Cond.fieldLink own index (T k).1 (T k).2.1 (T k).2.2.1 ∈ TB) (hv : fs[k]? = some v) (kk : V p l e R s m args below meth c nL cy D ad A kc ks Q (pc + 3) lv (v :: st) M) : V p l e R s m args below meth c nL cy D ad A kc ks Q pc lv (.ref (ad t cc1 i) :: st) M := by
  obtain ⟨hx, hb, hml, hown, hr, hlk, hts, hK, hI, hA1, hA2⟩ := F
  intro H locs ls hP hS hl
  obtain ⟨q0, hq, hw⟩ := ws_at (cy := cy) (ad := ad) M hk
  exact va_get hx hb hts hin hown hK.1 hP q0 (by rw [hw, hcel]) hc k hkN (hts _ hlk9) (fun _ h => h) hv d (kk H locs ls hP hS hl)
theorem r_getN (F : Fx p s m args meth c own cc nL ret cy D ad A) {t cc1 : Nat} {i : Int} {C host : String} {T : u_T} {N ci index : Nat} {fs : List Value} {k : Nat} {v : Value} (d : decode cc pc = .ok (.getfield index, 3)) (hk : dmb ad t cc1 i = true) (hcel : cel cy ad M t cc1 i = .inr (ci, fs)) (hc : vwCl[ci]? = some (C, T, N)) (hkN : k < N) (hin : ∀ w ∈ u_ws C T N, w ∈ TB) (hlk9 : Cond.fieldLinkNest own index (T k).1 (T k).2.1 (T k).2.2.1 host ∈ lw_tbl) (hv : fs[k]? = some v) (kk : V p l e R s m args below meth c nL cy D ad A kc ks Q (pc + 3) lv (v :: st) M) : V p l e R s m args below meth c nL cy D ad A kc ks Q pc lv (.ref (ad t cc1 i) :: st) M := by
  obtain ⟨hx, hb, hml, hown, hr, hlk, hts, hK, hI, hA1, hA2⟩ := F
  intro H locs ls hP hS hl
  obtain ⟨q0, hq, hw⟩ := ws_at (cy := cy) (ad := ad) M hk
  exact va_getN hx hb hts hin hown hK.1 hP q0 (by rw [hw, hcel]) hc k hkN (va_Nw.use rfl (hK.2.1 _ hlk9 rfl)) (fun _ h => h) hv d (kk H locs ls hP hS hl)
theorem r_putF (F : Fx p s m args meth c own cc nL ret cy D ad A) {t cc1 : Nat} {i : Int} {C : String} {T : u_T} {N ci index : Nat} {fs : List Value} {k : Nat} {v : Value} {M1 : Mem} {ty : FieldType} (d : decode cc pc = .ok (.putfield index, 3)) (hk : dmb ad t cc1 i = true) (hcel : cel cy ad M t cc1 i = .inr (ci, fs)) (hc : vwCl[ci]? = some (C, T, N)) (hlen : fs.length = N) (hkN : k < N) (hin : ∀ w ∈ u_ws C T N, w ∈ TB) (ty0 : Nat → FieldType) (hty : ∀ k, k < N → parseFieldDescriptor (T k).2.2.1 = some (ty0 k)) (hnm : ∀ a, a < N → ∀ b, b < N → a ≠ b → (T a).2.1 ≠ (T b).2.1) (hlk9 : Cond.fieldLink own index (T k).1 (T k).2.1 (T k).2.2.1 ∈ TB) (hfin : (T k).2.2.2 = false) (hd : parseFieldDescriptor (T k).2.2.1 = some ty) (hn : narrow ty v = v) (hfit : fits ty v = true) (hcel1 : cel cy ad M1 t cc1 i = .inr (ci, fs.set k v)) (hoth : ∀ (c1 k1 : Nat) (i1 : Int), owner c1 k1 i1 ≠ (t, cc1, i) → M1 c1 k1 i1 = M c1 k1 i1) (kk : V p l e R s m args below meth c nL cy D ad A kc ks Q (pc + 3) lv st M1) : V p l e R s m args below meth c nL cy D ad A kc ks Q pc lv (v :: .ref (ad t cc1 i) :: st) M := by
  obtain ⟨hx, hb, hml, hown, hr, hlk, hts, hK, hI, hA1, hA2⟩ := F
  intro H locs ls hP hS hl
  obtain ⟨q0, hq, hw⟩ := ws_at (cy := cy) (ad := ad) M hk
  refine va_put hx hb hts hin ty0 hty hnm hown hK.1 hP (wsD hI hA1 M) hS q0 (by rw [hw, hcel]) hc k hkN (hts _ hlk9) (fun _ h => h) hfin hd hn hfit (by rw [hlen]; exact hkN) d (fun H1 locs1 hP1 hD1 hS1 => ?_)
  rw [ws_set hq hcel1 hoth] at hP1
  exact kk H1 locs1 ls hP1 hS1 hl
theorem r_putN (F : Fx p s m args meth c own cc nL ret cy D ad A) {t cc1 : Nat} {i : Int} {C : String} {T : u_T} {N ci index : Nat} {fs : List Value} {k : Nat} {v : Value} {M1 : Mem} {ty : FieldType} (d : decode cc pc = .ok (.putfield index, 3)) (hk : dmb ad t cc1 i = true) (hcel : cel cy ad M t cc1 i = .inr (ci, fs)) (hc : vwCl[ci]? = some (C, T, N)) (hlen : fs.length = N) (hkN : k < N) (hin : ∀ w ∈ u_ws C T N, w ∈ TB) (ty0 : Nat → FieldType) (hty : ∀ k, k < N → parseFieldDescriptor (T k).2.2.1 = some (ty0 k)) (hnm : ∀ a, a < N → ∀ b, b < N → a ≠ b → (T a).2.1 ≠ (T b).2.1) {host : String} (hlk9 : Cond.fieldLinkNest own index (T k).1 (T k).2.1 (T k).2.2.1 host ∈ lw_tbl) (hfin : (T k).2.2.2 = false) (hd : parseFieldDescriptor (T k).2.2.1 = some ty) (hn : narrow ty v = v) (hfit : fits ty v = true) (hcel1 : cel cy ad M1 t cc1 i = .inr (ci, fs.set k v)) (hoth : ∀ (c1 k1 : Nat) (i1 : Int), owner c1 k1 i1 ≠ (t, cc1, i) → M1 c1 k1 i1 = M c1 k1 i1) (kk : V p l e R s m args below meth c nL cy D ad A kc ks Q (pc + 3) lv st M1) : V p l e R s m args below meth c nL cy D ad A kc ks Q pc lv (v :: .ref (ad t cc1 i) :: st) M := by
  obtain ⟨hx, hb, hml, hown, hr, hlk, hts, hK, hI, hA1, hA2⟩ := F
  intro H locs ls hP hS hl
  obtain ⟨q0, hq, hw⟩ := ws_at (cy := cy) (ad := ad) M hk
  refine va_putN hx hb hts hin ty0 hty hnm hown hK.1 hP (wsD hI hA1 M) hS q0 (by rw [hw, hcel]) hc k hkN (va_Nw.use rfl (hK.2.1 _ hlk9 rfl)) (fun _ h => h) hfin hd hn hfit (by rw [hlen]; exact hkN) d (fun H1 locs1 hP1 hD1 hS1 => ?_)
  rw [ws_set hq hcel1 hoth] at hP1
  exact kk H1 locs1 ls hP1 hS1 hl
theorem r_iald (F : Fx p s m args meth c own cc nL ret cy D ad A) {t cc1 : Nat} {i a : Int} {n : Nat} {f : Nat → Int32} {v : Int} (d : decode cc pc = .ok (.iaload, 1)) (hk : dmb ad t cc1 i = true) (hcel : cel cy ad M t cc1 i = .inl (cy 0, n, .inl f)) (h1 : 0 ≤ a) (h2 : a < n) (hn : n < 2147483648) (hv : f a.toNat = i32 v) (kk : V p l e R s m args below meth c nL cy D ad A kc ks Q (pc + 1) lv (.int (i32 v) :: st) M) : V p l e R s m args below meth c nL cy D ad A kc ks Q pc lv (.int (i32 a) :: .ref (ad t cc1 i) :: st) M := by
  obtain ⟨hx, hb, hml, hown, hr, hlk, hts, hK, hI, hA1, hA2⟩ := F
  intro H locs ls hP hS hl
  obtain ⟨q0, hq, hw⟩ := ws_at (cy := cy) (ad := ad) M hk
  refine va_iald hx hb hK.1 hP q0 0 (by rw [hw, hcel]) rfl (i32_in h1 h2 hn) d ?_
  rw [i32_cl h1 (by omega), hv]
  exact kk H locs ls hP hS hl
theorem r_iast (F : Fx p s m args meth c own cc nL ret cy D ad A) {t cc1 : Nat} {i a : Int} {n : Nat} {f : Nat → Int32} {x : Int32} {M1 : Mem} (d : decode cc pc = .ok (.iastore, 1)) (hk : dmb ad t cc1 i = true) (hcel : cel cy ad M t cc1 i = .inl (cy 0, n, .inl f)) (h1 : 0 ≤ a) (h2 : a < n) (hn : n < 2147483648) (hcel1 : cel cy ad M1 t cc1 i = .inl (cy 0, n, .inl (upd f a.toNat x))) (hoth : ∀ (c1 k1 : Nat) (i1 : Int), owner c1 k1 i1 ≠ (t, cc1, i) → M1 c1 k1 i1 = M c1 k1 i1) (kk : V p l e R s m args below meth c nL cy D ad A kc ks Q (pc + 1) lv st M1) : V p l e R s m args below meth c nL cy D ad A kc ks Q pc lv (.int x :: .int (i32 a) :: .ref (ad t cc1 i) :: st) M := by
  obtain ⟨hx, hb, hml, hown, hr, hlk, hts, hK, hI, hA1, hA2⟩ := F
  intro H locs ls hP hS hl
  obtain ⟨q0, hq, hw⟩ := ws_at (cy := cy) (ad := ad) M hk
  refine va_iast hx hb hK.1 hP (wsD hI hA1 M) hS q0 0 (by rw [hw, hcel]) rfl (i32_in h1 h2 hn) d (fun H1 locs1 hP1 hD1 hS1 => ?_)
  rw [i32_cl h1 (by omega), ws_set hq hcel1 hoth] at hP1
  exact kk H1 locs1 ls hP1 hS1 hl
theorem r_aald (F : Fx p s m args meth c own cc nL ret cy D ad A) {t cc1 : Nat} {i a : Int} {n tq : Nat} {cA : ClassId} {C : String} {f : Nat → Option Nat} {b : Nat} (d : decode cc pc = .ok (.aaload, 1)) (hk : dmb ad t cc1 i = true) (hcel : cel cy ad M t cc1 i = .inl (cA, n, .inr (.inr (.inr (.inr f))))) (ht : (tyl cy)[tq]? = some (cA, .object C)) (h1 : 0 ≤ a) (h2 : a < n) (hn : n < 2147483648) (hv : f a.toNat = some b) (kk : V p l e R s m args below meth c nL cy D ad A kc ks Q (pc + 1) lv (.ref b :: st) M) : V p l e R s m args below meth c nL cy D ad A kc ks Q pc lv (.int (i32 a) :: .ref (ad t cc1 i) :: st) M := by
  obtain ⟨hx, hb, hml, hown, hr, hlk, hts, hK, hI, hA1, hA2⟩ := F
  intro H locs ls hP hS hl
  obtain ⟨q0, hq, hw⟩ := ws_at (cy := cy) (ad := ad) M hk
  refine va_aldq hx hb hK.1 hP q0 tq (by rw [hw, hcel]) ht (i32_in h1 h2 hn) d ?_
  rw [i32_cl h1 (by omega), hv]
  exact kk H locs ls hP hS hl
theorem r_aaldA (F : Fx p s m args meth c own cc nL ret cy D ad A) {t cc1 : Nat} {i a : Int} {n tq : Nat} {cA : ClassId} {f : Nat → Option Nat} {b : Nat} (d : decode cc pc = .ok (.aaload, 1)) (hk : dmb ad t cc1 i = true) (hcel : cel cy ad M t cc1 i = .inl (cA, n, .inr (.inr (.inr (.inr f))))) (ht : (tyl cy)[tq]? = some (cA, .array .int)) (h1 : 0 ≤ a) (h2 : a < n) (hn : n < 2147483648) (hv : f a.toNat = some b) (kk : V p l e R s m args below meth c nL cy D ad A kc ks Q (pc + 1) lv (.ref b :: st) M) : V p l e R s m args below meth c nL cy D ad A kc ks Q pc lv (.int (i32 a) :: .ref (ad t cc1 i) :: st) M := by
  obtain ⟨hx, hb, hml, hown, hr, hlk, hts, hK, hI, hA1, hA2⟩ := F
  intro H locs ls hP hS hl
  obtain ⟨q0, hq, hw⟩ := ws_at (cy := cy) (ad := ad) M hk
  have hlt : (i32 a).toNatClampNeg < n := by rw [i32_cl h1 (by omega)]; omega
  have hin := i32_in h1 h2 hn
  refine W.aald (v := va_rf (f (i32 a).toNatClampNeg)) (ty := .array .int) hx hb (hP q0 (ad t cc1 i, .inl (cA, n, .inr (.inr (.inr (.inr f))))) (by rw [hw, hcel])) ((hK.1.2 tq _ ht).1 n (fun j => va_rf (f j))) rfl (fun q => by cases q) (by show ¬ (i32 a < 0 ∨ (arrV _ _ _).slots.size ≤ _); rw [arrV_size]; exact hin) (by show (arrV _ _ _).slots[_]? = _; rw [arrV_read _ _ hlt]) rfl rfl d ?_
  rw [i32_cl h1 (by omega), hv]
  exact kk H locs ls hP hS hl
theorem r_alen (F : Fx p s m args meth c own cc nL ret cy D ad A) {t cc1 : Nat} {i : Int} {cA : ClassId} {x : vp_A} {tq : Nat} {ty : FieldType} (d : decode cc pc = .ok (.arraylength, 1)) (hk : dmb ad t cc1 i = true) (hcel : cel cy ad M t cc1 i = .inl (cA, x)) (ht : (tyl cy)[tq]? = some (cA, ty)) (kk : V p l e R s m args below meth c nL cy D ad A kc ks Q (pc + 1) lv (.int (i32 (x.1 : Int)) :: st) M) : V p l e R s m args below meth c nL cy D ad A kc ks Q pc lv (.ref (ad t cc1 i) :: st) M := by
  obtain ⟨hx, hb, hml, hown, hr, hlk, hts, hK, hI, hA1, hA2⟩ := F
  intro H locs ls hP hS hl
  obtain ⟨q0, hq, hw⟩ := ws_at (cy := cy) (ad := ad) M hk
  exact va_alen hx hb hK.1 hP q0 tq (by rw [hw, hcel]) ht (v := i32 (x.1 : Int)) (by show Int32.ofNat _ = Int32.ofInt _; rw [Int32.ofInt_eq_ofNat]) d (kk H locs ls hP hS hl)
theorem V.mem {M1 : Mem} (h : wsOf cy ad M = wsOf cy ad M1) (k : V p l e R s m args below meth c nL cy D ad A kc ks Q pc lv st M1) : V p l e R s m args below meth c nL cy D ad A kc ks Q pc lv st M := fun H locs ls hP hS hl => k H locs ls (by rw [← h]; exact hP) hS hl
theorem V.loc {lv1 : List (Option Value)} (hs : ∀ (i : Nat) (v : Value), lv1[i]? = some (some v) → lv[i]? = some (some v)) (k : V p l e R s m args below meth c nL cy D ad A kc ks Q pc lv1 st M) : V p l e R s m args below meth c nL cy D ad A kc ks Q pc lv st M := fun H locs ls hP hS hl => k H locs ls hP hS (hl.le hs)
theorem V.wide {kc1 ks1 : Nat} (h1 : kc ≤ kc1) (h2 : ks ≤ ks1) (k : V p l e R s m args below meth c nL cy D ad A kc1 ks1 Q pc lv st M) : V p l e R s m args below meth c nL cy D ad A kc ks Q pc lv st M := fun H locs ls hP hS hl => W.widen h1 h2 (k H locs ls hP hS hl)
end VROWS
