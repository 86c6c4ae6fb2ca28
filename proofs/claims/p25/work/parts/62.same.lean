/-! The coast by hand: its counts; the class asked. -/
theorem j_set (M : Mem) (T S Y : St) : setc (setc (setc M 4 T) 2 S) 4 Y = setc (setc M 4 Y) 2 S := by
  rw [setc_comm (setc M 4 T) S Y (by decide : (2 : Nat) ≠ 4), setc_setc]
theorem j_self (M : Mem) (S : St) : setc M 2 S = setc (setc M 4 (M 4)) 2 S := by rw [setc_self]
theorem j_oth (M : Mem) (T S : St) (t : Nat) (ht : 24 ≤ t ∧ t < 32) (h : ∀ (k : Nat) (i : Int), k ≠ t - 24 → T k i = M 4 k i) : ∀ (c1 k1 : Nat) (i1 : Int), owner c1 k1 i1 ≠ (t, 2, 0) → setc (setc M 4 T) 2 S c1 k1 i1 = setc M 2 S c1 k1 i1 := by
  intro c1 k1 i1 ho
  by_cases h2 : c1 = 2
  · subst h2; rw [setc_at, setc_at]
  · rw [setc_ne _ _ h2, setc_ne _ _ h2]
    by_cases h4 : c1 = 4
    · subst h4
      rw [setc_at]
      refine h k1 i1 (fun e => ho ?_)
      subst e
      unfold owner
      rw [if_neg (by decide), if_neg (by decide), if_pos (by omega)]
      congr 1
      omega
    · rw [setc_ne _ _ h4]
theorem arr_int : Cond.arrayClass .int ∈ TB := tb_of 63 (by decide +kernel) (by decide +kernel)
section JR
variable {p : Program} {l : Launch} {e : Env} {R : Room} {s : State} {m : MethodId} {args : Array Value} {below : List Frame} {meth : Method} {c : Code} {nL : Nat} {cy : Nat → ClassId} {D : va_G} {ad : Nat → Nat → Int → Nat} {A : Nat → Prop} {kc ks : Nat} {Q : State → Prop} {pc : Nat} {lv : List (Option Value)} {st : List Value} {M : Mem} {cc : ByteArray} {ret : Option FieldType} {own : String} {S T : St}
theorem V.cg {lv1 : List (Option Value)} {st1 : List Value} (h1 : lv = lv1) (h2 : st = st1) (k : V p l e R s m args below meth c nL cy D ad A kc ks Q pc lv1 st1 M) : V p l e R s m args below meth c nL cy D ad A kc ks Q pc lv st M := by subst h1; subst h2; exact k
theorem jg_24 (F : Fx p s m args meth c own cc nL ret cy D ad A) {a : Int} (d : decode cc pc = .ok (.iaload, 1)) (hs : ad 40 24 0 = 1) (h1 : 0 ≤ a) (h2 : a < (ad 41 24 0 : Int)) (h3 : (ad 41 24 0 : Int) < 2147483648) (kk : V p l e R s m args below meth c nL cy D ad A kc ks Q (pc + 1) lv (.int (i32 (T 0 a)) :: st) (setc (setc M 4 T) 2 S)) : V p l e R s m args below meth c nL cy D ad A kc ks Q pc lv (.int (i32 a) :: .ref (ad 24 2 0) :: st) (setc (setc M 4 T) 2 S) := ig_24 F d hs h1 h2 h3 kk
theorem js_24 (F : Fx p s m args meth c own cc nL ret cy D ad A) {a v : Int} (d : decode cc pc = .ok (.iastore, 1)) (hs : ad 40 24 0 = 1) (h1 : 0 ≤ a) (h2 : a < (ad 41 24 0 : Int)) (h3 : (ad 41 24 0 : Int) < 2147483648) (kk : V p l e R s m args below meth c nL cy D ad A kc ks Q (pc + 1) lv st (setc (setc M 4 (u2 T 0 a v)) 2 S)) : V p l e R s m args below meth c nL cy D ad A kc ks Q pc lv (.int (i32 v) :: .int (i32 a) :: .ref (ad 24 2 0) :: st) (setc (setc M 4 T) 2 S) := is_24 F d hs h1 h2 h3 (V.cast (j_set M T S (u2 T 0 a v)) kk)
theorem jg_25 (F : Fx p s m args meth c own cc nL ret cy D ad A) {a : Int} (d : decode cc pc = .ok (.iaload, 1)) (hs : ad 40 25 0 = 1) (h1 : 0 ≤ a) (h2 : a < (ad 41 25 0 : Int)) (h3 : (ad 41 25 0 : Int) < 2147483648) (kk : V p l e R s m args below meth c nL cy D ad A kc ks Q (pc + 1) lv (.int (i32 (T 1 a)) :: st) (setc (setc M 4 T) 2 S)) : V p l e R s m args below meth c nL cy D ad A kc ks Q pc lv (.int (i32 a) :: .ref (ad 25 2 0) :: st) (setc (setc M 4 T) 2 S) := ig_25 F d hs h1 h2 h3 kk
theorem js_25 (F : Fx p s m args meth c own cc nL ret cy D ad A) {a v : Int} (d : decode cc pc = .ok (.iastore, 1)) (hs : ad 40 25 0 = 1) (h1 : 0 ≤ a) (h2 : a < (ad 41 25 0 : Int)) (h3 : (ad 41 25 0 : Int) < 2147483648) (kk : V p l e R s m args below meth c nL cy D ad A kc ks Q (pc + 1) lv st (setc (setc M 4 (u2 T 1 a v)) 2 S)) : V p l e R s m args below meth c nL cy D ad A kc ks Q pc lv (.int (i32 v) :: .int (i32 a) :: .ref (ad 25 2 0) :: st) (setc (setc M 4 T) 2 S) := is_25 F d hs h1 h2 h3 (V.cast (j_set M T S (u2 T 1 a v)) kk)
theorem jg_26 (F : Fx p s m args meth c own cc nL ret cy D ad A) {a : Int} (d : decode cc pc = .ok (.iaload, 1)) (hs : ad 40 26 0 = 1) (h1 : 0 ≤ a) (h2 : a < (ad 41 26 0 : Int)) (h3 : (ad 41 26 0 : Int) < 2147483648) (kk : V p l e R s m args below meth c nL cy D ad A kc ks Q (pc + 1) lv (.int (i32 (T 2 a)) :: st) (setc (setc M 4 T) 2 S)) : V p l e R s m args below meth c nL cy D ad A kc ks Q pc lv (.int (i32 a) :: .ref (ad 26 2 0) :: st) (setc (setc M 4 T) 2 S) := ig_26 F d hs h1 h2 h3 kk
theorem js_26 (F : Fx p s m args meth c own cc nL ret cy D ad A) {a v : Int} (d : decode cc pc = .ok (.iastore, 1)) (hs : ad 40 26 0 = 1) (h1 : 0 ≤ a) (h2 : a < (ad 41 26 0 : Int)) (h3 : (ad 41 26 0 : Int) < 2147483648) (kk : V p l e R s m args below meth c nL cy D ad A kc ks Q (pc + 1) lv st (setc (setc M 4 (u2 T 2 a v)) 2 S)) : V p l e R s m args below meth c nL cy D ad A kc ks Q pc lv (.int (i32 v) :: .int (i32 a) :: .ref (ad 26 2 0) :: st) (setc (setc M 4 T) 2 S) := is_26 F d hs h1 h2 h3 (V.cast (j_set M T S (u2 T 2 a v)) kk)
theorem jg_27 (F : Fx p s m args meth c own cc nL ret cy D ad A) {a : Int} (d : decode cc pc = .ok (.iaload, 1)) (hs : ad 40 27 0 = 1) (h1 : 0 ≤ a) (h2 : a < (ad 41 27 0 : Int)) (h3 : (ad 41 27 0 : Int) < 2147483648) (kk : V p l e R s m args below meth c nL cy D ad A kc ks Q (pc + 1) lv (.int (i32 (T 3 a)) :: st) (setc (setc M 4 T) 2 S)) : V p l e R s m args below meth c nL cy D ad A kc ks Q pc lv (.int (i32 a) :: .ref (ad 27 2 0) :: st) (setc (setc M 4 T) 2 S) := ig_27 F d hs h1 h2 h3 kk
theorem js_27 (F : Fx p s m args meth c own cc nL ret cy D ad A) {a v : Int} (d : decode cc pc = .ok (.iastore, 1)) (hs : ad 40 27 0 = 1) (h1 : 0 ≤ a) (h2 : a < (ad 41 27 0 : Int)) (h3 : (ad 41 27 0 : Int) < 2147483648) (kk : V p l e R s m args below meth c nL cy D ad A kc ks Q (pc + 1) lv st (setc (setc M 4 (u2 T 3 a v)) 2 S)) : V p l e R s m args below meth c nL cy D ad A kc ks Q pc lv (.int (i32 v) :: .int (i32 a) :: .ref (ad 27 2 0) :: st) (setc (setc M 4 T) 2 S) := is_27 F d hs h1 h2 h3 (V.cast (j_set M T S (u2 T 3 a v)) kk)
theorem jg_28 (F : Fx p s m args meth c own cc nL ret cy D ad A) {a : Int} (d : decode cc pc = .ok (.iaload, 1)) (hs : ad 40 28 0 = 1) (h1 : 0 ≤ a) (h2 : a < (ad 41 28 0 : Int)) (h3 : (ad 41 28 0 : Int) < 2147483648) (kk : V p l e R s m args below meth c nL cy D ad A kc ks Q (pc + 1) lv (.int (i32 (T 4 a)) :: st) (setc (setc M 4 T) 2 S)) : V p l e R s m args below meth c nL cy D ad A kc ks Q pc lv (.int (i32 a) :: .ref (ad 28 2 0) :: st) (setc (setc M 4 T) 2 S) := ig_28 F d hs h1 h2 h3 kk
theorem js_28 (F : Fx p s m args meth c own cc nL ret cy D ad A) {a v : Int} (d : decode cc pc = .ok (.iastore, 1)) (hs : ad 40 28 0 = 1) (h1 : 0 ≤ a) (h2 : a < (ad 41 28 0 : Int)) (h3 : (ad 41 28 0 : Int) < 2147483648) (kk : V p l e R s m args below meth c nL cy D ad A kc ks Q (pc + 1) lv st (setc (setc M 4 (u2 T 4 a v)) 2 S)) : V p l e R s m args below meth c nL cy D ad A kc ks Q pc lv (.int (i32 v) :: .int (i32 a) :: .ref (ad 28 2 0) :: st) (setc (setc M 4 T) 2 S) := is_28 F d hs h1 h2 h3 (V.cast (j_set M T S (u2 T 4 a v)) kk)
theorem jg_29 (F : Fx p s m args meth c own cc nL ret cy D ad A) {a : Int} (d : decode cc pc = .ok (.iaload, 1)) (hs : ad 40 29 0 = 1) (h1 : 0 ≤ a) (h2 : a < (ad 41 29 0 : Int)) (h3 : (ad 41 29 0 : Int) < 2147483648) (kk : V p l e R s m args below meth c nL cy D ad A kc ks Q (pc + 1) lv (.int (i32 (T 5 a)) :: st) (setc (setc M 4 T) 2 S)) : V p l e R s m args below meth c nL cy D ad A kc ks Q pc lv (.int (i32 a) :: .ref (ad 29 2 0) :: st) (setc (setc M 4 T) 2 S) := ig_29 F d hs h1 h2 h3 kk
theorem js_29 (F : Fx p s m args meth c own cc nL ret cy D ad A) {a v : Int} (d : decode cc pc = .ok (.iastore, 1)) (hs : ad 40 29 0 = 1) (h1 : 0 ≤ a) (h2 : a < (ad 41 29 0 : Int)) (h3 : (ad 41 29 0 : Int) < 2147483648) (kk : V p l e R s m args below meth c nL cy D ad A kc ks Q (pc + 1) lv st (setc (setc M 4 (u2 T 5 a v)) 2 S)) : V p l e R s m args below meth c nL cy D ad A kc ks Q pc lv (.int (i32 v) :: .int (i32 a) :: .ref (ad 29 2 0) :: st) (setc (setc M 4 T) 2 S) := is_29 F d hs h1 h2 h3 (V.cast (j_set M T S (u2 T 5 a v)) kk)
theorem jg_30 (F : Fx p s m args meth c own cc nL ret cy D ad A) {a : Int} (d : decode cc pc = .ok (.iaload, 1)) (hs : ad 40 30 0 = 1) (h1 : 0 ≤ a) (h2 : a < (ad 41 30 0 : Int)) (h3 : (ad 41 30 0 : Int) < 2147483648) (kk : V p l e R s m args below meth c nL cy D ad A kc ks Q (pc + 1) lv (.int (i32 (T 6 a)) :: st) (setc (setc M 4 T) 2 S)) : V p l e R s m args below meth c nL cy D ad A kc ks Q pc lv (.int (i32 a) :: .ref (ad 30 2 0) :: st) (setc (setc M 4 T) 2 S) := ig_30 F d hs h1 h2 h3 kk
theorem js_30 (F : Fx p s m args meth c own cc nL ret cy D ad A) {a v : Int} (d : decode cc pc = .ok (.iastore, 1)) (hs : ad 40 30 0 = 1) (h1 : 0 ≤ a) (h2 : a < (ad 41 30 0 : Int)) (h3 : (ad 41 30 0 : Int) < 2147483648) (kk : V p l e R s m args below meth c nL cy D ad A kc ks Q (pc + 1) lv st (setc (setc M 4 (u2 T 6 a v)) 2 S)) : V p l e R s m args below meth c nL cy D ad A kc ks Q pc lv (.int (i32 v) :: .int (i32 a) :: .ref (ad 30 2 0) :: st) (setc (setc M 4 T) 2 S) := is_30 F d hs h1 h2 h3 (V.cast (j_set M T S (u2 T 6 a v)) kk)
theorem jg_31 (F : Fx p s m args meth c own cc nL ret cy D ad A) {a : Int} (d : decode cc pc = .ok (.iaload, 1)) (hs : ad 40 31 0 = 1) (h1 : 0 ≤ a) (h2 : a < (ad 41 31 0 : Int)) (h3 : (ad 41 31 0 : Int) < 2147483648) (kk : V p l e R s m args below meth c nL cy D ad A kc ks Q (pc + 1) lv (.int (i32 (T 7 a)) :: st) (setc (setc M 4 T) 2 S)) : V p l e R s m args below meth c nL cy D ad A kc ks Q pc lv (.int (i32 a) :: .ref (ad 31 2 0) :: st) (setc (setc M 4 T) 2 S) := ig_31 F d hs h1 h2 h3 kk
theorem js_31 (F : Fx p s m args meth c own cc nL ret cy D ad A) {a v : Int} (d : decode cc pc = .ok (.iastore, 1)) (hs : ad 40 31 0 = 1) (h1 : 0 ≤ a) (h2 : a < (ad 41 31 0 : Int)) (h3 : (ad 41 31 0 : Int) < 2147483648) (kk : V p l e R s m args below meth c nL cy D ad A kc ks Q (pc + 1) lv st (setc (setc M 4 (u2 T 7 a v)) 2 S)) : V p l e R s m args below meth c nL cy D ad A kc ks Q pc lv (.int (i32 v) :: .int (i32 a) :: .ref (ad 31 2 0) :: st) (setc (setc M 4 T) 2 S) := is_31 F d hs h1 h2 h3 (V.cast (j_set M T S (u2 T 7 a v)) kk)
theorem j_newa (F : Fx p s m args meth c own cc nL ret cy D ad A) (t : Nat) (ht : 24 ≤ t ∧ t < 32) (h0 : ad 40 t 0 ≠ 1) (h32 : ad 40 32 0 ≠ 1) {n : Int} (N : Nat) (d : decode cc pc = .ok (.newarray .int, 2)) (hn : n = (N : Int)) (hN : N < 1000) (hf : kc + 1 ≤ R.cells ∧ ks + N ≤ R.slots) (kk : ∀ ad' : Nat → Nat → Int → Nat, Ext ad ad' t N → Fx p s m args meth c own cc nL ret cy D ad' A → V p l e R s m args below meth c nL cy D ad' A (kc + 1) (ks + N) Q (pc + 2) lv (.ref (ad' t 2 0) :: st) (setc (setc M 4 (zk T (t - 24))) 2 S)) : V p l e R s m args below meth c nL cy D ad A kc ks Q pc lv (.int (i32 n) :: st) (setc (setc M 4 T) 2 S) := r_newa F t ht h0 h32 N d arr_int hn hN hf (fun ad' E F9 => V.cast (j_set M T S (zk T (t - 24))) (kk ad' E F9))
end JR
theorem self0 {M : Mem} {S : St} (h : S = M 0) : M = setc M 0 S := by rw [h, setc_self]
theorem K_X4_count {l : Launch} {cy : Nat → ClassId} {D : va_G} {ad : Nat → Nat → Int → Nat} {X : Mem} {S : St} {x : Int} (h : X 0 = S) (hI : Inv S) (hx : 0 ≤ x ∧ x ≤ 10) : Ct l cy D ad yX4_count cX4_count 2 (some FieldType.int) 5 [.ref (ad 0 0 0), .int (i32 x)] X (some (.int (i32 (counted S x)))) X := by
  have e := C_X4_count (l := l) (cy := cy) (D := D) (ad := ad) (M := X) (x := x) hI (ir_of (by omega) (by omega)) (by unfold cRng1; rw [if_neg (by omega)])
  rw [← self0 h.symm] at e
  exact e
theorem K_X4_place {l : Launch} {cy : Nat → ClassId} {D : va_G} {ad : Nat → Nat → Int → Nat} {X : Mem} {S : St} {x w : Int} (h : X 0 = S) (hI : Inv S) (hh : 0 ≤ S 20 0 ∧ S 20 0 < 900000) (hx : 0 ≤ x ∧ x ≤ 15) (hw : 0 ≤ w ∧ w ≤ 4) : Ct l cy D ad yX4_place cX4_place 3 (some FieldType.int) 5 [.ref (ad 0 0 0), .int (i32 x), .int (i32 w)] X (some (.int (i32 (placeF S x w)))) X := by
  have e := C_X4_place (l := l) (cy := cy) (D := D) (ad := ad) (M := X) (x := x) (w := w) hI hh (ir_of (by omega) (by omega)) (ir_of (by omega) (by omega)) (by unfold cRng; rw [if_neg (by omega), if_neg (by omega)])
  rw [← self0 h.symm] at e
  exact e
theorem K_X4_code {l : Launch} {cy : Nat → ClassId} {D : va_G} {ad : Nat → Nat → Int → Nat} {X : Mem} {S : St} {x w : Int} (h : X 0 = S) (hI : Inv S) (hx : 1 ≤ x ∧ x ≤ 7) (hw : 0 ≤ w ∧ w ≤ 3) : Ct l cy D ad yX4_code cX4_code 3 (some FieldType.int) 5 [.ref (ad 0 0 0), .int (i32 x), .int (i32 w)] X (some (.int (i32 (codeF S x w)))) X := by
  have e := C_X4_code (l := l) (cy := cy) (D := D) (ad := ad) (M := X) (x := x) (w := w) hI (ir_of (by omega) (by omega)) (ir_of (by omega) (by omega)) (by unfold cRng; rw [if_neg (by omega), if_neg (by omega)])
  rw [← self0 h.symm] at e
  exact e
theorem K_X4_light {l : Launch} {cy : Nat → ClassId} {D : va_G} {ad : Nat → Nat → Int → Nat} {X : Mem} {S : St} {x w : Int} (h : X 0 = S) (hI : Inv S) (hh : 0 ≤ S 20 0 ∧ S 20 0 < 900000) (hx : 0 ≤ x ∧ x < S 20 1) (hw : 0 ≤ w ∧ w ≤ 3) : Ct l cy D ad yX4_light cX4_light 3 (some FieldType.int) 5 [.ref (ad 0 0 0), .int (i32 x), .int (i32 w)] X (some (.int (i32 (lightF S x w)))) X := by
  have e := (have ic := hI.pc; C_X4_light (l := l) (cy := cy) (D := D) (ad := ad) (M := X) (x := x) (w := w) hI hh (ir_of (by omega) (by omega)) (ir_of (by omega) (by omega)) (by unfold cRng; rw [if_neg (by omega), if_neg (by omega)]))
  rw [← self0 h.symm] at e
  exact e
theorem K_X4_about {l : Launch} {cy : Nat → ClassId} {D : va_G} {ad : Nat → Nat → Int → Nat} {X : Mem} {S : St} {x w : Int} (h : X 0 = S) (hI : Inv S) (hh : 0 ≤ S 20 0 ∧ S 20 0 < 900000) (hx : 0 ≤ x ∧ x < S 20 2) (hw : 0 ≤ w ∧ w ≤ 4) : Ct l cy D ad yX4_about cX4_about 3 (some FieldType.int) 3 [.ref (ad 0 0 0), .int (i32 x), .int (i32 w)] X (some (.int (i32 (aboutF S x w)))) X := by
  have e := (have ic := hI.pc; C_X4_about (l := l) (cy := cy) (D := D) (ad := ad) (M := X) (x := x) (w := w) hI hh (ir_of (by omega) (by omega)) (ir_of (by omega) (by omega)) (by unfold cRng; rw [if_neg (by omega), if_neg (by omega)]))
  rw [← self0 h.symm] at e
  exact e
theorem K_X4_told {l : Launch} {cy : Nat → ClassId} {D : va_G} {ad : Nat → Nat → Int → Nat} {X : Mem} {S : St} {x w : Int} (h : X 0 = S) (hI : Inv S) (hx : 0 ≤ x ∧ x < S 20 3) (hw : 0 ≤ w ∧ w ≤ 6) : Ct l cy D ad yX4_told cX4_told 3 (some FieldType.int) 2 [.ref (ad 0 0 0), .int (i32 x), .int (i32 w)] X (some (.int (i32 (toldF S x w)))) X := by
  have e := (have ic := hI.pc; C_X4_told (l := l) (cy := cy) (D := D) (ad := ad) (M := X) (x := x) (w := w) hI (ir_of (by omega) (by omega)) (ir_of (by omega) (by omega)) (by unfold cRng; rw [if_neg (by omega), if_neg (by omega)]))
  rw [← self0 h.symm] at e
  exact e
theorem K_X4_moon {l : Launch} {cy : Nat → ClassId} {D : va_G} {ad : Nat → Nat → Int → Nat} {X : Mem} {S : St} {x : Int} (h : X 0 = S) (hI : Inv S) (hx : 0 ≤ x ∧ x ≤ 999) : Ct l cy D ad yX4_moon cX4_moon 2 (some FieldType.int) 2 [.ref (ad 0 0 0), .int (i32 x)] X (some (.int (i32 (moonOf x)))) X := by
  have e := C_X4_moon (l := l) (cy := cy) (D := D) (ad := ad) (M := X) (S := S) (x := x) hI (ir_of (by omega) (by omega)) (by unfold cRng1; rw [if_neg (by omega)])
  rw [← self0 h.symm] at e
  exact e
theorem K_X4_mean {l : Launch} {cy : Nat → ClassId} {D : va_G} {ad : Nat → Nat → Int → Nat} {X : Mem} {S : St} (h : X 0 = S) (hI : Inv S) : Ct l cy D ad yX4_mean cX4_mean 2 (some FieldType.double) 1 [.ref (ad 0 0 0)] X (some (.double (meanF S))) X := by
  have e := C_X4_mean (l := l) (cy := cy) (D := D) (ad := ad) (M := X) hI
  rw [← self0 h.symm] at e
  exact e
theorem K_X4_digest {l : Launch} {cy : Nat → ClassId} {D : va_G} {ad : Nat → Nat → Int → Nat} {X : Mem} {S : St} (h : X 0 = S) (hI : Inv S) (hh : 0 ≤ S 20 0 ∧ S 20 0 < 900000) : Ct l cy D ad yX4_digest cX4_digest 5 (some FieldType.long) 7 [.ref (ad 0 0 0)] X (some (.long (dB S))) X := by
  have e := C_X4_digest (l := l) (cy := cy) (D := D) (ad := ad) (M := X) hI hh
  rw [← self0 h.symm] at e
  exact e
set_option maxHeartbeats 4000000 in
set_option maxRecDepth 100000 in
theorem C_X5_counted {l : Launch} {cy : Nat → ClassId} {D : va_G} {ad : Nat → Nat → Int → Nat} {M : Mem} {S : St} {x : Int} (hsh : Sh ad S) (hI : Inv S) (hx : 0 ≤ x ∧ x ≤ 10) (hz30 : ad 40 30 0 ≠ 1) (hz32 : ad 40 32 0 ≠ 1) : Cm l cy D ad yX5_counted cX5_counted 4 (some FieldType.int) 1 1 11 [.ref (ad 13 2 0), .int (i32 x)] (setc M 2 S) (some (.int (i32 (counted S x)))) (setc M 2 S) := by
  refine Cm.mk (lv := [some _, some _, none, none]) 2 (by decide) rfl (Nat.le_of_ble_eq_true rfl) (fun p e s m below meth c F => ?_)
  have hsh9 := hsh
  obtain ⟨hs, hn1, hn2, hn3⟩ := hsh
  have ic := hI.pc
  have hE : V p l e { frames := 1, cells := 1, slots := 11, locals := 30 * 1 } s m ([.ref (ad 13 2 0), .int (i32 x)] : List Value).toArray below meth c 4 cy D ad (Aw ad s.heap.size) 0 0 (MQ below (Qn cy D ad s.heap.size (some (.int (i32 (counted S x)))) (setc M 2 S)) ([.ref (ad 13 2 0), .int (i32 x)] : List Value).toArray s 1 11 (Aw ad s.heap.size)) 34 [some (.ref (ad 13 2 0)), some (.int (i32 x)), some (.int (i32 (known S))), none] [] (setc M 2 S) := by
    refine V.cast (j_self M S) ?_
    refine r_bipush F dX5_counted_34 (by decide) ?_
    have F0 := F
    refine j_newa F 30 (by decide) hz30 hz32 11 dX5_counted_36 rfl (by decide) ⟨by show _ ≤ 1; omega, by show _ ≤ 11; omega⟩ (fun ad9 E9 F => ?_)
    have hs30 := E9.1
    have hl30 : (ad9 41 30 0 : Int) = 11 := by rw [E9.2.1]; rfl
    have hs0 := hs
    have hs : ad9 40 13 0 = 1 := (E9.fl (by decide) (Or.inl rfl) (by decide)).trans hs0
    have hn1 : (ad9 41 18 0 : Int) = S 20 1 := by rw [E9.fl (by decide) (Or.inr rfl) (by decide)]; exact hn1
    have hn2 : (ad9 41 19 0 : Int) = S 20 2 := by rw [E9.fl (by decide) (Or.inr rfl) (by decide)]; exact hn2
    have hn3 : (ad9 41 20 0 : Int) = S 20 3 := by rw [E9.fl (by decide) (Or.inr rfl) (by decide)]; exact hn3
    have hsh0 := hsh9
    have hsh9 : Sh ad9 S := ⟨hs, hn1, hn2, hn3⟩
    have e13 : ad9 13 2 0 = ad 13 2 0 := E9.lo (by decide) (by decide)
    have e0 : ad9 0 0 0 = ad 0 0 0 := E9.lo (by decide) (by decide)
    refine r_dup F dX5_counted_38 rfl ?_
    refine r_iconst F dX5_counted_39 ?_
    refine r_aload_n (x := ad9 13 2 0) (i := 0) F dX5_counted_40 rfl (by rw [e13]; rfl) ?_
    refine gf_X5_40 F dX5_counted_41 hs ?_
    refine js_30 F dX5_counted_44 hs30 (by omega) (by omega) (by omega) ?_
    refine r_dup F dX5_counted_45 rfl ?_
    refine r_iconst F dX5_counted_46 ?_
    refine r_aload_n (x := ad9 13 2 0) (i := 0) F dX5_counted_47 rfl (by rw [e13]; rfl) ?_
    refine gf_X5_23 F dX5_counted_48 hs ?_
    refine al_18 F dX5_counted_51 hs hn1 ?_
    refine js_30 F dX5_counted_52 hs30 (by omega) (by omega) (by omega) ?_
    refine r_dup F dX5_counted_53 rfl ?_
    refine r_iconst F dX5_counted_54 ?_
    refine r_aload_n (x := ad9 13 2 0) (i := 0) F dX5_counted_55 rfl (by rw [e13]; rfl) ?_
    refine gf_X5_27 F dX5_counted_56 hs ?_
    refine al_19 F dX5_counted_59 hs hn2 ?_
    refine js_30 F dX5_counted_60 hs30 (by omega) (by omega) (by omega) ?_
    refine r_dup F dX5_counted_61 rfl ?_
    refine r_iconst F dX5_counted_62 ?_
    refine r_aload_n (x := ad9 13 2 0) (i := 0) F dX5_counted_63 rfl (by rw [e13]; rfl) ?_
    refine gf_X5_30 F dX5_counted_64 hs ?_
    refine al_20 F dX5_counted_67 hs hn3 ?_
    refine js_30 F dX5_counted_68 hs30 (by omega) (by omega) (by omega) ?_
    refine r_dup F dX5_counted_69 rfl ?_
    refine r_iconst F dX5_counted_70 ?_
    refine r_aload_n (x := ad9 13 2 0) (i := 0) F dX5_counted_71 rfl (by rw [e13]; rfl) ?_
    refine r_iconst F dX5_counted_72 ?_
    refine r_callV F (C_X5_in (q := 0) hsh9 hI (by decide)) dX5_counted_73 lkv_X5_81 rfl rfl (dm13 hs) rfl rfl cd_X5_in (by decide) ⟨by show _ ≤ 1; omega, by show _ ≤ 11; omega⟩ (Nat.le_of_ble_eq_true rfl) ?_
    refine js_30 F dX5_counted_76 hs30 (by omega) (by omega) (by omega) ?_
    refine r_dup F dX5_counted_77 rfl ?_
    refine r_iconst F dX5_counted_78 ?_
    refine r_aload_n (x := ad9 13 2 0) (i := 0) F dX5_counted_79 rfl (by rw [e13]; rfl) ?_
    refine r_iconst F dX5_counted_80 ?_
    refine r_callV F (C_X5_in (q := 1) hsh9 hI (by decide)) dX5_counted_81 lkv_X5_81 rfl rfl (dm13 hs) rfl rfl cd_X5_in (by decide) ⟨by show _ ≤ 1; omega, by show _ ≤ 11; omega⟩ (Nat.le_of_ble_eq_true rfl) ?_
    refine js_30 F dX5_counted_84 hs30 (by omega) (by omega) (by omega) ?_
    refine r_dup F dX5_counted_85 rfl ?_
    refine r_bipush F dX5_counted_86 (by decide) ?_
    refine r_aload_n (x := ad9 13 2 0) (i := 0) F dX5_counted_88 rfl (by rw [e13]; rfl) ?_
    refine r_iconst F dX5_counted_89 ?_
    refine r_callV F (C_X5_in (q := 2) hsh9 hI (by decide)) dX5_counted_90 lkv_X5_81 rfl rfl (dm13 hs) rfl rfl cd_X5_in (by decide) ⟨by show _ ≤ 1; omega, by show _ ≤ 11; omega⟩ (Nat.le_of_ble_eq_true rfl) ?_
    refine js_30 F dX5_counted_93 hs30 (by omega) (by omega) (by omega) ?_
    refine r_dup F dX5_counted_94 rfl ?_
    refine r_bipush F dX5_counted_95 (by decide) ?_
    refine r_aload_n (x := ad9 13 2 0) (i := 0) F dX5_counted_97 rfl (by rw [e13]; rfl) ?_
    refine r_callV F (C_X5_caves hsh9) dX5_counted_98 lkv_X5_84 rfl rfl (dm13 hs) rfl rfl cd_X5_caves (by decide) ⟨by show _ ≤ 1; omega, by show _ ≤ 11; omega⟩ (Nat.le_of_ble_eq_true rfl) ?_
    refine js_30 F dX5_counted_101 hs30 (by omega) (by omega) (by omega) ?_
    refine r_dup F dX5_counted_102 rfl ?_
    refine r_bipush F dX5_counted_103 (by decide) ?_
    refine r_aload_n (x := ad9 13 2 0) (i := 0) F dX5_counted_105 rfl (by rw [e13]; rfl) ?_
    refine gf_X5_44 F dX5_counted_106 hs ?_
    refine js_30 F dX5_counted_109 hs30 (by omega) (by omega) (by omega) ?_
    refine r_dup F dX5_counted_110 rfl ?_
    refine r_bipush F dX5_counted_111 (by decide) ?_
    refine r_aload_n (x := ad9 13 2 0) (i := 0) F dX5_counted_113 rfl (by rw [e13]; rfl) ?_
    refine gf_X5_47 F dX5_counted_114 hs ?_
    refine js_30 F dX5_counted_117 hs30 (by omega) (by omega) (by omega) ?_
    refine r_dup F dX5_counted_118 rfl ?_
    refine r_bipush F dX5_counted_119 (by decide) ?_
    refine r_iload_n (i := 2) F dX5_counted_121 rfl rfl ?_
    refine js_30 F dX5_counted_122 hs30 (by omega) (by omega) (by omega) ?_
    refine r_astore_n (i := 3) (lv1 := [_, _, _, _]) F dX5_counted_123 rfl (by decide) rfl rfl ?_
    refine r_aload_n (i := 3) F dX5_counted_124 rfl rfl ?_
    refine r_iload_n (i := 1) F dX5_counted_125 rfl rfl ?_
    refine jg_30 F dX5_counted_126 hs30 (by omega) (by omega) (by omega) ?_
    have hx9 : x = 0 ∨ x = 1 ∨ x = 2 ∨ x = 3 ∨ x = 4 ∨ x = 5 ∨ x = 6 ∨ x = 7 ∨ x = 8 ∨ x = 9 ∨ x = 10 := by omega
    refine V.drop (M := setc M 2 S) (E9.less (by decide) hz30 hz32 (j_oth M _ S 30 (by decide) (fun k9 i9 hk9 => ?_))) ?_
    · simp [u2, zk, show k9 ≠ 6 from hk9]
    refine V.wide (Nat.le_refl _) (Nat.le_refl _) (kc1 := 1) (ks1 := 11) ?_
    exact r_iret F0 dX5_counted_127 rfl (by rcases hx9 with rfl | rfl | rfl | rfl | rfl | rfl | rfl | rfl | rfl | rfl | rfl <;> simp [u2, counted]) rfl
  have loop : ∀ (n : Nat) (j : Int), 0 ≤ j → j + (n : Int) = 7 → V p l e { frames := 1, cells := 1, slots := 11, locals := 30 * 1 } s m ([.ref (ad 13 2 0), .int (i32 x)] : List Value).toArray below meth c 4 cy D ad (Aw ad s.heap.size) 0 0 (MQ below (Qn cy D ad s.heap.size (some (.int (i32 (counted S x)))) (setc M 2 S)) ([.ref (ad 13 2 0), .int (i32 x)] : List Value).toArray s 1 11 (Aw ad s.heap.size)) 4 [some (.ref (ad 13 2 0)), some (.int (i32 x)), some (.int (i32 (cnt (kn1 S) j.toNat))), some (.int (i32 (j + 1)))] [] (setc M 2 S) := by
    intro n
    induction n with
    | zero =>
      intro j h0 h1
      refine r_iload_n (i := 3) F dX5_counted_4 rfl rfl ?_
      refine r_bipush F dX5_counted_5 (by decide) ?_
      refine r_icmp_ge (tgt := 34) F dX5_counted_7 (by decide) (by first | assumption | exact ir_of (by omega) (by omega)) (by first | assumption | exact ir_of (by omega) (by omega)) (fun h7 => ?_) (fun h7 => ?_)
      · refine V.kill (lv1 := [_, _, _, _]) 3 rfl ?_
        rw [show cnt (kn1 S) j.toNat = known S from by rw [show j = 7 by omega] <;> rfl]
        exact hE
      · exfalso; omega
    | succ n ih =>
      intro j h0 h1
      refine r_iload_n (i := 3) F dX5_counted_4 rfl rfl ?_
      refine r_bipush F dX5_counted_5 (by decide) ?_
      refine r_icmp_ge (tgt := 34) F dX5_counted_7 (by decide) (by first | assumption | exact ir_of (by omega) (by omega)) (by first | assumption | exact ir_of (by omega) (by omega)) (fun h7 => ?_) (fun h7 => ?_)
      · exfalso; omega
      · refine r_iload_n (i := 2) F dX5_counted_10 rfl rfl ?_
        refine r_aload_n (i := 0) F dX5_counted_11 rfl rfl ?_
        refine gf_X5_19 F dX5_counted_12 hs ?_
        refine r_iload_n (i := 3) F dX5_counted_15 rfl rfl ?_
        refine ia_17 F dX5_counted_16 hs (by omega) (by omega) ?_
        refine r_iconst F dX5_counted_17 ?_
        refine r_rcmp_le (tgt := 25) F dX5_counted_18 (by decide) (fun h18 => ?_) (fun h18 => ?_)
        · refine r_iconst F dX5_counted_25 ?_
          refine r_iadd F dX5_counted_26 ?_
          refine r_istore_n (i := 2) (lv1 := [_, _, _, _]) F dX5_counted_27 rfl (by decide) rfl rfl ?_
          refine r_iinc (lv1 := [_, _, _, _]) F dX5_counted_28 rfl (by decide) rfl rfl ?_
          refine r_goto (tgt := 4) F dX5_counted_31 (by decide) ?_
          have t := ih (j + 1) (by omega) (by omega)
          first | (rw [cnt_S _ h0, show kn1 S j = true from kn_t (by omega) h18, bi_t] at t; exact t) | (rw [cnt_S _ h0, show kn1 S j = false from kn_f (Or.inr h18), bi_f] at t; exact t)
        · refine r_iconst F dX5_counted_21 ?_
          refine r_goto (tgt := 26) F dX5_counted_22 (by decide) ?_
          refine r_iadd F dX5_counted_26 ?_
          refine r_istore_n (i := 2) (lv1 := [_, _, _, _]) F dX5_counted_27 rfl (by decide) rfl rfl ?_
          refine r_iinc (lv1 := [_, _, _, _]) F dX5_counted_28 rfl (by decide) rfl rfl ?_
          refine r_goto (tgt := 4) F dX5_counted_31 (by decide) ?_
          have t := ih (j + 1) (by omega) (by omega)
          first | (rw [cnt_S _ h0, show kn1 S j = true from kn_t (by omega) h18, bi_t] at t; exact t) | (rw [cnt_S _ h0, show kn1 S j = false from kn_f (Or.inr h18), bi_f] at t; exact t)
  refine r_iconst F dX5_counted_0 ?_
  refine r_istore_n (i := 2) (lv1 := [_, _, _, _]) F dX5_counted_1 rfl (by decide) rfl rfl ?_
  refine r_iconst F dX5_counted_2 ?_
  refine r_istore_n (i := 3) (lv1 := [_, _, _, _]) F dX5_counted_3 rfl (by decide) rfl rfl ?_
  exact loop 7 0 (by decide) (by decide)
