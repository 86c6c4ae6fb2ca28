/-! Rows of the coast by hand and of the law's own arrays. -/
section FROWS
variable {p : Program} {l : Launch} {e : Env} {R : Room} {s : State} {m : MethodId} {args : Array Value} {below : List Frame} {meth : Method} {c : Code} {nL : Nat} {cy : Nat → ClassId} {D : va_G} {ad : Nat → Nat → Int → Nat} {A : Nat → Prop} {kc ks : Nat} {Q : State → Prop} {pc : Nat} {lv : List (Option Value)} {st : List Value} {M : Mem} {cc : ByteArray} {ret : Option FieldType} {k : Nat} {S : St} {i : Int}
theorem ig_14 {own : String} (F : Fx p s m args meth c own cc nL ret cy D ad A) {a : Int} (d : decode cc pc = .ok (.iaload, 1)) (hs : ad 40 13 0 = 1) (h1 : 0 ≤ a) (h2 : a < 16) (kk : V p l e R s m args below meth c nL cy D ad A kc ks Q (pc + 1) lv (.int (i32 (M 2 0 a)) :: st) (M)) : V p l e R s m args below meth c nL cy D ad A kc ks Q pc lv (.int (i32 a) :: .ref (ad 14 2 0) :: st) (M) := r_iald F d (dm14 hs) (n := 16) (f := fun j => i32 (M 2 0 (j : Int))) rfl h1 h2 (by decide) (by show i32 (M 2 0 ((a.toNat : Nat) : Int)) = _; rw [Int.toNat_of_nonneg h1]) kk
theorem ia_14 {own : String} (F : Fx p s m args meth c own cc nL ret cy D ad A) {a : Int} (d : decode cc pc = .ok (.iaload, 1)) (hs : ad 40 13 0 = 1) (h1 : 0 ≤ a) (h2 : a < 16) (kk : V p l e R s m args below meth c nL cy D ad A kc ks Q (pc + 1) lv (.int (i32 (S 0 a)) :: st) (setc M 2 S)) : V p l e R s m args below meth c nL cy D ad A kc ks Q pc lv (.int (i32 a) :: .ref (ad 14 2 0) :: st) (setc M 2 S) := ig_14 F d hs h1 h2 (by rw [setc_at]; exact kk)
theorem is_14 {own : String} (F : Fx p s m args meth c own cc nL ret cy D ad A) {a v : Int} (d : decode cc pc = .ok (.iastore, 1)) (hs : ad 40 13 0 = 1) (h1 : 0 ≤ a) (h2 : a < 16) (kk : V p l e R s m args below meth c nL cy D ad A kc ks Q (pc + 1) lv st (setc M 2 (u2 S 0 a v))) : V p l e R s m args below meth c nL cy D ad A kc ks Q pc lv (.int (i32 v) :: .int (i32 a) :: .ref (ad 14 2 0) :: st) (setc M 2 S) := by
  refine r_iast F d (dm14 hs) (n := 16) (f := fun j => i32 (S 0 (j : Int))) (by simp only [cel, setc_at]) h1 h2 (by decide) ?_ (oth (by simp [owner])) kk
  simp only [cel, setc_at]
  congr 4
  funext j
  unfold u2 upd
  by_cases hj : j = a.toNat
  · rw [if_pos hj, if_pos ⟨rfl, by omega⟩]
  · rw [if_neg hj, if_neg (fun h => hj (by have := h.2; omega))]
theorem al_14 {own : String} (F : Fx p s m args meth c own cc nL ret cy D ad A) (d : decode cc pc = .ok (.arraylength, 1)) (hs : ad 40 13 0 = 1) (kk : V p l e R s m args below meth c nL cy D ad A kc ks Q (pc + 1) lv (.int (i32 16) :: st) (M)) : V p l e R s m args below meth c nL cy D ad A kc ks Q pc lv (.ref (ad 14 2 0) :: st) (M) := r_alen F d (dm14 hs) (x := (16, .inl (fun j => i32 (M 2 0 (j : Int))))) rfl (tq := 0) rfl kk
theorem ig_15 {own : String} (F : Fx p s m args meth c own cc nL ret cy D ad A) {a : Int} (d : decode cc pc = .ok (.iaload, 1)) (hs : ad 40 13 0 = 1) (h1 : 0 ≤ a) (h2 : a < 16) (kk : V p l e R s m args below meth c nL cy D ad A kc ks Q (pc + 1) lv (.int (i32 (M 2 1 a)) :: st) (M)) : V p l e R s m args below meth c nL cy D ad A kc ks Q pc lv (.int (i32 a) :: .ref (ad 15 2 0) :: st) (M) := r_iald F d (dm15 hs) (n := 16) (f := fun j => i32 (M 2 1 (j : Int))) rfl h1 h2 (by decide) (by show i32 (M 2 1 ((a.toNat : Nat) : Int)) = _; rw [Int.toNat_of_nonneg h1]) kk
theorem ia_15 {own : String} (F : Fx p s m args meth c own cc nL ret cy D ad A) {a : Int} (d : decode cc pc = .ok (.iaload, 1)) (hs : ad 40 13 0 = 1) (h1 : 0 ≤ a) (h2 : a < 16) (kk : V p l e R s m args below meth c nL cy D ad A kc ks Q (pc + 1) lv (.int (i32 (S 1 a)) :: st) (setc M 2 S)) : V p l e R s m args below meth c nL cy D ad A kc ks Q pc lv (.int (i32 a) :: .ref (ad 15 2 0) :: st) (setc M 2 S) := ig_15 F d hs h1 h2 (by rw [setc_at]; exact kk)
theorem is_15 {own : String} (F : Fx p s m args meth c own cc nL ret cy D ad A) {a v : Int} (d : decode cc pc = .ok (.iastore, 1)) (hs : ad 40 13 0 = 1) (h1 : 0 ≤ a) (h2 : a < 16) (kk : V p l e R s m args below meth c nL cy D ad A kc ks Q (pc + 1) lv st (setc M 2 (u2 S 1 a v))) : V p l e R s m args below meth c nL cy D ad A kc ks Q pc lv (.int (i32 v) :: .int (i32 a) :: .ref (ad 15 2 0) :: st) (setc M 2 S) := by
  refine r_iast F d (dm15 hs) (n := 16) (f := fun j => i32 (S 1 (j : Int))) (by simp only [cel, setc_at]) h1 h2 (by decide) ?_ (oth (by simp [owner])) kk
  simp only [cel, setc_at]
  congr 4
  funext j
  unfold u2 upd
  by_cases hj : j = a.toNat
  · rw [if_pos hj, if_pos ⟨rfl, by omega⟩]
  · rw [if_neg hj, if_neg (fun h => hj (by have := h.2; omega))]
theorem al_15 {own : String} (F : Fx p s m args meth c own cc nL ret cy D ad A) (d : decode cc pc = .ok (.arraylength, 1)) (hs : ad 40 13 0 = 1) (kk : V p l e R s m args below meth c nL cy D ad A kc ks Q (pc + 1) lv (.int (i32 16) :: st) (M)) : V p l e R s m args below meth c nL cy D ad A kc ks Q pc lv (.ref (ad 15 2 0) :: st) (M) := r_alen F d (dm15 hs) (x := (16, .inl (fun j => i32 (M 2 1 (j : Int))))) rfl (tq := 0) rfl kk
theorem ig_16 {own : String} (F : Fx p s m args meth c own cc nL ret cy D ad A) {a : Int} (d : decode cc pc = .ok (.iaload, 1)) (hs : ad 40 13 0 = 1) (h1 : 0 ≤ a) (h2 : a < 8) (kk : V p l e R s m args below meth c nL cy D ad A kc ks Q (pc + 1) lv (.int (i32 (M 2 2 a)) :: st) (M)) : V p l e R s m args below meth c nL cy D ad A kc ks Q pc lv (.int (i32 a) :: .ref (ad 16 2 0) :: st) (M) := r_iald F d (dm16 hs) (n := 8) (f := fun j => i32 (M 2 2 (j : Int))) rfl h1 h2 (by decide) (by show i32 (M 2 2 ((a.toNat : Nat) : Int)) = _; rw [Int.toNat_of_nonneg h1]) kk
theorem ia_16 {own : String} (F : Fx p s m args meth c own cc nL ret cy D ad A) {a : Int} (d : decode cc pc = .ok (.iaload, 1)) (hs : ad 40 13 0 = 1) (h1 : 0 ≤ a) (h2 : a < 8) (kk : V p l e R s m args below meth c nL cy D ad A kc ks Q (pc + 1) lv (.int (i32 (S 2 a)) :: st) (setc M 2 S)) : V p l e R s m args below meth c nL cy D ad A kc ks Q pc lv (.int (i32 a) :: .ref (ad 16 2 0) :: st) (setc M 2 S) := ig_16 F d hs h1 h2 (by rw [setc_at]; exact kk)
theorem is_16 {own : String} (F : Fx p s m args meth c own cc nL ret cy D ad A) {a v : Int} (d : decode cc pc = .ok (.iastore, 1)) (hs : ad 40 13 0 = 1) (h1 : 0 ≤ a) (h2 : a < 8) (kk : V p l e R s m args below meth c nL cy D ad A kc ks Q (pc + 1) lv st (setc M 2 (u2 S 2 a v))) : V p l e R s m args below meth c nL cy D ad A kc ks Q pc lv (.int (i32 v) :: .int (i32 a) :: .ref (ad 16 2 0) :: st) (setc M 2 S) := by
  refine r_iast F d (dm16 hs) (n := 8) (f := fun j => i32 (S 2 (j : Int))) (by simp only [cel, setc_at]) h1 h2 (by decide) ?_ (oth (by simp [owner])) kk
  simp only [cel, setc_at]
  congr 4
  funext j
  unfold u2 upd
  by_cases hj : j = a.toNat
  · rw [if_pos hj, if_pos ⟨rfl, by omega⟩]
  · rw [if_neg hj, if_neg (fun h => hj (by have := h.2; omega))]
theorem al_16 {own : String} (F : Fx p s m args meth c own cc nL ret cy D ad A) (d : decode cc pc = .ok (.arraylength, 1)) (hs : ad 40 13 0 = 1) (kk : V p l e R s m args below meth c nL cy D ad A kc ks Q (pc + 1) lv (.int (i32 8) :: st) (M)) : V p l e R s m args below meth c nL cy D ad A kc ks Q pc lv (.ref (ad 16 2 0) :: st) (M) := r_alen F d (dm16 hs) (x := (8, .inl (fun j => i32 (M 2 2 (j : Int))))) rfl (tq := 0) rfl kk
theorem ig_17 {own : String} (F : Fx p s m args meth c own cc nL ret cy D ad A) {a : Int} (d : decode cc pc = .ok (.iaload, 1)) (hs : ad 40 13 0 = 1) (h1 : 0 ≤ a) (h2 : a < 8) (kk : V p l e R s m args below meth c nL cy D ad A kc ks Q (pc + 1) lv (.int (i32 (M 2 3 a)) :: st) (M)) : V p l e R s m args below meth c nL cy D ad A kc ks Q pc lv (.int (i32 a) :: .ref (ad 17 2 0) :: st) (M) := r_iald F d (dm17 hs) (n := 8) (f := fun j => i32 (M 2 3 (j : Int))) rfl h1 h2 (by decide) (by show i32 (M 2 3 ((a.toNat : Nat) : Int)) = _; rw [Int.toNat_of_nonneg h1]) kk
theorem ia_17 {own : String} (F : Fx p s m args meth c own cc nL ret cy D ad A) {a : Int} (d : decode cc pc = .ok (.iaload, 1)) (hs : ad 40 13 0 = 1) (h1 : 0 ≤ a) (h2 : a < 8) (kk : V p l e R s m args below meth c nL cy D ad A kc ks Q (pc + 1) lv (.int (i32 (S 3 a)) :: st) (setc M 2 S)) : V p l e R s m args below meth c nL cy D ad A kc ks Q pc lv (.int (i32 a) :: .ref (ad 17 2 0) :: st) (setc M 2 S) := ig_17 F d hs h1 h2 (by rw [setc_at]; exact kk)
theorem is_17 {own : String} (F : Fx p s m args meth c own cc nL ret cy D ad A) {a v : Int} (d : decode cc pc = .ok (.iastore, 1)) (hs : ad 40 13 0 = 1) (h1 : 0 ≤ a) (h2 : a < 8) (kk : V p l e R s m args below meth c nL cy D ad A kc ks Q (pc + 1) lv st (setc M 2 (u2 S 3 a v))) : V p l e R s m args below meth c nL cy D ad A kc ks Q pc lv (.int (i32 v) :: .int (i32 a) :: .ref (ad 17 2 0) :: st) (setc M 2 S) := by
  refine r_iast F d (dm17 hs) (n := 8) (f := fun j => i32 (S 3 (j : Int))) (by simp only [cel, setc_at]) h1 h2 (by decide) ?_ (oth (by simp [owner])) kk
  simp only [cel, setc_at]
  congr 4
  funext j
  unfold u2 upd
  by_cases hj : j = a.toNat
  · rw [if_pos hj, if_pos ⟨rfl, by omega⟩]
  · rw [if_neg hj, if_neg (fun h => hj (by have := h.2; omega))]
theorem al_17 {own : String} (F : Fx p s m args meth c own cc nL ret cy D ad A) (d : decode cc pc = .ok (.arraylength, 1)) (hs : ad 40 13 0 = 1) (kk : V p l e R s m args below meth c nL cy D ad A kc ks Q (pc + 1) lv (.int (i32 8) :: st) (M)) : V p l e R s m args below meth c nL cy D ad A kc ks Q pc lv (.ref (ad 17 2 0) :: st) (M) := r_alen F d (dm17 hs) (x := (8, .inl (fun j => i32 (M 2 3 (j : Int))))) rfl (tq := 0) rfl kk
theorem aa_18 {own : String} (F : Fx p s m args meth c own cc nL ret cy D ad A) {a : Int} (d : decode cc pc = .ok (.aaload, 1)) (hs : ad 40 13 0 = 1) (h1 : 0 ≤ a) (h2 : a < (ad 41 18 0 : Int)) (h3 : (ad 41 18 0 : Int) < 2147483648) (kk : V p l e R s m args below meth c nL cy D ad A kc ks Q (pc + 1) lv (.ref (ad 21 2 a) :: st) (M)) : V p l e R s m args below meth c nL cy D ad A kc ks Q pc lv (.int (i32 a) :: .ref (ad 18 2 0) :: st) (M) := r_aaldA F d (dm18 hs) (n := ad 41 18 0) (tq := 1) (f := fun j => some (ad 21 2 (j : Int))) rfl rfl h1 h2 (by omega) (by show some (ad 21 2 ((a.toNat : Nat) : Int)) = _; rw [Int.toNat_of_nonneg h1]) kk
theorem al_18 {own : String} (F : Fx p s m args meth c own cc nL ret cy D ad A) {v : Int} (d : decode cc pc = .ok (.arraylength, 1)) (hs : ad 40 13 0 = 1) (hv : (ad 41 18 0 : Int) = v) (kk : V p l e R s m args below meth c nL cy D ad A kc ks Q (pc + 1) lv (.int (i32 v) :: st) (M)) : V p l e R s m args below meth c nL cy D ad A kc ks Q pc lv (.ref (ad 18 2 0) :: st) (M) := r_alen F d (dm18 hs) (x := (ad 41 18 0, .inr (.inr (.inr (.inr (fun j => some (ad 21 2 (j : Int)))))))) rfl (tq := 1) rfl (by subst hv; exact kk)
theorem aa_19 {own : String} (F : Fx p s m args meth c own cc nL ret cy D ad A) {a : Int} (d : decode cc pc = .ok (.aaload, 1)) (hs : ad 40 13 0 = 1) (h1 : 0 ≤ a) (h2 : a < (ad 41 19 0 : Int)) (h3 : (ad 41 19 0 : Int) < 2147483648) (kk : V p l e R s m args below meth c nL cy D ad A kc ks Q (pc + 1) lv (.ref (ad 22 2 a) :: st) (M)) : V p l e R s m args below meth c nL cy D ad A kc ks Q pc lv (.int (i32 a) :: .ref (ad 19 2 0) :: st) (M) := r_aaldA F d (dm19 hs) (n := ad 41 19 0) (tq := 1) (f := fun j => some (ad 22 2 (j : Int))) rfl rfl h1 h2 (by omega) (by show some (ad 22 2 ((a.toNat : Nat) : Int)) = _; rw [Int.toNat_of_nonneg h1]) kk
theorem al_19 {own : String} (F : Fx p s m args meth c own cc nL ret cy D ad A) {v : Int} (d : decode cc pc = .ok (.arraylength, 1)) (hs : ad 40 13 0 = 1) (hv : (ad 41 19 0 : Int) = v) (kk : V p l e R s m args below meth c nL cy D ad A kc ks Q (pc + 1) lv (.int (i32 v) :: st) (M)) : V p l e R s m args below meth c nL cy D ad A kc ks Q pc lv (.ref (ad 19 2 0) :: st) (M) := r_alen F d (dm19 hs) (x := (ad 41 19 0, .inr (.inr (.inr (.inr (fun j => some (ad 22 2 (j : Int)))))))) rfl (tq := 1) rfl (by subst hv; exact kk)
theorem aa_20 {own : String} (F : Fx p s m args meth c own cc nL ret cy D ad A) {a : Int} (d : decode cc pc = .ok (.aaload, 1)) (hs : ad 40 13 0 = 1) (h1 : 0 ≤ a) (h2 : a < (ad 41 20 0 : Int)) (h3 : (ad 41 20 0 : Int) < 2147483648) (kk : V p l e R s m args below meth c nL cy D ad A kc ks Q (pc + 1) lv (.ref (ad 23 2 a) :: st) (M)) : V p l e R s m args below meth c nL cy D ad A kc ks Q pc lv (.int (i32 a) :: .ref (ad 20 2 0) :: st) (M) := r_aaldA F d (dm20 hs) (n := ad 41 20 0) (tq := 1) (f := fun j => some (ad 23 2 (j : Int))) rfl rfl h1 h2 (by omega) (by show some (ad 23 2 ((a.toNat : Nat) : Int)) = _; rw [Int.toNat_of_nonneg h1]) kk
theorem al_20 {own : String} (F : Fx p s m args meth c own cc nL ret cy D ad A) {v : Int} (d : decode cc pc = .ok (.arraylength, 1)) (hs : ad 40 13 0 = 1) (hv : (ad 41 20 0 : Int) = v) (kk : V p l e R s m args below meth c nL cy D ad A kc ks Q (pc + 1) lv (.int (i32 v) :: st) (M)) : V p l e R s m args below meth c nL cy D ad A kc ks Q pc lv (.ref (ad 20 2 0) :: st) (M) := r_alen F d (dm20 hs) (x := (ad 41 20 0, .inr (.inr (.inr (.inr (fun j => some (ad 23 2 (j : Int)))))))) rfl (tq := 1) rfl (by subst hv; exact kk)
theorem ia_21_0 {own : String} (F : Fx p s m args meth c own cc nL ret cy D ad A)  (d : decode cc pc = .ok (.iaload, 1)) (hs : ad 40 13 0 = 1) (h3 : 0 ≤ i) (h4 : i < 5) (h5 : i < (ad 41 18 0 : Int)) (kk : V p l e R s m args below meth c nL cy D ad A kc ks Q (pc + 1) lv (.int (i32 (S 4 i)) :: st) (setc M 2 S)) : V p l e R s m args below meth c nL cy D ad A kc ks Q pc lv (.int (i32 0) :: .ref (ad 21 2 i) :: st) (setc M 2 S) := by
  refine r_iald F d (dm21 hs h3 h4 h5) (n := 12) (f := fun j => i32 (lanV (setc M 2 S) 2 i j)) rfl (by omega) (by omega) (by decide) (v := S 4 i) ?_ kk
  show i32 (lanV (setc M 2 S) 2 i 0) = _; unfold lanV; rw [if_pos rfl, setc_at]
theorem ia_21_11 {own : String} (F : Fx p s m args meth c own cc nL ret cy D ad A)  (d : decode cc pc = .ok (.iaload, 1)) (hs : ad 40 13 0 = 1) (h3 : 0 ≤ i) (h4 : i < 5) (h5 : i < (ad 41 18 0 : Int)) (kk : V p l e R s m args below meth c nL cy D ad A kc ks Q (pc + 1) lv (.int (i32 (S 6 i)) :: st) (setc M 2 S)) : V p l e R s m args below meth c nL cy D ad A kc ks Q pc lv (.int (i32 11) :: .ref (ad 21 2 i) :: st) (setc M 2 S) := by
  refine r_iald F d (dm21 hs h3 h4 h5) (n := 12) (f := fun j => i32 (lanV (setc M 2 S) 2 i j)) rfl (by omega) (by omega) (by decide) (v := S 6 i) ?_ kk
  show i32 (lanV (setc M 2 S) 2 i 11) = _; unfold lanV; rw [if_neg (by decide), if_neg (by decide), if_pos rfl, setc_at]
theorem ia_21_t {own : String} (F : Fx p s m args meth c own cc nL ret cy D ad A) {a : Int} (ha : 0 ≤ a ∧ a < 10) (d : decode cc pc = .ok (.iaload, 1)) (hs : ad 40 13 0 = 1) (h3 : 0 ≤ i) (h4 : i < 5) (h5 : i < (ad 41 18 0 : Int)) (kk : V p l e R s m args below meth c nL cy D ad A kc ks Q (pc + 1) lv (.int (i32 (S 5 (10 * i + a))) :: st) (setc M 2 S)) : V p l e R s m args below meth c nL cy D ad A kc ks Q pc lv (.int (i32 (1 + a)) :: .ref (ad 21 2 i) :: st) (setc M 2 S) := by
  refine r_iald F d (dm21 hs h3 h4 h5) (n := 12) (f := fun j => i32 (lanV (setc M 2 S) 2 i j)) rfl (by omega) (by omega) (by decide) (v := S 5 (10 * i + a)) ?_ kk
  show i32 (lanV (setc M 2 S) 2 i (1 + a).toNat) = _; unfold lanV; rw [if_neg (by omega), if_pos (by omega), setc_at, show (((1 + a).toNat : Nat) : Int) - 1 = a by omega]
theorem ia_22_0 {own : String} (F : Fx p s m args meth c own cc nL ret cy D ad A)  (d : decode cc pc = .ok (.iaload, 1)) (hs : ad 40 13 0 = 1) (h3 : 0 ≤ i) (h4 : i < 4) (h5 : i < (ad 41 19 0 : Int)) (kk : V p l e R s m args below meth c nL cy D ad A kc ks Q (pc + 1) lv (.int (i32 (S 7 i)) :: st) (setc M 2 S)) : V p l e R s m args below meth c nL cy D ad A kc ks Q pc lv (.int (i32 0) :: .ref (ad 22 2 i) :: st) (setc M 2 S) := by
  refine r_iald F d (dm22 hs h3 h4 h5) (n := 6) (f := fun j => i32 (watV (setc M 2 S) 2 i j)) rfl (by omega) (by omega) (by decide) (v := S 7 i) ?_ kk
  show i32 (watV (setc M 2 S) 2 i 0) = _; unfold watV; rw [if_pos (by decide), setc_at]
theorem ia_22_1 {own : String} (F : Fx p s m args meth c own cc nL ret cy D ad A)  (d : decode cc pc = .ok (.iaload, 1)) (hs : ad 40 13 0 = 1) (h3 : 0 ≤ i) (h4 : i < 4) (h5 : i < (ad 41 19 0 : Int)) (kk : V p l e R s m args below meth c nL cy D ad A kc ks Q (pc + 1) lv (.int (i32 (S 8 i)) :: st) (setc M 2 S)) : V p l e R s m args below meth c nL cy D ad A kc ks Q pc lv (.int (i32 1) :: .ref (ad 22 2 i) :: st) (setc M 2 S) := by
  refine r_iald F d (dm22 hs h3 h4 h5) (n := 6) (f := fun j => i32 (watV (setc M 2 S) 2 i j)) rfl (by omega) (by omega) (by decide) (v := S 8 i) ?_ kk
  show i32 (watV (setc M 2 S) 2 i 1) = _; unfold watV; rw [if_pos (by decide), setc_at]
theorem ia_22_2 {own : String} (F : Fx p s m args meth c own cc nL ret cy D ad A)  (d : decode cc pc = .ok (.iaload, 1)) (hs : ad 40 13 0 = 1) (h3 : 0 ≤ i) (h4 : i < 4) (h5 : i < (ad 41 19 0 : Int)) (kk : V p l e R s m args below meth c nL cy D ad A kc ks Q (pc + 1) lv (.int (i32 (S 9 i)) :: st) (setc M 2 S)) : V p l e R s m args below meth c nL cy D ad A kc ks Q pc lv (.int (i32 2) :: .ref (ad 22 2 i) :: st) (setc M 2 S) := by
  refine r_iald F d (dm22 hs h3 h4 h5) (n := 6) (f := fun j => i32 (watV (setc M 2 S) 2 i j)) rfl (by omega) (by omega) (by decide) (v := S 9 i) ?_ kk
  show i32 (watV (setc M 2 S) 2 i 2) = _; unfold watV; rw [if_pos (by decide), setc_at]
theorem ia_22_3 {own : String} (F : Fx p s m args meth c own cc nL ret cy D ad A)  (d : decode cc pc = .ok (.iaload, 1)) (hs : ad 40 13 0 = 1) (h3 : 0 ≤ i) (h4 : i < 4) (h5 : i < (ad 41 19 0 : Int)) (kk : V p l e R s m args below meth c nL cy D ad A kc ks Q (pc + 1) lv (.int (i32 (S 10 i)) :: st) (setc M 2 S)) : V p l e R s m args below meth c nL cy D ad A kc ks Q pc lv (.int (i32 3) :: .ref (ad 22 2 i) :: st) (setc M 2 S) := by
  refine r_iald F d (dm22 hs h3 h4 h5) (n := 6) (f := fun j => i32 (watV (setc M 2 S) 2 i j)) rfl (by omega) (by omega) (by decide) (v := S 10 i) ?_ kk
  show i32 (watV (setc M 2 S) 2 i 3) = _; unfold watV; rw [if_pos (by decide), setc_at]
theorem ia_22_4 {own : String} (F : Fx p s m args meth c own cc nL ret cy D ad A)  (d : decode cc pc = .ok (.iaload, 1)) (hs : ad 40 13 0 = 1) (h3 : 0 ≤ i) (h4 : i < 4) (h5 : i < (ad 41 19 0 : Int)) (kk : V p l e R s m args below meth c nL cy D ad A kc ks Q (pc + 1) lv (.int (i32 (S 11 i)) :: st) (setc M 2 S)) : V p l e R s m args below meth c nL cy D ad A kc ks Q pc lv (.int (i32 4) :: .ref (ad 22 2 i) :: st) (setc M 2 S) := by
  refine r_iald F d (dm22 hs h3 h4 h5) (n := 6) (f := fun j => i32 (watV (setc M 2 S) 2 i j)) rfl (by omega) (by omega) (by decide) (v := S 11 i) ?_ kk
  show i32 (watV (setc M 2 S) 2 i 4) = _; unfold watV; rw [if_pos (by decide), setc_at]
theorem ia_22_5 {own : String} (F : Fx p s m args meth c own cc nL ret cy D ad A)  (d : decode cc pc = .ok (.iaload, 1)) (hs : ad 40 13 0 = 1) (h3 : 0 ≤ i) (h4 : i < 4) (h5 : i < (ad 41 19 0 : Int)) (kk : V p l e R s m args below meth c nL cy D ad A kc ks Q (pc + 1) lv (.int (i32 (S 12 i)) :: st) (setc M 2 S)) : V p l e R s m args below meth c nL cy D ad A kc ks Q pc lv (.int (i32 5) :: .ref (ad 22 2 i) :: st) (setc M 2 S) := by
  refine r_iald F d (dm22 hs h3 h4 h5) (n := 6) (f := fun j => i32 (watV (setc M 2 S) 2 i j)) rfl (by omega) (by omega) (by decide) (v := S 12 i) ?_ kk
  show i32 (watV (setc M 2 S) 2 i 5) = _; unfold watV; rw [if_pos (by decide), setc_at]
theorem ia_23_0 {own : String} (F : Fx p s m args meth c own cc nL ret cy D ad A)  (d : decode cc pc = .ok (.iaload, 1)) (hs : ad 40 13 0 = 1) (h3 : 0 ≤ i) (h4 : i < 6) (h5 : i < (ad 41 20 0 : Int)) (kk : V p l e R s m args below meth c nL cy D ad A kc ks Q (pc + 1) lv (.int (i32 (S 13 i)) :: st) (setc M 2 S)) : V p l e R s m args below meth c nL cy D ad A kc ks Q pc lv (.int (i32 0) :: .ref (ad 23 2 i) :: st) (setc M 2 S) := by
  refine r_iald F d (dm23 hs h3 h4 h5) (n := 7) (f := fun j => i32 (boaV (setc M 2 S) 2 i j)) rfl (by omega) (by omega) (by decide) (v := S 13 i) ?_ kk
  show i32 (boaV (setc M 2 S) 2 i 0) = _; unfold boaV; rw [if_pos (by decide), setc_at]; rfl
theorem ia_23_1 {own : String} (F : Fx p s m args meth c own cc nL ret cy D ad A)  (d : decode cc pc = .ok (.iaload, 1)) (hs : ad 40 13 0 = 1) (h3 : 0 ≤ i) (h4 : i < 6) (h5 : i < (ad 41 20 0 : Int)) (kk : V p l e R s m args below meth c nL cy D ad A kc ks Q (pc + 1) lv (.int (i32 (S 14 i)) :: st) (setc M 2 S)) : V p l e R s m args below meth c nL cy D ad A kc ks Q pc lv (.int (i32 1) :: .ref (ad 23 2 i) :: st) (setc M 2 S) := by
  refine r_iald F d (dm23 hs h3 h4 h5) (n := 7) (f := fun j => i32 (boaV (setc M 2 S) 2 i j)) rfl (by omega) (by omega) (by decide) (v := S 14 i) ?_ kk
  show i32 (boaV (setc M 2 S) 2 i 1) = _; unfold boaV; rw [if_pos (by decide), setc_at]; rfl
theorem ia_23_2 {own : String} (F : Fx p s m args meth c own cc nL ret cy D ad A)  (d : decode cc pc = .ok (.iaload, 1)) (hs : ad 40 13 0 = 1) (h3 : 0 ≤ i) (h4 : i < 6) (h5 : i < (ad 41 20 0 : Int)) (kk : V p l e R s m args below meth c nL cy D ad A kc ks Q (pc + 1) lv (.int (i32 (S 15 i)) :: st) (setc M 2 S)) : V p l e R s m args below meth c nL cy D ad A kc ks Q pc lv (.int (i32 2) :: .ref (ad 23 2 i) :: st) (setc M 2 S) := by
  refine r_iald F d (dm23 hs h3 h4 h5) (n := 7) (f := fun j => i32 (boaV (setc M 2 S) 2 i j)) rfl (by omega) (by omega) (by decide) (v := S 15 i) ?_ kk
  show i32 (boaV (setc M 2 S) 2 i 2) = _; unfold boaV; rw [if_pos (by decide), setc_at]; rfl
theorem ia_23_3 {own : String} (F : Fx p s m args meth c own cc nL ret cy D ad A)  (d : decode cc pc = .ok (.iaload, 1)) (hs : ad 40 13 0 = 1) (h3 : 0 ≤ i) (h4 : i < 6) (h5 : i < (ad 41 20 0 : Int)) (kk : V p l e R s m args below meth c nL cy D ad A kc ks Q (pc + 1) lv (.int (i32 (fm (S 18 i))) :: st) (setc M 2 S)) : V p l e R s m args below meth c nL cy D ad A kc ks Q pc lv (.int (i32 3) :: .ref (ad 23 2 i) :: st) (setc M 2 S) := by
  refine r_iald F d (dm23 hs h3 h4 h5) (n := 7) (f := fun j => i32 (boaV (setc M 2 S) 2 i j)) rfl (by omega) (by omega) (by decide) (v := fm (S 18 i)) ?_ kk
  show i32 (boaV (setc M 2 S) 2 i 3) = _; unfold boaV; rw [if_pos (by decide), setc_at]; rfl
theorem ia_23_4 {own : String} (F : Fx p s m args meth c own cc nL ret cy D ad A)  (d : decode cc pc = .ok (.iaload, 1)) (hs : ad 40 13 0 = 1) (h3 : 0 ≤ i) (h4 : i < 6) (h5 : i < (ad 41 20 0 : Int)) (kk : V p l e R s m args below meth c nL cy D ad A kc ks Q (pc + 1) lv (.int (i32 (S 19 i)) :: st) (setc M 2 S)) : V p l e R s m args below meth c nL cy D ad A kc ks Q pc lv (.int (i32 4) :: .ref (ad 23 2 i) :: st) (setc M 2 S) := by
  refine r_iald F d (dm23 hs h3 h4 h5) (n := 7) (f := fun j => i32 (boaV (setc M 2 S) 2 i j)) rfl (by omega) (by omega) (by decide) (v := S 19 i) ?_ kk
  show i32 (boaV (setc M 2 S) 2 i 4) = _; unfold boaV; rw [if_pos (by decide), setc_at]; rfl
theorem ia_23_5 {own : String} (F : Fx p s m args meth c own cc nL ret cy D ad A)  (d : decode cc pc = .ok (.iaload, 1)) (hs : ad 40 13 0 = 1) (h3 : 0 ≤ i) (h4 : i < 6) (h5 : i < (ad 41 20 0 : Int)) (kk : V p l e R s m args below meth c nL cy D ad A kc ks Q (pc + 1) lv (.int (i32 (S 16 i)) :: st) (setc M 2 S)) : V p l e R s m args below meth c nL cy D ad A kc ks Q pc lv (.int (i32 5) :: .ref (ad 23 2 i) :: st) (setc M 2 S) := by
  refine r_iald F d (dm23 hs h3 h4 h5) (n := 7) (f := fun j => i32 (boaV (setc M 2 S) 2 i j)) rfl (by omega) (by omega) (by decide) (v := S 16 i) ?_ kk
  show i32 (boaV (setc M 2 S) 2 i 5) = _; unfold boaV; rw [if_pos (by decide), setc_at]; rfl
theorem ia_23_6 {own : String} (F : Fx p s m args meth c own cc nL ret cy D ad A)  (d : decode cc pc = .ok (.iaload, 1)) (hs : ad 40 13 0 = 1) (h3 : 0 ≤ i) (h4 : i < 6) (h5 : i < (ad 41 20 0 : Int)) (kk : V p l e R s m args below meth c nL cy D ad A kc ks Q (pc + 1) lv (.int (i32 (S 17 i)) :: st) (setc M 2 S)) : V p l e R s m args below meth c nL cy D ad A kc ks Q pc lv (.int (i32 6) :: .ref (ad 23 2 i) :: st) (setc M 2 S) := by
  refine r_iald F d (dm23 hs h3 h4 h5) (n := 7) (f := fun j => i32 (boaV (setc M 2 S) 2 i j)) rfl (by omega) (by omega) (by decide) (v := S 17 i) ?_ kk
  show i32 (boaV (setc M 2 S) 2 i 6) = _; unfold boaV; rw [if_pos (by decide), setc_at]; rfl
theorem is_21_11 {own : String} (F : Fx p s m args meth c own cc nL ret cy D ad A) {v : Int}  (d : decode cc pc = .ok (.iastore, 1)) (hs : ad 40 13 0 = 1) (h3 : 0 ≤ i) (h4 : i < 5) (h5 : i < (ad 41 18 0 : Int)) (kk : V p l e R s m args below meth c nL cy D ad A kc ks Q (pc + 1) lv st (setc M 2 (u2 S 6 i v))) : V p l e R s m args below meth c nL cy D ad A kc ks Q pc lv (.int (i32 v) :: .int (i32 11) :: .ref (ad 21 2 i) :: st) (setc M 2 S) := by
  refine r_iast F d (dm21 hs h3 h4 h5) (n := 12) (f := fun j => i32 (lanV (setc M 2 S) 2 i j)) rfl (by omega) (by omega) (by decide) ?_ (oth (by simp [owner])) kk
  simp only [cel]
  congr 4
  funext j
  unfold upd
  by_cases hj : j = (11 : Int).toNat
  · rw [if_pos hj]
    unfold lanV
    rw [if_neg (by omega), if_neg (by omega), if_pos (by omega), setc_at, u2_at]
  · rw [if_neg hj]
    dsimp only
    unfold lanV
    simp only [setc_at]
    by_cases h0 : j = 0
    · rw [if_pos h0, if_pos h0, u2_k (by decide)]
    · rw [if_neg h0, if_neg h0]
      by_cases h1 : j < 11
      · rw [if_pos h1, if_pos h1, u2_k (by decide)]
      · rw [if_neg h1, if_neg h1, if_neg (by omega), if_neg (by omega)]
theorem is_21_t {own : String} (F : Fx p s m args meth c own cc nL ret cy D ad A) {v : Int} {a : Int} (ha : 0 ≤ a ∧ a < 10) (d : decode cc pc = .ok (.iastore, 1)) (hs : ad 40 13 0 = 1) (h3 : 0 ≤ i) (h4 : i < 5) (h5 : i < (ad 41 18 0 : Int)) (kk : V p l e R s m args below meth c nL cy D ad A kc ks Q (pc + 1) lv st (setc M 2 (u2 S 5 (10 * i + a) v))) : V p l e R s m args below meth c nL cy D ad A kc ks Q pc lv (.int (i32 v) :: .int (i32 (1 + a)) :: .ref (ad 21 2 i) :: st) (setc M 2 S) := by
  refine r_iast F d (dm21 hs h3 h4 h5) (n := 12) (f := fun j => i32 (lanV (setc M 2 S) 2 i j)) rfl (by omega) (by omega) (by decide) ?_ (oth (by simp [owner]; omega)) kk
  simp only [cel]
  congr 4
  funext j
  unfold upd
  by_cases hj : j = (1 + a).toNat
  · rw [if_pos hj]
    unfold lanV
    rw [if_neg (by omega), if_pos (by omega), setc_at, show 10 * i + ((j : Int) - 1) = 10 * i + a by omega, u2_at]
  · rw [if_neg hj]
    dsimp only
    unfold lanV
    simp only [setc_at]
    by_cases h0 : j = 0
    · rw [if_pos h0, if_pos h0, u2_k (by decide)]
    · rw [if_neg h0, if_neg h0]
      by_cases h1 : j < 11
      · rw [if_pos h1, if_pos h1, u2_i (by omega)]
      · rw [if_neg h1, if_neg h1, u2_k (by decide)]
theorem is_22_0 {own : String} (F : Fx p s m args meth c own cc nL ret cy D ad A) {v : Int}  (d : decode cc pc = .ok (.iastore, 1)) (hs : ad 40 13 0 = 1) (h3 : 0 ≤ i) (h4 : i < 4) (h5 : i < (ad 41 19 0 : Int)) (kk : V p l e R s m args below meth c nL cy D ad A kc ks Q (pc + 1) lv st (setc M 2 (u2 S 7 i v))) : V p l e R s m args below meth c nL cy D ad A kc ks Q pc lv (.int (i32 v) :: .int (i32 0) :: .ref (ad 22 2 i) :: st) (setc M 2 S) := by
  refine r_iast F d (dm22 hs h3 h4 h5) (n := 6) (f := fun j => i32 (watV (setc M 2 S) 2 i j)) rfl (by omega) (by omega) (by decide) ?_ (oth (by simp [owner])) kk
  simp only [cel]
  congr 4
  funext j
  unfold upd
  by_cases hj : j = (0 : Int).toNat
  · rw [if_pos hj]
    unfold watV
    rw [if_pos (by omega), setc_at, show 7 + j = 7 by omega, u2_at]
  · rw [if_neg hj]
    dsimp only
    unfold watV
    simp only [setc_at]
    by_cases h0 : j < 6
    · rw [if_pos h0, if_pos h0, u2_k (by omega)]
    · rw [if_neg h0, if_neg h0]
theorem is_22_1 {own : String} (F : Fx p s m args meth c own cc nL ret cy D ad A) {v : Int}  (d : decode cc pc = .ok (.iastore, 1)) (hs : ad 40 13 0 = 1) (h3 : 0 ≤ i) (h4 : i < 4) (h5 : i < (ad 41 19 0 : Int)) (kk : V p l e R s m args below meth c nL cy D ad A kc ks Q (pc + 1) lv st (setc M 2 (u2 S 8 i v))) : V p l e R s m args below meth c nL cy D ad A kc ks Q pc lv (.int (i32 v) :: .int (i32 1) :: .ref (ad 22 2 i) :: st) (setc M 2 S) := by
  refine r_iast F d (dm22 hs h3 h4 h5) (n := 6) (f := fun j => i32 (watV (setc M 2 S) 2 i j)) rfl (by omega) (by omega) (by decide) ?_ (oth (by simp [owner])) kk
  simp only [cel]
  congr 4
  funext j
  unfold upd
  by_cases hj : j = (1 : Int).toNat
  · rw [if_pos hj]
    unfold watV
    rw [if_pos (by omega), setc_at, show 7 + j = 8 by omega, u2_at]
  · rw [if_neg hj]
    dsimp only
    unfold watV
    simp only [setc_at]
    by_cases h0 : j < 6
    · rw [if_pos h0, if_pos h0, u2_k (by omega)]
    · rw [if_neg h0, if_neg h0]
theorem is_22_2 {own : String} (F : Fx p s m args meth c own cc nL ret cy D ad A) {v : Int}  (d : decode cc pc = .ok (.iastore, 1)) (hs : ad 40 13 0 = 1) (h3 : 0 ≤ i) (h4 : i < 4) (h5 : i < (ad 41 19 0 : Int)) (kk : V p l e R s m args below meth c nL cy D ad A kc ks Q (pc + 1) lv st (setc M 2 (u2 S 9 i v))) : V p l e R s m args below meth c nL cy D ad A kc ks Q pc lv (.int (i32 v) :: .int (i32 2) :: .ref (ad 22 2 i) :: st) (setc M 2 S) := by
  refine r_iast F d (dm22 hs h3 h4 h5) (n := 6) (f := fun j => i32 (watV (setc M 2 S) 2 i j)) rfl (by omega) (by omega) (by decide) ?_ (oth (by simp [owner])) kk
  simp only [cel]
  congr 4
  funext j
  unfold upd
  by_cases hj : j = (2 : Int).toNat
  · rw [if_pos hj]
    unfold watV
    rw [if_pos (by omega), setc_at, show 7 + j = 9 by omega, u2_at]
  · rw [if_neg hj]
    dsimp only
    unfold watV
    simp only [setc_at]
    by_cases h0 : j < 6
    · rw [if_pos h0, if_pos h0, u2_k (by omega)]
    · rw [if_neg h0, if_neg h0]
theorem is_22_3 {own : String} (F : Fx p s m args meth c own cc nL ret cy D ad A) {v : Int}  (d : decode cc pc = .ok (.iastore, 1)) (hs : ad 40 13 0 = 1) (h3 : 0 ≤ i) (h4 : i < 4) (h5 : i < (ad 41 19 0 : Int)) (kk : V p l e R s m args below meth c nL cy D ad A kc ks Q (pc + 1) lv st (setc M 2 (u2 S 10 i v))) : V p l e R s m args below meth c nL cy D ad A kc ks Q pc lv (.int (i32 v) :: .int (i32 3) :: .ref (ad 22 2 i) :: st) (setc M 2 S) := by
  refine r_iast F d (dm22 hs h3 h4 h5) (n := 6) (f := fun j => i32 (watV (setc M 2 S) 2 i j)) rfl (by omega) (by omega) (by decide) ?_ (oth (by simp [owner])) kk
  simp only [cel]
  congr 4
  funext j
  unfold upd
  by_cases hj : j = (3 : Int).toNat
  · rw [if_pos hj]
    unfold watV
    rw [if_pos (by omega), setc_at, show 7 + j = 10 by omega, u2_at]
  · rw [if_neg hj]
    dsimp only
    unfold watV
    simp only [setc_at]
    by_cases h0 : j < 6
    · rw [if_pos h0, if_pos h0, u2_k (by omega)]
    · rw [if_neg h0, if_neg h0]
theorem is_22_4 {own : String} (F : Fx p s m args meth c own cc nL ret cy D ad A) {v : Int}  (d : decode cc pc = .ok (.iastore, 1)) (hs : ad 40 13 0 = 1) (h3 : 0 ≤ i) (h4 : i < 4) (h5 : i < (ad 41 19 0 : Int)) (kk : V p l e R s m args below meth c nL cy D ad A kc ks Q (pc + 1) lv st (setc M 2 (u2 S 11 i v))) : V p l e R s m args below meth c nL cy D ad A kc ks Q pc lv (.int (i32 v) :: .int (i32 4) :: .ref (ad 22 2 i) :: st) (setc M 2 S) := by
  refine r_iast F d (dm22 hs h3 h4 h5) (n := 6) (f := fun j => i32 (watV (setc M 2 S) 2 i j)) rfl (by omega) (by omega) (by decide) ?_ (oth (by simp [owner])) kk
  simp only [cel]
  congr 4
  funext j
  unfold upd
  by_cases hj : j = (4 : Int).toNat
  · rw [if_pos hj]
    unfold watV
    rw [if_pos (by omega), setc_at, show 7 + j = 11 by omega, u2_at]
  · rw [if_neg hj]
    dsimp only
    unfold watV
    simp only [setc_at]
    by_cases h0 : j < 6
    · rw [if_pos h0, if_pos h0, u2_k (by omega)]
    · rw [if_neg h0, if_neg h0]
theorem is_22_5 {own : String} (F : Fx p s m args meth c own cc nL ret cy D ad A) {v : Int}  (d : decode cc pc = .ok (.iastore, 1)) (hs : ad 40 13 0 = 1) (h3 : 0 ≤ i) (h4 : i < 4) (h5 : i < (ad 41 19 0 : Int)) (kk : V p l e R s m args below meth c nL cy D ad A kc ks Q (pc + 1) lv st (setc M 2 (u2 S 12 i v))) : V p l e R s m args below meth c nL cy D ad A kc ks Q pc lv (.int (i32 v) :: .int (i32 5) :: .ref (ad 22 2 i) :: st) (setc M 2 S) := by
  refine r_iast F d (dm22 hs h3 h4 h5) (n := 6) (f := fun j => i32 (watV (setc M 2 S) 2 i j)) rfl (by omega) (by omega) (by decide) ?_ (oth (by simp [owner])) kk
  simp only [cel]
  congr 4
  funext j
  unfold upd
  by_cases hj : j = (5 : Int).toNat
  · rw [if_pos hj]
    unfold watV
    rw [if_pos (by omega), setc_at, show 7 + j = 12 by omega, u2_at]
  · rw [if_neg hj]
    dsimp only
    unfold watV
    simp only [setc_at]
    by_cases h0 : j < 6
    · rw [if_pos h0, if_pos h0, u2_k (by omega)]
    · rw [if_neg h0, if_neg h0]
theorem is_23_0 {own : String} (F : Fx p s m args meth c own cc nL ret cy D ad A) {v : Int}  (d : decode cc pc = .ok (.iastore, 1)) (hs : ad 40 13 0 = 1) (h3 : 0 ≤ i) (h4 : i < 6) (h5 : i < (ad 41 20 0 : Int)) (kk : V p l e R s m args below meth c nL cy D ad A kc ks Q (pc + 1) lv st (setc M 2 (u2 S 13 i v))) : V p l e R s m args below meth c nL cy D ad A kc ks Q pc lv (.int (i32 v) :: .int (i32 0) :: .ref (ad 23 2 i) :: st) (setc M 2 S) := by
  refine r_iast F d (dm23 hs h3 h4 h5) (n := 7) (f := fun j => i32 (boaV (setc M 2 S) 2 i j)) rfl (by omega) (by omega) (by decide) ?_ (oth (by simp [owner])) kk
  simp only [cel]
  congr 4
  funext j
  unfold upd
  by_cases hj : j = (0 : Int).toNat
  · subst hj
    rw [if_pos rfl]
    show i32 (boaV _ 2 i 0) = i32 _
    unfold boaV
    rw [if_pos (by decide), setc_at]
    show i32 (bv 0 (u2 S 13 i v 13 i)) = i32 _
    rw [u2_at]
    rfl
  · rw [if_neg hj]
    dsimp only
    unfold boaV
    simp only [setc_at]
    by_cases h0 : j < 7
    · rw [if_pos h0, if_pos h0]
      have hne : bk j ≠ 13 := by
        have : j = 0 ∨ j = 1 ∨ j = 2 ∨ j = 3 ∨ j = 4 ∨ j = 5 ∨ j = 6 := by omega
        rcases this with rfl | rfl | rfl | rfl | rfl | rfl | rfl <;> first | decide | exact absurd rfl hj
      rw [u2_k hne]
    · rw [if_neg h0, if_neg h0]
theorem is_23_1 {own : String} (F : Fx p s m args meth c own cc nL ret cy D ad A) {v : Int}  (d : decode cc pc = .ok (.iastore, 1)) (hs : ad 40 13 0 = 1) (h3 : 0 ≤ i) (h4 : i < 6) (h5 : i < (ad 41 20 0 : Int)) (kk : V p l e R s m args below meth c nL cy D ad A kc ks Q (pc + 1) lv st (setc M 2 (u2 S 14 i v))) : V p l e R s m args below meth c nL cy D ad A kc ks Q pc lv (.int (i32 v) :: .int (i32 1) :: .ref (ad 23 2 i) :: st) (setc M 2 S) := by
  refine r_iast F d (dm23 hs h3 h4 h5) (n := 7) (f := fun j => i32 (boaV (setc M 2 S) 2 i j)) rfl (by omega) (by omega) (by decide) ?_ (oth (by simp [owner])) kk
  simp only [cel]
  congr 4
  funext j
  unfold upd
  by_cases hj : j = (1 : Int).toNat
  · subst hj
    rw [if_pos rfl]
    show i32 (boaV _ 2 i 1) = i32 _
    unfold boaV
    rw [if_pos (by decide), setc_at]
    show i32 (bv 1 (u2 S 14 i v 14 i)) = i32 _
    rw [u2_at]
    rfl
  · rw [if_neg hj]
    dsimp only
    unfold boaV
    simp only [setc_at]
    by_cases h0 : j < 7
    · rw [if_pos h0, if_pos h0]
      have hne : bk j ≠ 14 := by
        have : j = 0 ∨ j = 1 ∨ j = 2 ∨ j = 3 ∨ j = 4 ∨ j = 5 ∨ j = 6 := by omega
        rcases this with rfl | rfl | rfl | rfl | rfl | rfl | rfl <;> first | decide | exact absurd rfl hj
      rw [u2_k hne]
    · rw [if_neg h0, if_neg h0]
theorem is_23_2 {own : String} (F : Fx p s m args meth c own cc nL ret cy D ad A) {v : Int}  (d : decode cc pc = .ok (.iastore, 1)) (hs : ad 40 13 0 = 1) (h3 : 0 ≤ i) (h4 : i < 6) (h5 : i < (ad 41 20 0 : Int)) (kk : V p l e R s m args below meth c nL cy D ad A kc ks Q (pc + 1) lv st (setc M 2 (u2 S 15 i v))) : V p l e R s m args below meth c nL cy D ad A kc ks Q pc lv (.int (i32 v) :: .int (i32 2) :: .ref (ad 23 2 i) :: st) (setc M 2 S) := by
  refine r_iast F d (dm23 hs h3 h4 h5) (n := 7) (f := fun j => i32 (boaV (setc M 2 S) 2 i j)) rfl (by omega) (by omega) (by decide) ?_ (oth (by simp [owner])) kk
  simp only [cel]
  congr 4
  funext j
  unfold upd
  by_cases hj : j = (2 : Int).toNat
  · subst hj
    rw [if_pos rfl]
    show i32 (boaV _ 2 i 2) = i32 _
    unfold boaV
    rw [if_pos (by decide), setc_at]
    show i32 (bv 2 (u2 S 15 i v 15 i)) = i32 _
    rw [u2_at]
    rfl
  · rw [if_neg hj]
    dsimp only
    unfold boaV
    simp only [setc_at]
    by_cases h0 : j < 7
    · rw [if_pos h0, if_pos h0]
      have hne : bk j ≠ 15 := by
        have : j = 0 ∨ j = 1 ∨ j = 2 ∨ j = 3 ∨ j = 4 ∨ j = 5 ∨ j = 6 := by omega
        rcases this with rfl | rfl | rfl | rfl | rfl | rfl | rfl <;> first | decide | exact absurd rfl hj
      rw [u2_k hne]
    · rw [if_neg h0, if_neg h0]
theorem is_23_4 {own : String} (F : Fx p s m args meth c own cc nL ret cy D ad A) {v : Int}  (d : decode cc pc = .ok (.iastore, 1)) (hs : ad 40 13 0 = 1) (h3 : 0 ≤ i) (h4 : i < 6) (h5 : i < (ad 41 20 0 : Int)) (kk : V p l e R s m args below meth c nL cy D ad A kc ks Q (pc + 1) lv st (setc M 2 (u2 S 19 i v))) : V p l e R s m args below meth c nL cy D ad A kc ks Q pc lv (.int (i32 v) :: .int (i32 4) :: .ref (ad 23 2 i) :: st) (setc M 2 S) := by
  refine r_iast F d (dm23 hs h3 h4 h5) (n := 7) (f := fun j => i32 (boaV (setc M 2 S) 2 i j)) rfl (by omega) (by omega) (by decide) ?_ (oth (by simp [owner])) kk
  simp only [cel]
  congr 4
  funext j
  unfold upd
  by_cases hj : j = (4 : Int).toNat
  · subst hj
    rw [if_pos rfl]
    show i32 (boaV _ 2 i 4) = i32 _
    unfold boaV
    rw [if_pos (by decide), setc_at]
    show i32 (bv 4 (u2 S 19 i v 19 i)) = i32 _
    rw [u2_at]
    rfl
  · rw [if_neg hj]
    dsimp only
    unfold boaV
    simp only [setc_at]
    by_cases h0 : j < 7
    · rw [if_pos h0, if_pos h0]
      have hne : bk j ≠ 19 := by
        have : j = 0 ∨ j = 1 ∨ j = 2 ∨ j = 3 ∨ j = 4 ∨ j = 5 ∨ j = 6 := by omega
        rcases this with rfl | rfl | rfl | rfl | rfl | rfl | rfl <;> first | decide | exact absurd rfl hj
      rw [u2_k hne]
    · rw [if_neg h0, if_neg h0]
theorem is_23_5 {own : String} (F : Fx p s m args meth c own cc nL ret cy D ad A) {v : Int}  (d : decode cc pc = .ok (.iastore, 1)) (hs : ad 40 13 0 = 1) (h3 : 0 ≤ i) (h4 : i < 6) (h5 : i < (ad 41 20 0 : Int)) (kk : V p l e R s m args below meth c nL cy D ad A kc ks Q (pc + 1) lv st (setc M 2 (u2 S 16 i v))) : V p l e R s m args below meth c nL cy D ad A kc ks Q pc lv (.int (i32 v) :: .int (i32 5) :: .ref (ad 23 2 i) :: st) (setc M 2 S) := by
  refine r_iast F d (dm23 hs h3 h4 h5) (n := 7) (f := fun j => i32 (boaV (setc M 2 S) 2 i j)) rfl (by omega) (by omega) (by decide) ?_ (oth (by simp [owner])) kk
  simp only [cel]
  congr 4
  funext j
  unfold upd
  by_cases hj : j = (5 : Int).toNat
  · subst hj
    rw [if_pos rfl]
    show i32 (boaV _ 2 i 5) = i32 _
    unfold boaV
    rw [if_pos (by decide), setc_at]
    show i32 (bv 5 (u2 S 16 i v 16 i)) = i32 _
    rw [u2_at]
    rfl
  · rw [if_neg hj]
    dsimp only
    unfold boaV
    simp only [setc_at]
    by_cases h0 : j < 7
    · rw [if_pos h0, if_pos h0]
      have hne : bk j ≠ 16 := by
        have : j = 0 ∨ j = 1 ∨ j = 2 ∨ j = 3 ∨ j = 4 ∨ j = 5 ∨ j = 6 := by omega
        rcases this with rfl | rfl | rfl | rfl | rfl | rfl | rfl <;> first | decide | exact absurd rfl hj
      rw [u2_k hne]
    · rw [if_neg h0, if_neg h0]
theorem is_23_6 {own : String} (F : Fx p s m args meth c own cc nL ret cy D ad A) {v : Int}  (d : decode cc pc = .ok (.iastore, 1)) (hs : ad 40 13 0 = 1) (h3 : 0 ≤ i) (h4 : i < 6) (h5 : i < (ad 41 20 0 : Int)) (kk : V p l e R s m args below meth c nL cy D ad A kc ks Q (pc + 1) lv st (setc M 2 (u2 S 17 i v))) : V p l e R s m args below meth c nL cy D ad A kc ks Q pc lv (.int (i32 v) :: .int (i32 6) :: .ref (ad 23 2 i) :: st) (setc M 2 S) := by
  refine r_iast F d (dm23 hs h3 h4 h5) (n := 7) (f := fun j => i32 (boaV (setc M 2 S) 2 i j)) rfl (by omega) (by omega) (by decide) ?_ (oth (by simp [owner])) kk
  simp only [cel]
  congr 4
  funext j
  unfold upd
  by_cases hj : j = (6 : Int).toNat
  · subst hj
    rw [if_pos rfl]
    show i32 (boaV _ 2 i 6) = i32 _
    unfold boaV
    rw [if_pos (by decide), setc_at]
    show i32 (bv 6 (u2 S 17 i v 17 i)) = i32 _
    rw [u2_at]
    rfl
  · rw [if_neg hj]
    dsimp only
    unfold boaV
    simp only [setc_at]
    by_cases h0 : j < 7
    · rw [if_pos h0, if_pos h0]
      have hne : bk j ≠ 17 := by
        have : j = 0 ∨ j = 1 ∨ j = 2 ∨ j = 3 ∨ j = 4 ∨ j = 5 ∨ j = 6 := by omega
        rcases this with rfl | rfl | rfl | rfl | rfl | rfl | rfl <;> first | decide | exact absurd rfl hj
      rw [u2_k hne]
    · rw [if_neg h0, if_neg h0]
theorem is_23_3a {own : String} (F : Fx p s m args meth c own cc nL ret cy D ad A) {v : Int}  (d : decode cc pc = .ok (.iastore, 1)) (hs : ad 40 13 0 = 1) (h3 : 0 ≤ i) (h4 : i < 6) (h5 : i < (ad 41 20 0 : Int)) (kk : V p l e R s m args below meth c nL cy D ad A kc ks Q (pc + 1) lv st (setc M 2 (u2 S 18 i 1))) : V p l e R s m args below meth c nL cy D ad A kc ks Q pc lv (.int (i32 3) :: .int (i32 3) :: .ref (ad 23 2 i) :: st) (setc M 2 S) := by
  refine r_iast F d (dm23 hs h3 h4 h5) (n := 7) (f := fun j => i32 (boaV (setc M 2 S) 2 i j)) rfl (by omega) (by omega) (by decide) ?_ (oth (by simp [owner])) kk
  simp only [cel]
  congr 4
  funext j
  unfold upd
  by_cases hj : j = (3 : Int).toNat
  · subst hj
    rw [if_pos rfl]
    show i32 (boaV _ 2 i 3) = i32 _
    unfold boaV
    rw [if_pos (by decide), setc_at]
    show i32 (bv 3 (u2 S 18 i 1 18 i)) = i32 _
    rw [u2_at]
    rfl
  · rw [if_neg hj]
    dsimp only
    unfold boaV
    simp only [setc_at]
    by_cases h0 : j < 7
    · rw [if_pos h0, if_pos h0]
      have hne : bk j ≠ 18 := by
        have : j = 0 ∨ j = 1 ∨ j = 2 ∨ j = 3 ∨ j = 4 ∨ j = 5 ∨ j = 6 := by omega
        rcases this with rfl | rfl | rfl | rfl | rfl | rfl | rfl <;> first | decide | exact absurd rfl hj
      rw [u2_k hne]
    · rw [if_neg h0, if_neg h0]
theorem is_23_3b {own : String} (F : Fx p s m args meth c own cc nL ret cy D ad A) {v : Int}  (d : decode cc pc = .ok (.iastore, 1)) (hs : ad 40 13 0 = 1) (h3 : 0 ≤ i) (h4 : i < 6) (h5 : i < (ad 41 20 0 : Int)) (kk : V p l e R s m args below meth c nL cy D ad A kc ks Q (pc + 1) lv st (setc M 2 (u2 S 18 i 2))) : V p l e R s m args below meth c nL cy D ad A kc ks Q pc lv (.int (i32 4) :: .int (i32 3) :: .ref (ad 23 2 i) :: st) (setc M 2 S) := by
  refine r_iast F d (dm23 hs h3 h4 h5) (n := 7) (f := fun j => i32 (boaV (setc M 2 S) 2 i j)) rfl (by omega) (by omega) (by decide) ?_ (oth (by simp [owner])) kk
  simp only [cel]
  congr 4
  funext j
  unfold upd
  by_cases hj : j = (3 : Int).toNat
  · subst hj
    rw [if_pos rfl]
    show i32 (boaV _ 2 i 3) = i32 _
    unfold boaV
    rw [if_pos (by decide), setc_at]
    show i32 (bv 3 (u2 S 18 i 2 18 i)) = i32 _
    rw [u2_at]
    rfl
  · rw [if_neg hj]
    dsimp only
    unfold boaV
    simp only [setc_at]
    by_cases h0 : j < 7
    · rw [if_pos h0, if_pos h0]
      have hne : bk j ≠ 18 := by
        have : j = 0 ∨ j = 1 ∨ j = 2 ∨ j = 3 ∨ j = 4 ∨ j = 5 ∨ j = 6 := by omega
        rcases this with rfl | rfl | rfl | rfl | rfl | rfl | rfl <;> first | decide | exact absurd rfl hj
      rw [u2_k hne]
    · rw [if_neg h0, if_neg h0]
theorem ig_24 {own : String} (F : Fx p s m args meth c own cc nL ret cy D ad A) {a : Int} (d : decode cc pc = .ok (.iaload, 1)) (hs : ad 40 24 0 = 1) (h1 : 0 ≤ a) (h2 : a < (ad 41 24 0 : Int)) (h3 : (ad 41 24 0 : Int) < 2147483648) (kk : V p l e R s m args below meth c nL cy D ad A kc ks Q (pc + 1) lv (.int (i32 (M 4 0 a)) :: st) (M)) : V p l e R s m args below meth c nL cy D ad A kc ks Q pc lv (.int (i32 a) :: .ref (ad 24 2 0) :: st) (M) := r_iald F d (dm24 hs) (n := ad 41 24 0) (f := fun j => i32 (M 4 0 (j : Int))) rfl h1 h2 (by omega) (by show i32 (M 4 0 ((a.toNat : Nat) : Int)) = _; rw [Int.toNat_of_nonneg h1]) kk
theorem is_24 {own : String} (F : Fx p s m args meth c own cc nL ret cy D ad A) {a v : Int} (d : decode cc pc = .ok (.iastore, 1)) (hs : ad 40 24 0 = 1) (h1 : 0 ≤ a) (h2 : a < (ad 41 24 0 : Int)) (h3 : (ad 41 24 0 : Int) < 2147483648) (kk : V p l e R s m args below meth c nL cy D ad A kc ks Q (pc + 1) lv st (setc M 4 (u2 (M 4) 0 a v))) : V p l e R s m args below meth c nL cy D ad A kc ks Q pc lv (.int (i32 v) :: .int (i32 a) :: .ref (ad 24 2 0) :: st) (M) := by
  refine r_iast F d (dm24 hs) (n := ad 41 24 0) (f := fun j => i32 (M 4 0 (j : Int))) rfl h1 h2 (by omega) ?_ (oth0 (by simp [owner])) kk
  simp only [cel, setc_at]
  congr 4
  funext j
  unfold u2 upd
  by_cases hj : j = a.toNat
  · rw [if_pos hj, if_pos ⟨rfl, by omega⟩]
  · rw [if_neg hj, if_neg (fun h => hj (by have := h.2; omega))]
theorem ig_25 {own : String} (F : Fx p s m args meth c own cc nL ret cy D ad A) {a : Int} (d : decode cc pc = .ok (.iaload, 1)) (hs : ad 40 25 0 = 1) (h1 : 0 ≤ a) (h2 : a < (ad 41 25 0 : Int)) (h3 : (ad 41 25 0 : Int) < 2147483648) (kk : V p l e R s m args below meth c nL cy D ad A kc ks Q (pc + 1) lv (.int (i32 (M 4 1 a)) :: st) (M)) : V p l e R s m args below meth c nL cy D ad A kc ks Q pc lv (.int (i32 a) :: .ref (ad 25 2 0) :: st) (M) := r_iald F d (dm25 hs) (n := ad 41 25 0) (f := fun j => i32 (M 4 1 (j : Int))) rfl h1 h2 (by omega) (by show i32 (M 4 1 ((a.toNat : Nat) : Int)) = _; rw [Int.toNat_of_nonneg h1]) kk
theorem is_25 {own : String} (F : Fx p s m args meth c own cc nL ret cy D ad A) {a v : Int} (d : decode cc pc = .ok (.iastore, 1)) (hs : ad 40 25 0 = 1) (h1 : 0 ≤ a) (h2 : a < (ad 41 25 0 : Int)) (h3 : (ad 41 25 0 : Int) < 2147483648) (kk : V p l e R s m args below meth c nL cy D ad A kc ks Q (pc + 1) lv st (setc M 4 (u2 (M 4) 1 a v))) : V p l e R s m args below meth c nL cy D ad A kc ks Q pc lv (.int (i32 v) :: .int (i32 a) :: .ref (ad 25 2 0) :: st) (M) := by
  refine r_iast F d (dm25 hs) (n := ad 41 25 0) (f := fun j => i32 (M 4 1 (j : Int))) rfl h1 h2 (by omega) ?_ (oth0 (by simp [owner])) kk
  simp only [cel, setc_at]
  congr 4
  funext j
  unfold u2 upd
  by_cases hj : j = a.toNat
  · rw [if_pos hj, if_pos ⟨rfl, by omega⟩]
  · rw [if_neg hj, if_neg (fun h => hj (by have := h.2; omega))]
theorem ig_26 {own : String} (F : Fx p s m args meth c own cc nL ret cy D ad A) {a : Int} (d : decode cc pc = .ok (.iaload, 1)) (hs : ad 40 26 0 = 1) (h1 : 0 ≤ a) (h2 : a < (ad 41 26 0 : Int)) (h3 : (ad 41 26 0 : Int) < 2147483648) (kk : V p l e R s m args below meth c nL cy D ad A kc ks Q (pc + 1) lv (.int (i32 (M 4 2 a)) :: st) (M)) : V p l e R s m args below meth c nL cy D ad A kc ks Q pc lv (.int (i32 a) :: .ref (ad 26 2 0) :: st) (M) := r_iald F d (dm26 hs) (n := ad 41 26 0) (f := fun j => i32 (M 4 2 (j : Int))) rfl h1 h2 (by omega) (by show i32 (M 4 2 ((a.toNat : Nat) : Int)) = _; rw [Int.toNat_of_nonneg h1]) kk
theorem is_26 {own : String} (F : Fx p s m args meth c own cc nL ret cy D ad A) {a v : Int} (d : decode cc pc = .ok (.iastore, 1)) (hs : ad 40 26 0 = 1) (h1 : 0 ≤ a) (h2 : a < (ad 41 26 0 : Int)) (h3 : (ad 41 26 0 : Int) < 2147483648) (kk : V p l e R s m args below meth c nL cy D ad A kc ks Q (pc + 1) lv st (setc M 4 (u2 (M 4) 2 a v))) : V p l e R s m args below meth c nL cy D ad A kc ks Q pc lv (.int (i32 v) :: .int (i32 a) :: .ref (ad 26 2 0) :: st) (M) := by
  refine r_iast F d (dm26 hs) (n := ad 41 26 0) (f := fun j => i32 (M 4 2 (j : Int))) rfl h1 h2 (by omega) ?_ (oth0 (by simp [owner])) kk
  simp only [cel, setc_at]
  congr 4
  funext j
  unfold u2 upd
  by_cases hj : j = a.toNat
  · rw [if_pos hj, if_pos ⟨rfl, by omega⟩]
  · rw [if_neg hj, if_neg (fun h => hj (by have := h.2; omega))]
theorem ig_27 {own : String} (F : Fx p s m args meth c own cc nL ret cy D ad A) {a : Int} (d : decode cc pc = .ok (.iaload, 1)) (hs : ad 40 27 0 = 1) (h1 : 0 ≤ a) (h2 : a < (ad 41 27 0 : Int)) (h3 : (ad 41 27 0 : Int) < 2147483648) (kk : V p l e R s m args below meth c nL cy D ad A kc ks Q (pc + 1) lv (.int (i32 (M 4 3 a)) :: st) (M)) : V p l e R s m args below meth c nL cy D ad A kc ks Q pc lv (.int (i32 a) :: .ref (ad 27 2 0) :: st) (M) := r_iald F d (dm27 hs) (n := ad 41 27 0) (f := fun j => i32 (M 4 3 (j : Int))) rfl h1 h2 (by omega) (by show i32 (M 4 3 ((a.toNat : Nat) : Int)) = _; rw [Int.toNat_of_nonneg h1]) kk
theorem is_27 {own : String} (F : Fx p s m args meth c own cc nL ret cy D ad A) {a v : Int} (d : decode cc pc = .ok (.iastore, 1)) (hs : ad 40 27 0 = 1) (h1 : 0 ≤ a) (h2 : a < (ad 41 27 0 : Int)) (h3 : (ad 41 27 0 : Int) < 2147483648) (kk : V p l e R s m args below meth c nL cy D ad A kc ks Q (pc + 1) lv st (setc M 4 (u2 (M 4) 3 a v))) : V p l e R s m args below meth c nL cy D ad A kc ks Q pc lv (.int (i32 v) :: .int (i32 a) :: .ref (ad 27 2 0) :: st) (M) := by
  refine r_iast F d (dm27 hs) (n := ad 41 27 0) (f := fun j => i32 (M 4 3 (j : Int))) rfl h1 h2 (by omega) ?_ (oth0 (by simp [owner])) kk
  simp only [cel, setc_at]
  congr 4
  funext j
  unfold u2 upd
  by_cases hj : j = a.toNat
  · rw [if_pos hj, if_pos ⟨rfl, by omega⟩]
  · rw [if_neg hj, if_neg (fun h => hj (by have := h.2; omega))]
theorem ig_28 {own : String} (F : Fx p s m args meth c own cc nL ret cy D ad A) {a : Int} (d : decode cc pc = .ok (.iaload, 1)) (hs : ad 40 28 0 = 1) (h1 : 0 ≤ a) (h2 : a < (ad 41 28 0 : Int)) (h3 : (ad 41 28 0 : Int) < 2147483648) (kk : V p l e R s m args below meth c nL cy D ad A kc ks Q (pc + 1) lv (.int (i32 (M 4 4 a)) :: st) (M)) : V p l e R s m args below meth c nL cy D ad A kc ks Q pc lv (.int (i32 a) :: .ref (ad 28 2 0) :: st) (M) := r_iald F d (dm28 hs) (n := ad 41 28 0) (f := fun j => i32 (M 4 4 (j : Int))) rfl h1 h2 (by omega) (by show i32 (M 4 4 ((a.toNat : Nat) : Int)) = _; rw [Int.toNat_of_nonneg h1]) kk
theorem is_28 {own : String} (F : Fx p s m args meth c own cc nL ret cy D ad A) {a v : Int} (d : decode cc pc = .ok (.iastore, 1)) (hs : ad 40 28 0 = 1) (h1 : 0 ≤ a) (h2 : a < (ad 41 28 0 : Int)) (h3 : (ad 41 28 0 : Int) < 2147483648) (kk : V p l e R s m args below meth c nL cy D ad A kc ks Q (pc + 1) lv st (setc M 4 (u2 (M 4) 4 a v))) : V p l e R s m args below meth c nL cy D ad A kc ks Q pc lv (.int (i32 v) :: .int (i32 a) :: .ref (ad 28 2 0) :: st) (M) := by
  refine r_iast F d (dm28 hs) (n := ad 41 28 0) (f := fun j => i32 (M 4 4 (j : Int))) rfl h1 h2 (by omega) ?_ (oth0 (by simp [owner])) kk
  simp only [cel, setc_at]
  congr 4
  funext j
  unfold u2 upd
  by_cases hj : j = a.toNat
  · rw [if_pos hj, if_pos ⟨rfl, by omega⟩]
  · rw [if_neg hj, if_neg (fun h => hj (by have := h.2; omega))]
theorem ig_29 {own : String} (F : Fx p s m args meth c own cc nL ret cy D ad A) {a : Int} (d : decode cc pc = .ok (.iaload, 1)) (hs : ad 40 29 0 = 1) (h1 : 0 ≤ a) (h2 : a < (ad 41 29 0 : Int)) (h3 : (ad 41 29 0 : Int) < 2147483648) (kk : V p l e R s m args below meth c nL cy D ad A kc ks Q (pc + 1) lv (.int (i32 (M 4 5 a)) :: st) (M)) : V p l e R s m args below meth c nL cy D ad A kc ks Q pc lv (.int (i32 a) :: .ref (ad 29 2 0) :: st) (M) := r_iald F d (dm29 hs) (n := ad 41 29 0) (f := fun j => i32 (M 4 5 (j : Int))) rfl h1 h2 (by omega) (by show i32 (M 4 5 ((a.toNat : Nat) : Int)) = _; rw [Int.toNat_of_nonneg h1]) kk
theorem is_29 {own : String} (F : Fx p s m args meth c own cc nL ret cy D ad A) {a v : Int} (d : decode cc pc = .ok (.iastore, 1)) (hs : ad 40 29 0 = 1) (h1 : 0 ≤ a) (h2 : a < (ad 41 29 0 : Int)) (h3 : (ad 41 29 0 : Int) < 2147483648) (kk : V p l e R s m args below meth c nL cy D ad A kc ks Q (pc + 1) lv st (setc M 4 (u2 (M 4) 5 a v))) : V p l e R s m args below meth c nL cy D ad A kc ks Q pc lv (.int (i32 v) :: .int (i32 a) :: .ref (ad 29 2 0) :: st) (M) := by
  refine r_iast F d (dm29 hs) (n := ad 41 29 0) (f := fun j => i32 (M 4 5 (j : Int))) rfl h1 h2 (by omega) ?_ (oth0 (by simp [owner])) kk
  simp only [cel, setc_at]
  congr 4
  funext j
  unfold u2 upd
  by_cases hj : j = a.toNat
  · rw [if_pos hj, if_pos ⟨rfl, by omega⟩]
  · rw [if_neg hj, if_neg (fun h => hj (by have := h.2; omega))]
theorem ig_30 {own : String} (F : Fx p s m args meth c own cc nL ret cy D ad A) {a : Int} (d : decode cc pc = .ok (.iaload, 1)) (hs : ad 40 30 0 = 1) (h1 : 0 ≤ a) (h2 : a < (ad 41 30 0 : Int)) (h3 : (ad 41 30 0 : Int) < 2147483648) (kk : V p l e R s m args below meth c nL cy D ad A kc ks Q (pc + 1) lv (.int (i32 (M 4 6 a)) :: st) (M)) : V p l e R s m args below meth c nL cy D ad A kc ks Q pc lv (.int (i32 a) :: .ref (ad 30 2 0) :: st) (M) := r_iald F d (dm30 hs) (n := ad 41 30 0) (f := fun j => i32 (M 4 6 (j : Int))) rfl h1 h2 (by omega) (by show i32 (M 4 6 ((a.toNat : Nat) : Int)) = _; rw [Int.toNat_of_nonneg h1]) kk
theorem is_30 {own : String} (F : Fx p s m args meth c own cc nL ret cy D ad A) {a v : Int} (d : decode cc pc = .ok (.iastore, 1)) (hs : ad 40 30 0 = 1) (h1 : 0 ≤ a) (h2 : a < (ad 41 30 0 : Int)) (h3 : (ad 41 30 0 : Int) < 2147483648) (kk : V p l e R s m args below meth c nL cy D ad A kc ks Q (pc + 1) lv st (setc M 4 (u2 (M 4) 6 a v))) : V p l e R s m args below meth c nL cy D ad A kc ks Q pc lv (.int (i32 v) :: .int (i32 a) :: .ref (ad 30 2 0) :: st) (M) := by
  refine r_iast F d (dm30 hs) (n := ad 41 30 0) (f := fun j => i32 (M 4 6 (j : Int))) rfl h1 h2 (by omega) ?_ (oth0 (by simp [owner])) kk
  simp only [cel, setc_at]
  congr 4
  funext j
  unfold u2 upd
  by_cases hj : j = a.toNat
  · rw [if_pos hj, if_pos ⟨rfl, by omega⟩]
  · rw [if_neg hj, if_neg (fun h => hj (by have := h.2; omega))]
theorem ig_31 {own : String} (F : Fx p s m args meth c own cc nL ret cy D ad A) {a : Int} (d : decode cc pc = .ok (.iaload, 1)) (hs : ad 40 31 0 = 1) (h1 : 0 ≤ a) (h2 : a < (ad 41 31 0 : Int)) (h3 : (ad 41 31 0 : Int) < 2147483648) (kk : V p l e R s m args below meth c nL cy D ad A kc ks Q (pc + 1) lv (.int (i32 (M 4 7 a)) :: st) (M)) : V p l e R s m args below meth c nL cy D ad A kc ks Q pc lv (.int (i32 a) :: .ref (ad 31 2 0) :: st) (M) := r_iald F d (dm31 hs) (n := ad 41 31 0) (f := fun j => i32 (M 4 7 (j : Int))) rfl h1 h2 (by omega) (by show i32 (M 4 7 ((a.toNat : Nat) : Int)) = _; rw [Int.toNat_of_nonneg h1]) kk
theorem is_31 {own : String} (F : Fx p s m args meth c own cc nL ret cy D ad A) {a v : Int} (d : decode cc pc = .ok (.iastore, 1)) (hs : ad 40 31 0 = 1) (h1 : 0 ≤ a) (h2 : a < (ad 41 31 0 : Int)) (h3 : (ad 41 31 0 : Int) < 2147483648) (kk : V p l e R s m args below meth c nL cy D ad A kc ks Q (pc + 1) lv st (setc M 4 (u2 (M 4) 7 a v))) : V p l e R s m args below meth c nL cy D ad A kc ks Q pc lv (.int (i32 v) :: .int (i32 a) :: .ref (ad 31 2 0) :: st) (M) := by
  refine r_iast F d (dm31 hs) (n := ad 41 31 0) (f := fun j => i32 (M 4 7 (j : Int))) rfl h1 h2 (by omega) ?_ (oth0 (by simp [owner])) kk
  simp only [cel, setc_at]
  congr 4
  funext j
  unfold u2 upd
  by_cases hj : j = a.toNat
  · rw [if_pos hj, if_pos ⟨rfl, by omega⟩]
  · rw [if_neg hj, if_neg (fun h => hj (by have := h.2; omega))]
end FROWS
