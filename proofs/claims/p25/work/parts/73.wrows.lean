/-! The law's build: a coast by hand made, and the first that is done to both. -/
theorem Ct.mm2 {l : Launch} {cy : Nat → ClassId} {D : va_G} {ad : Nat → Nat → Int → Nat} {y : MethodName} {bytes : ByteArray} {maxL : Nat} {ret : Option FieldType} {lev : Nat} {As : List Value} {r : Option Value} {a b c S S1 : St} {M : Mem} (h : Ct l cy D ad y bytes maxL ret lev As (setc (mm a b c M) 2 S) r (setc (mm a b c M) 2 S1)) : Ct l cy D ad y bytes maxL ret lev As (mm a b S M) r (mm a b S1 M) := by
  rw [mm_set2, mm_set2] at h
  exact h
theorem Ct.mm01 {l : Launch} {cy : Nat → ClassId} {D : va_G} {ad : Nat → Nat → Int → Nat} {y : MethodName} {bytes : ByteArray} {maxL : Nat} {ret : Option FieldType} {lev : Nat} {As : List Value} {r : Option Value} {a b c S T T1 : St} {M : Mem} (h : Ct l cy D ad y bytes maxL ret lev As (setc (setc (mm a b c M) 1 T) 0 S) r (setc (setc (mm a b c M) 0 S) 1 T1)) : Ct l cy D ad y bytes maxL ret lev As (mm S T c M) r (mm S T1 c M) := by
  rw [mm_set1, mm_set0, mm_set0, mm_set1] at h
  exact h
theorem Cm.mm2 {l : Launch} {cy : Nat → ClassId} {D : va_G} {ad : Nat → Nat → Int → Nat} {y : MethodName} {bytes : ByteArray} {maxL : Nat} {ret : Option FieldType} {lev mc ms : Nat} {As : List Value} {r : Option Value} {a b c S : St} {M : Mem} (h : Cm l cy D ad y bytes maxL ret lev mc ms As (setc (mm a b c M) 2 S) r (setc (mm a b c M) 2 S)) : Cm l cy D ad y bytes maxL ret lev mc ms As (mm a b S M) r (mm a b S M) := by
  rw [mm_set2] at h
  exact h
theorem w_set (a b c : St) (M : Mem) (T Y : St) : setc (mm a b c (setc M 4 T)) 4 Y = mm a b c (setc M 4 Y) := by rw [mm_set4, setc_setc]
theorem w_self (a b c : St) (M : Mem) : mm a b c M = mm a b c (setc M 4 (M 4)) := by rw [setc_self]
theorem w_oth (a b c : St) (M : Mem) (T : St) (t : Nat) (ht : 24 ≤ t ∧ t < 32) (h : ∀ (k : Nat) (i : Int), k ≠ t - 24 → T k i = M 4 k i) : ∀ (c1 k1 : Nat) (i1 : Int), owner c1 k1 i1 ≠ (t, 2, 0) → mm a b c (setc M 4 T) c1 k1 i1 = mm a b c M c1 k1 i1 := by
  intro c1 k1 i1 ho
  unfold mm
  by_cases h0 : c1 = 0
  · rw [if_pos h0, if_pos h0]
  · rw [if_neg h0, if_neg h0]
    by_cases h1 : c1 = 1
    · rw [if_pos h1, if_pos h1]
    · rw [if_neg h1, if_neg h1]
      by_cases h2 : c1 = 2
      · rw [if_pos h2, if_pos h2]
      · rw [if_neg h2, if_neg h2]
        by_cases h4 : c1 = 4
        · subst h4
          rw [setc_at]
          refine h k1 i1 (fun e => ho ?_)
          subst e
          unfold owner
          rw [if_neg (by decide), if_neg (by decide), if_pos (by omega)]
          congr 1
          omega
        · rw [setc_ne _ _ h4]
section WROWS
variable {p : Program} {l : Launch} {e : Env} {R : Room} {s : State} {m : MethodId} {args : Array Value} {below : List Frame} {meth : Method} {c : Code} {nL : Nat} {cy : Nat → ClassId} {D : va_G} {ad : Nat → Nat → Int → Nat} {A : Nat → Prop} {kc ks : Nat} {Q : State → Prop} {pc : Nat} {lv : List (Option Value)} {st : List Value} {M : Mem} {a1 a2 a3 : St} {T : St} {own : String} {cc : ByteArray} {ret : Option FieldType}
theorem V.ofUV (F : Fx p s m args meth c own cc nL ret cy D ad A) (k : UV p l e R s m args below meth c nL D A kc ks Q pc lv st (wsOf cy ad M)) : V p l e R s m args below meth c nL cy D ad A kc ks Q pc lv st M := fun H locs ls hP hS hl => k H locs ls hP (wsD F.2.2.2.2.2.2.2.2.1 F.2.2.2.2.2.2.2.2.2.1 M) hS hl
theorem Fx.fk (F : Fx p s m args meth c own cc nL ret cy D ad A) : FK p s m args meth c own cc nL cy D A := ⟨F.1, F.2.1, F.2.2.1, F.2.2.2.1, F.2.2.2.2.2.1, F.2.2.2.2.2.2.1, F.2.2.2.2.2.2.2.1, F.2.2.2.2.2.2.2.1.2.2, F.2.2.2.2.2.2.2.2.2.2⟩
theorem es_at (F : Fx p s m args meth c own cc nL ret cy D ad A) {b L : Nat} {xs : Nat → Int32} (hX : va_X b L xs s s.heap) (hbl : b < s.heap.size) (hbA : ¬ A b) : ∀ (H : Heap) (locs : List Loc), va_S A s.heap H locs → ∀ U : State, U.heap = H → s.WarmedH U.vm → ES ad b L xs H.size U := by
  intro H locs hS U hU hW
  refine ⟨?_, ?_, ?_⟩
  · rw [hU]
    exact (hX.kept (hS.2.1 b hbl hbA)).moved hW.alike
  · rw [hU]
    exact Nat.lt_of_lt_of_le hbl hS.1
  · rintro (⟨t, c1, i, h1, h2⟩ | h)
    · exact hbA (h2 ▸ F.2.2.2.2.2.2.2.2.2.1 t c1 i h1)
    · exact absurd (Nat.le_trans hS.1 h) (Nat.not_le.mpr hbl)
theorem ex_at (F : Fx p s m args meth c own cc nL ret cy D ad A) (G : Gx l s A) : ∀ (H : Heap) (locs : List Loc), va_S A s.heap H locs → ∀ U : State, U.heap = H → s.WarmedH U.vm → EX ad H.size U := fun H locs hS U hU hW => G.at F.2.2.2.2.2.2.2.2.2.1 F.2.2.2.2.2.2.2.2.2.2 hS hU hW
theorem wg_24 (F : Fx p s m args meth c own cc nL ret cy D ad A) {a : Int} (d : decode cc pc = .ok (.iaload, 1)) (hs : ad 40 24 0 = 1) (h1 : 0 ≤ a) (h2 : a < (ad 41 24 0 : Int)) (h3 : (ad 41 24 0 : Int) < 2147483648) (kk : V p l e R s m args below meth c nL cy D ad A kc ks Q (pc + 1) lv (.int (i32 (T 0 a)) :: st) (mm a1 a2 a3 (setc M 4 T))) : V p l e R s m args below meth c nL cy D ad A kc ks Q pc lv (.int (i32 a) :: .ref (ad 24 2 0) :: st) (mm a1 a2 a3 (setc M 4 T)) := ig_24 F d hs h1 h2 h3 kk
theorem ws_24 (F : Fx p s m args meth c own cc nL ret cy D ad A) {a v : Int} (d : decode cc pc = .ok (.iastore, 1)) (hs : ad 40 24 0 = 1) (h1 : 0 ≤ a) (h2 : a < (ad 41 24 0 : Int)) (h3 : (ad 41 24 0 : Int) < 2147483648) (kk : V p l e R s m args below meth c nL cy D ad A kc ks Q (pc + 1) lv st (mm a1 a2 a3 (setc M 4 (u2 T 0 a v)))) : V p l e R s m args below meth c nL cy D ad A kc ks Q pc lv (.int (i32 v) :: .int (i32 a) :: .ref (ad 24 2 0) :: st) (mm a1 a2 a3 (setc M 4 T)) := is_24 F d hs h1 h2 h3 (V.cast (w_set a1 a2 a3 M T (u2 T 0 a v)) kk)
theorem wg_25 (F : Fx p s m args meth c own cc nL ret cy D ad A) {a : Int} (d : decode cc pc = .ok (.iaload, 1)) (hs : ad 40 25 0 = 1) (h1 : 0 ≤ a) (h2 : a < (ad 41 25 0 : Int)) (h3 : (ad 41 25 0 : Int) < 2147483648) (kk : V p l e R s m args below meth c nL cy D ad A kc ks Q (pc + 1) lv (.int (i32 (T 1 a)) :: st) (mm a1 a2 a3 (setc M 4 T))) : V p l e R s m args below meth c nL cy D ad A kc ks Q pc lv (.int (i32 a) :: .ref (ad 25 2 0) :: st) (mm a1 a2 a3 (setc M 4 T)) := ig_25 F d hs h1 h2 h3 kk
theorem ws_25 (F : Fx p s m args meth c own cc nL ret cy D ad A) {a v : Int} (d : decode cc pc = .ok (.iastore, 1)) (hs : ad 40 25 0 = 1) (h1 : 0 ≤ a) (h2 : a < (ad 41 25 0 : Int)) (h3 : (ad 41 25 0 : Int) < 2147483648) (kk : V p l e R s m args below meth c nL cy D ad A kc ks Q (pc + 1) lv st (mm a1 a2 a3 (setc M 4 (u2 T 1 a v)))) : V p l e R s m args below meth c nL cy D ad A kc ks Q pc lv (.int (i32 v) :: .int (i32 a) :: .ref (ad 25 2 0) :: st) (mm a1 a2 a3 (setc M 4 T)) := is_25 F d hs h1 h2 h3 (V.cast (w_set a1 a2 a3 M T (u2 T 1 a v)) kk)
theorem wg_26 (F : Fx p s m args meth c own cc nL ret cy D ad A) {a : Int} (d : decode cc pc = .ok (.iaload, 1)) (hs : ad 40 26 0 = 1) (h1 : 0 ≤ a) (h2 : a < (ad 41 26 0 : Int)) (h3 : (ad 41 26 0 : Int) < 2147483648) (kk : V p l e R s m args below meth c nL cy D ad A kc ks Q (pc + 1) lv (.int (i32 (T 2 a)) :: st) (mm a1 a2 a3 (setc M 4 T))) : V p l e R s m args below meth c nL cy D ad A kc ks Q pc lv (.int (i32 a) :: .ref (ad 26 2 0) :: st) (mm a1 a2 a3 (setc M 4 T)) := ig_26 F d hs h1 h2 h3 kk
theorem ws_26 (F : Fx p s m args meth c own cc nL ret cy D ad A) {a v : Int} (d : decode cc pc = .ok (.iastore, 1)) (hs : ad 40 26 0 = 1) (h1 : 0 ≤ a) (h2 : a < (ad 41 26 0 : Int)) (h3 : (ad 41 26 0 : Int) < 2147483648) (kk : V p l e R s m args below meth c nL cy D ad A kc ks Q (pc + 1) lv st (mm a1 a2 a3 (setc M 4 (u2 T 2 a v)))) : V p l e R s m args below meth c nL cy D ad A kc ks Q pc lv (.int (i32 v) :: .int (i32 a) :: .ref (ad 26 2 0) :: st) (mm a1 a2 a3 (setc M 4 T)) := is_26 F d hs h1 h2 h3 (V.cast (w_set a1 a2 a3 M T (u2 T 2 a v)) kk)
theorem wg_27 (F : Fx p s m args meth c own cc nL ret cy D ad A) {a : Int} (d : decode cc pc = .ok (.iaload, 1)) (hs : ad 40 27 0 = 1) (h1 : 0 ≤ a) (h2 : a < (ad 41 27 0 : Int)) (h3 : (ad 41 27 0 : Int) < 2147483648) (kk : V p l e R s m args below meth c nL cy D ad A kc ks Q (pc + 1) lv (.int (i32 (T 3 a)) :: st) (mm a1 a2 a3 (setc M 4 T))) : V p l e R s m args below meth c nL cy D ad A kc ks Q pc lv (.int (i32 a) :: .ref (ad 27 2 0) :: st) (mm a1 a2 a3 (setc M 4 T)) := ig_27 F d hs h1 h2 h3 kk
theorem ws_27 (F : Fx p s m args meth c own cc nL ret cy D ad A) {a v : Int} (d : decode cc pc = .ok (.iastore, 1)) (hs : ad 40 27 0 = 1) (h1 : 0 ≤ a) (h2 : a < (ad 41 27 0 : Int)) (h3 : (ad 41 27 0 : Int) < 2147483648) (kk : V p l e R s m args below meth c nL cy D ad A kc ks Q (pc + 1) lv st (mm a1 a2 a3 (setc M 4 (u2 T 3 a v)))) : V p l e R s m args below meth c nL cy D ad A kc ks Q pc lv (.int (i32 v) :: .int (i32 a) :: .ref (ad 27 2 0) :: st) (mm a1 a2 a3 (setc M 4 T)) := is_27 F d hs h1 h2 h3 (V.cast (w_set a1 a2 a3 M T (u2 T 3 a v)) kk)
theorem wg_28 (F : Fx p s m args meth c own cc nL ret cy D ad A) {a : Int} (d : decode cc pc = .ok (.iaload, 1)) (hs : ad 40 28 0 = 1) (h1 : 0 ≤ a) (h2 : a < (ad 41 28 0 : Int)) (h3 : (ad 41 28 0 : Int) < 2147483648) (kk : V p l e R s m args below meth c nL cy D ad A kc ks Q (pc + 1) lv (.int (i32 (T 4 a)) :: st) (mm a1 a2 a3 (setc M 4 T))) : V p l e R s m args below meth c nL cy D ad A kc ks Q pc lv (.int (i32 a) :: .ref (ad 28 2 0) :: st) (mm a1 a2 a3 (setc M 4 T)) := ig_28 F d hs h1 h2 h3 kk
theorem ws_28 (F : Fx p s m args meth c own cc nL ret cy D ad A) {a v : Int} (d : decode cc pc = .ok (.iastore, 1)) (hs : ad 40 28 0 = 1) (h1 : 0 ≤ a) (h2 : a < (ad 41 28 0 : Int)) (h3 : (ad 41 28 0 : Int) < 2147483648) (kk : V p l e R s m args below meth c nL cy D ad A kc ks Q (pc + 1) lv st (mm a1 a2 a3 (setc M 4 (u2 T 4 a v)))) : V p l e R s m args below meth c nL cy D ad A kc ks Q pc lv (.int (i32 v) :: .int (i32 a) :: .ref (ad 28 2 0) :: st) (mm a1 a2 a3 (setc M 4 T)) := is_28 F d hs h1 h2 h3 (V.cast (w_set a1 a2 a3 M T (u2 T 4 a v)) kk)
theorem w_newa (F : Fx p s m args meth c own cc nL ret cy D ad A) (t : Nat) (ht : 24 ≤ t ∧ t < 32) (h0 : ad 40 t 0 ≠ 1) (h32 : ad 40 32 0 ≠ 1) {n : Int} (N : Nat) (d : decode cc pc = .ok (.newarray .int, 2)) (hn : n = (N : Int)) (hN : N < 1000) (hf : kc + 1 ≤ R.cells ∧ ks + N ≤ R.slots) (kk : ∀ ad' : Nat → Nat → Int → Nat, Ext ad ad' t N → Fx p s m args meth c own cc nL ret cy D ad' A → V p l e R s m args below meth c nL cy D ad' A (kc + 1) (ks + N) Q (pc + 2) lv (.ref (ad' t 2 0) :: st) (mm a1 a2 a3 (setc M 4 (zk T (t - 24))))) : V p l e R s m args below meth c nL cy D ad A kc ks Q pc lv (.int (i32 n) :: st) (mm a1 a2 a3 (setc M 4 T)) := r_newa F t ht h0 h32 N d arr_int hn hN hf (fun ad' E F9 => V.cast (w_set a1 a2 a3 M T (zk T (t - 24))) (kk ad' E F9))
end WROWS
def S0 : St := fun k i => if k = 2 then (if i < 8 then -1 else 0) else 0
theorem S0_n (k : Nat) (i : Int) (h : k ≠ 2) : S0 k i = 0 := if_neg h
theorem sm_zero {f : Int → Int} (h : ∀ i, f i = 0) : ∀ n : Nat, sm f n = 0
  | 0 => rfl
  | n + 1 => by
    show sm f n + f n = 0
    rw [sm_zero h n, h]
    rfl
theorem ok_S0 : OK S0 0 := by
  refine ⟨⟨fun i => by simp [S0], fun i => by simp [S0], fun i => by simp [S0], fun i => by simp [S0], fun i => by simp [S0], fun i => by simp [S0], fun i => by simp [S0], fun i => ?_, rfl, fun i => by simp [S0], fun i => by simp [S0], fun i => by simp [S0], fun i => by simp [S0], fun i h1 h2 => ?_, by simp [S0], fun i h => rfl⟩, ⟨fun i _ => ⟨rfl, rfl⟩, fun i _ => rfl, fun k i h1 h2 _ => S0_n k i (by omega), fun k i h1 h2 _ => S0_n k i (by omega)⟩, ⟨?_, ?_, fun b h1 h2 _ => ?_, fun b h1 h2 h3 => ?_⟩, by simp [S0], by simp [S0]⟩
  · show -1 ≤ (if i < 8 then (-1 : Int) else 0) ∧ (if i < 8 then (-1 : Int) else 0) ≤ 15
    split <;> omega
  · have h3 : i < (0 : Int) := h2
    omega
  · unfold caves
    rw [sm_zero (f := S0 19) (fun i => rfl), sm_zero (f := S0 1) (fun i => rfl)]
    rfl
  · rfl
  · have h3 : b < (0 : Int) := h2
    omega
  · have h4 : (0 : Int) < 0 := h3
    omega
/-- the coast by hand taken in -/
def SimIn (q : Nat) (g : Nat → Nat) (ad ad' : Nat → Nat → Int → Nat) : Prop := (∀ (t c : Nat) (i : Int), t < 13 → ad' t c i = ad t c i) ∧ (∀ (c : Nat) (i : Int), ad' 13 c i = q) ∧ (∀ (t c : Nat) (i : Int), 14 ≤ t → t < 21 → ad' t c i = g (t - 14)) ∧ ad' 40 13 0 = 1 ∧ (∀ t : Nat, t ≠ 13 → ad' 40 t 0 = ad 40 t 0) ∧ ad' 41 18 0 = 0 ∧ ad' 41 19 0 = 0 ∧ ad' 41 20 0 = 0
def adS (q : Nat) (g : Nat → Nat) (ad : Nat → Nat → Int → Nat) : Nat → Nat → Int → Nat := fun t c i => if t < 13 then ad t c i else if t = 13 then q else if t < 21 then g (t - 14) else if t = 40 then (if c = 13 then 1 else ad t c i) else if t = 41 then 0 else ad t c i
theorem adS_is (q : Nat) (g : Nat → Nat) (ad : Nat → Nat → Int → Nat) : SimIn q g ad (adS q g ad) := by
  refine ⟨fun t c i h => if_pos h, fun c i => ?_, fun t c i h1 h2 => ?_, ?_, fun t h => ?_, ?_, ?_, ?_⟩ <;> unfold adS
  · rw [if_neg (by decide), if_pos rfl]
  · rw [if_neg (by omega), if_neg (by omega), if_pos h2]
  · rfl
  · rw [if_neg (by decide), if_neg (by decide), if_neg (by decide), if_pos rfl, if_neg h]
  · rfl
  · rfl
  · rfl
section SIMIN
variable {p : Program} {l : Launch} {e : Env} {R : Room} {s : State} {m : MethodId} {args : Array Value} {below : List Frame} {meth : Method} {c : Code} {nL : Nat} {cy : Nat → ClassId} {D : va_G} {ad : Nat → Nat → Int → Nat} {A : Nat → Prop} {kc ks : Nat} {Q : State → Prop} {pc : Nat} {lv : List (Option Value)} {st : List Value} {M : Mem} {own : String} {cc : ByteArray} {ret : Option FieldType}
theorem r_simIn (F : Fx p s m args meth c own cc nL ret cy D ad A) (h13 : ad 40 13 0 ≠ 1) (hz : Cl ad) (q : Nat) (g : Nat → Nat) (kk : ∀ ad' : Nat → Nat → Int → Nat, SimIn q g ad ad' → Fx p s m args meth c own cc nL ret cy D ad' A → V p l e R s m args below meth c nL cy D ad' A kc ks Q pc lv st (setc M 2 S0)) : UV p l e R s m args below meth c nL D A kc ks Q pc lv st (wsOf cy ad M ++ simW cy q g) := by
  intro H locs ls hP hD hS hl
  have E := adS_is q g ad
  generalize hG : adS q g ad = ad' at E
  have F9 := F
  obtain ⟨E1, E2, E3, E4, E5, E6, E7, E8⟩ := id E
  have hlt : ∀ {k : Nat} {x : Nat × va_E}, (wsOf cy ad M)[k]? = some x → k < (wsOf cy ad M).length := fun h => (List.getElem?_eq_some_iff.mp h).1
  have hold : ∀ (t c : Nat) (i : Int), dmb ad t c i = true → va_at D vwCl (ad t c i, cel cy ad M t c i) H := fun t c i hd => by
    obtain ⟨q0, -, hq0⟩ := ws_at (cy := cy) (ad := ad) M hd
    exact hP q0 _ (by rw [List.getElem?_append_left (hlt hq0)]; exact hq0)
  have hnew : ∀ (j : Nat) (x : Nat × va_E), (simW cy q g)[j]? = some x → va_at D vwCl x H := fun j x hx => hP ((wsOf cy ad M).length + j) x (by rw [List.getElem?_append_right (by omega), Nat.add_sub_cancel_left]; exact hx)
  have key : ∀ (t c : Nat) (i : Int), dmb ad' t c i = true → (t < 13 ∧ dmb ad t c i = true) ∨ (13 ≤ t ∧ t < 21 ∧ c = 2 ∧ i = 0) := by
    intro t c i hd
    have hb9 := (dm_bd hd).1
    by_cases e1 : t < 13
    · refine Or.inl ⟨e1, ?_⟩
      have : t = 0 ∨ t = 1 ∨ t = 2 ∨ t = 3 ∨ t = 4 ∨ t = 5 ∨ t = 6 ∨ t = 7 ∨ t = 8 ∨ t = 9 ∨ t = 10 ∨ t = 11 ∨ t = 12 := by omega
      rcases this with rfl | rfl | rfl | rfl | rfl | rfl | rfl | rfl | rfl | rfl | rfl | rfl | rfl <;> exact hd
    · by_cases e2 : t < 21
      · have : t = 13 ∨ t = 14 ∨ t = 15 ∨ t = 16 ∨ t = 17 ∨ t = 18 ∨ t = 19 ∨ t = 20 := by omega
        rcases this with rfl | rfl | rfl | rfl | rfl | rfl | rfl | rfl <;> (simp [dmb] at hd; exact Or.inr ⟨by decide, by decide, by omega, by omega⟩)
      · exfalso
        have : t = 21 ∨ t = 22 ∨ t = 23 ∨ 24 ≤ t := by omega
        rcases this with rfl | rfl | rfl | h
        · simp [dmb, E6] at hd; omega
        · simp [dmb, E7] at hd; omega
        · simp [dmb, E8] at hd; omega
        · have h40 : ad' 40 t 0 = 1 := by
            have : t = 24 ∨ t = 25 ∨ t = 26 ∨ t = 27 ∨ t = 28 ∨ t = 29 ∨ t = 30 ∨ t = 31 ∨ t = 32 := by omega
            rcases this with rfl | rfl | rfl | rfl | rfl | rfl | rfl | rfl | rfl <;> (simp [dmb] at hd; exact hd.2)
          rw [E5 t (by omega)] at h40
          exact hz t h (by omega) h40
  have posn : ∀ (t c : Nat) (i : Int), dmb ad' t c i = true → ∃ (k : Nat) (e9 : va_E), (wsOf cy ad M ++ simW cy q g)[k]? = some (ad' t c i, e9) ∧ ((t < 13 ∧ (keys ad)[k]? = some (t, c, i)) ∨ (13 ≤ t ∧ c = 2 ∧ i = 0 ∧ k = (wsOf cy ad M).length + (t - 13))) := by
    intro t c i hd
    rcases key t c i hd with ⟨h1, h2⟩ | ⟨h1, h2, rfl, rfl⟩
    · obtain ⟨q0, hk0, hq0⟩ := ws_at (cy := cy) (ad := ad) M h2
      exact ⟨q0, _, by rw [List.getElem?_append_left (hlt hq0), E1 t c i h1]; exact hq0, Or.inl ⟨h1, hk0⟩⟩
    · refine ⟨(wsOf cy ad M).length + (t - 13), ?_⟩
      have h9 : ∃ e9 : va_E, (simW cy q g)[t - 13]? = some (ad' t 2 0, e9) := by
        have : t = 13 ∨ t = 14 ∨ t = 15 ∨ t = 16 ∨ t = 17 ∨ t = 18 ∨ t = 19 ∨ t = 20 := by omega
        rcases this with rfl | rfl | rfl | rfl | rfl | rfl | rfl | rfl
        · exact ⟨_, by rw [E2]; rfl⟩
        · exact ⟨_, by rw [E3 14 2 0 (by decide) (by decide)]; rfl⟩
        · exact ⟨_, by rw [E3 15 2 0 (by decide) (by decide)]; rfl⟩
        · exact ⟨_, by rw [E3 16 2 0 (by decide) (by decide)]; rfl⟩
        · exact ⟨_, by rw [E3 17 2 0 (by decide) (by decide)]; rfl⟩
        · exact ⟨_, by rw [E3 18 2 0 (by decide) (by decide)]; rfl⟩
        · exact ⟨_, by rw [E3 19 2 0 (by decide) (by decide)]; rfl⟩
        · exact ⟨_, by rw [E3 20 2 0 (by decide) (by decide)]; rfl⟩
      obtain ⟨e9, h9⟩ := h9
      exact ⟨e9, by rw [List.getElem?_append_right (by omega), Nat.add_sub_cancel_left]; exact h9, Or.inr ⟨h1, rfl, rfl, rfl⟩⟩
  have hI1 : Inj ad' := by
    intro t c i t' c' i' h1 h2 he
    obtain ⟨k, e9, a1, a2⟩ := posn t c i h1
    obtain ⟨k', e9', b1, b2⟩ := posn t' c' i' h2
    have hk : k = k' := hD.1 k k' _ _ a1 b1 he
    subst hk
    have hlen : (wsOf cy ad M).length = (keys ad).length := by unfold wsOf; rw [List.length_map]
    rcases a2 with ⟨a3, a4⟩ | ⟨a3, rfl, rfl, a4⟩ <;> rcases b2 with ⟨b3, b4⟩ | ⟨b3, rfl, rfl, b4⟩
    · exact Option.some.inj (a4.symm.trans b4)
    · have := (List.getElem?_eq_some_iff.mp a4).1; omega
    · have := (List.getElem?_eq_some_iff.mp b4).1; omega
    · rw [show t = t' by omega]
  have hA3 : ∀ (t c : Nat) (i : Int), dmb ad' t c i = true → A (ad' t c i) := by
    intro t c i hd
    obtain ⟨k, e9, a1, -⟩ := posn t c i hd
    exact hD.2 k _ a1
  refine kk ad' E (F9.ext hI1 hA3) H locs ls (ws_of fun t c i hd => ?_) hS hl
  rcases key t c i hd with ⟨h1, h2⟩ | ⟨h1, h2, rfl, rfl⟩
  · have h9 := hold t c i h2
    rw [E1 t c i h1]
    have ec : cel cy ad' (setc M 2 S0) t c i = cel cy ad M t c i := by
      rw [cel_indep (cy := cy) (ad := ad') (M := M) (M1 := setc M 2 S0) hd (fun c1 k1 i1 ho => by
        rw [setc_ne M S0 (c := 2) (c' := c1) ?_]
        rintro rfl
        have h8 := congrArg Prod.fst ho
        unfold owner at h8
        simp only [show ¬ (2 : Nat) < 2 by decide, if_false, show (2 : Nat) < 3 by decide, if_true] at h8
        repeat' split at h8
        all_goals (simp only at h8; omega))]
      have : t = 0 ∨ t = 1 ∨ t = 2 ∨ t = 3 ∨ t = 4 ∨ t = 5 ∨ t = 6 ∨ t = 7 ∨ t = 8 ∨ t = 9 ∨ t = 10 ∨ t = 11 ∨ t = 12 := by omega
      rcases this with rfl | rfl | rfl | rfl | rfl | rfl | rfl | rfl | rfl | rfl | rfl | rfl | rfl
      · simp only [cel, (fun c i => E1 1 c i (by decide) : ∀ (c : Nat) (i : Int), ad' 1 c i = ad 1 c i)]
      · simp only [cel, (fun c i => E1 2 c i (by decide) : ∀ (c : Nat) (i : Int), ad' 2 c i = ad 2 c i), (fun c i => E1 3 c i (by decide) : ∀ (c : Nat) (i : Int), ad' 3 c i = ad 3 c i), (fun c i => E1 4 c i (by decide) : ∀ (c : Nat) (i : Int), ad' 4 c i = ad 4 c i), (fun c i => E1 5 c i (by decide) : ∀ (c : Nat) (i : Int), ad' 5 c i = ad 5 c i), (fun c i => E1 6 c i (by decide) : ∀ (c : Nat) (i : Int), ad' 6 c i = ad 6 c i), (fun c i => E1 7 c i (by decide) : ∀ (c : Nat) (i : Int), ad' 7 c i = ad 7 c i), (fun c i => E1 8 c i (by decide) : ∀ (c : Nat) (i : Int), ad' 8 c i = ad 8 c i)]
      · rfl
      · rfl
      · rfl
      · rfl
      · simp only [cel, (fun c i => E1 9 c i (by decide) : ∀ (c : Nat) (i : Int), ad' 9 c i = ad 9 c i)]
      · simp only [cel, (fun c i => E1 11 c i (by decide) : ∀ (c : Nat) (i : Int), ad' 11 c i = ad 11 c i)]
      · simp only [cel, (fun c i => E1 12 c i (by decide) : ∀ (c : Nat) (i : Int), ad' 12 c i = ad 12 c i)]
      · simp only [cel, (fun c i => E1 10 c i (by decide) : ∀ (c : Nat) (i : Int), ad' 10 c i = ad 10 c i)]
      · rfl
      · rfl
      · rfl
    rw [ec]
    exact h9
  · have : t = 13 ∨ t = 14 ∨ t = 15 ∨ t = 16 ∨ t = 17 ∨ t = 18 ∨ t = 19 ∨ t = 20 := by omega
    rcases this with rfl | rfl | rfl | rfl | rfl | rfl | rfl | rfl
    · rw [E2]
      have ec : cel cy ad' (setc M 2 S0) 13 2 0 = .inr (5, [.int 0, .int 0, .int 0, .ref (g 0), .ref (g 1), .ref (g 2), .ref (g 3), .ref (g 4), .ref (g 5), .ref (g 6)]) := by simp only [cel, setc_at, E3 14 2 0 (by decide) (by decide), E3 15 2 0 (by decide) (by decide), E3 16 2 0 (by decide) (by decide), E3 17 2 0 (by decide) (by decide), E3 18 2 0 (by decide) (by decide), E3 19 2 0 (by decide) (by decide), E3 20 2 0 (by decide) (by decide)]; rfl
      rw [ec]
      exact hnew 0 _ rfl
    · rw [E3 14 2 0 (by decide) (by decide)]
      have ec : cel cy ad' (setc M 2 S0) 14 2 0 = .inl (cy 0, 16, .inl (fun _ => 0)) := by simp only [cel, setc_at]; rfl
      rw [ec]
      exact hnew 1 _ rfl
    · rw [E3 15 2 0 (by decide) (by decide)]
      have ec : cel cy ad' (setc M 2 S0) 15 2 0 = .inl (cy 0, 16, .inl (fun _ => 0)) := by simp only [cel, setc_at]; rfl
      rw [ec]
      exact hnew 2 _ rfl
    · rw [E3 16 2 0 (by decide) (by decide)]
      have ec : cel cy ad' (setc M 2 S0) 16 2 0 = .inl (cy 0, 8, .inl nmF) := by simp only [cel, setc_at]; rfl
      rw [ec]
      exact hnew 3 _ rfl
    · rw [E3 17 2 0 (by decide) (by decide)]
      have ec : cel cy ad' (setc M 2 S0) 17 2 0 = .inl (cy 0, 8, .inl (fun _ => 0)) := by simp only [cel, setc_at]; rfl
      rw [ec]
      exact hnew 4 _ rfl
    · rw [E3 18 2 0 (by decide) (by decide)]
      have h9 : H[g 4]? = some (arrV (cy 1) 0 (fun _ => va_rf none)) := hnew 5 _ rfl
      show H[g 4]? = some (arrV (cy 1) (ad' 41 18 0) (fun j => va_rf (some (ad' 21 2 (j : Int)))))
      rw [E6, h9]
      exact congrArg some (arrV_congr (fun j hj => absurd hj (Nat.not_lt_zero j)))
    · rw [E3 19 2 0 (by decide) (by decide)]
      have h9 : H[g 5]? = some (arrV (cy 1) 0 (fun _ => va_rf none)) := hnew 6 _ rfl
      show H[g 5]? = some (arrV (cy 1) (ad' 41 19 0) (fun j => va_rf (some (ad' 22 2 (j : Int)))))
      rw [E7, h9]
      exact congrArg some (arrV_congr (fun j hj => absurd hj (Nat.not_lt_zero j)))
    · rw [E3 20 2 0 (by decide) (by decide)]
      have h9 : H[g 6]? = some (arrV (cy 1) 0 (fun _ => va_rf none)) := hnew 7 _ rfl
      show H[g 6]? = some (arrV (cy 1) (ad' 41 20 0) (fun j => va_rf (some (ad' 23 2 (j : Int)))))
      rw [E8, h9]
      exact congrArg some (arrV_congr (fun j hj => absurd hj (Nat.not_lt_zero j)))
end SIMIN
