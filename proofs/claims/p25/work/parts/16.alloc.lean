/-! Cells that come and go: new arrays under the walk, and contracts of methods that make cells. -/
theorem ws_to {cy : Nat → ClassId} {D : va_G} {ad : Nat → Nat → Int → Nat} {M : Mem} {H : Heap} (hP : va_P D vwCl (wsOf cy ad M) H) {t c : Nat} {i : Int} (h : dmb ad t c i = true) : va_at D vwCl (ad t c i, cel cy ad M t c i) H := by
  obtain ⟨q0, -, hq⟩ := ws_at (cy := cy) (ad := ad) M h
  exact hP q0 _ hq
theorem ws_key {cy : Nat → ClassId} {ad : Nat → Nat → Int → Nat} {M : Mem} {k : Nat} {q : Nat × va_E} (h : (wsOf cy ad M)[k]? = some q) : ∃ t c i, dmb ad t c i = true ∧ q = (ad t c i, cel cy ad M t c i) := by
  unfold wsOf at h
  rw [List.getElem?_map] at h
  cases hk : (keys ad)[k]? with
  | none => rw [hk] at h; cases h
  | some b =>
    rw [hk] at h
    obtain ⟨t, c, i⟩ := b
    cases h
    exact ⟨t, c, i, of_keys (List.mem_of_getElem? hk), rfl⟩
theorem ws_of {cy : Nat → ClassId} {D : va_G} {ad : Nat → Nat → Int → Nat} {M : Mem} {H : Heap} (h : ∀ (t c : Nat) (i : Int), dmb ad t c i = true → va_at D vwCl (ad t c i, cel cy ad M t c i) H) : va_P D vwCl (wsOf cy ad M) H := by
  intro k q hk
  obtain ⟨t, c, i, h1, rfl⟩ := ws_key hk
  exact h t c i h1
/-- a world within another -/
def Less (cy : Nat → ClassId) (ad : Nat → Nat → Int → Nat) (M : Mem) (ad' : Nat → Nat → Int → Nat) (M' : Mem) : Prop := ∀ (t c : Nat) (i : Int), dmb ad t c i = true → dmb ad' t c i = true ∧ ad' t c i = ad t c i ∧ cel cy ad' M' t c i = cel cy ad M t c i
theorem ws_less {cy : Nat → ClassId} {D : va_G} {ad ad' : Nat → Nat → Int → Nat} {M M' : Mem} {H : Heap} (h : Less cy ad M ad' M') (hP : va_P D vwCl (wsOf cy ad' M') H) : va_P D vwCl (wsOf cy ad M) H := ws_of fun t c i hd => by
  obtain ⟨h1, h2, h3⟩ := h t c i hd
  rw [← h2, ← h3]
  exact ws_to hP h1
/-- one cell of kind t more (24 to 31: an array of n whole numbers) -/
def Ext (ad ad' : Nat → Nat → Int → Nat) (t n : Nat) : Prop := ad' 40 t 0 = 1 ∧ ad' 41 t 0 = n ∧ ∀ (t' c : Nat) (i : Int), ¬ (t' = t ∧ c = 2 ∧ i = 0) → ¬ (t' = 40 ∧ c = t ∧ i = 0) → ¬ (t' = 41 ∧ c = t ∧ i = 0) → ad' t' c i = ad t' c i
def adn (ad : Nat → Nat → Int → Nat) (t q n : Nat) : Nat → Nat → Int → Nat := fun t' c i => if t' = t ∧ c = 2 ∧ i = 0 then q else if t' = 40 ∧ c = t ∧ i = 0 then 1 else if t' = 41 ∧ c = t ∧ i = 0 then n else ad t' c i
theorem adn_at (ad : Nat → Nat → Int → Nat) (t q n : Nat) : adn ad t q n t 2 0 = q := if_pos ⟨rfl, rfl, rfl⟩
theorem adn_ext {ad : Nat → Nat → Int → Nat} {t q n : Nat} (ht : t < 40) : Ext ad (adn ad t q n) t n := by
  refine ⟨?_, ?_, fun t' c i h1 h2 h3 => ?_⟩
  · unfold adn; rw [if_neg (by omega), if_pos ⟨rfl, rfl, rfl⟩]
  · unfold adn; rw [if_neg (by omega), if_neg (by omega), if_pos ⟨rfl, rfl, rfl⟩]
  · unfold adn; rw [if_neg h1, if_neg h2, if_neg h3]
theorem Ext.lo {ad ad' : Nat → Nat → Int → Nat} {t n : Nat} (h : Ext ad ad' t n) (ht : 24 ≤ t ∧ t < 33) {t' c : Nat} {i : Int} (h1 : t' < 24) : ad' t' c i = ad t' c i := h.2.2 t' c i (by omega) (by omega) (by omega)
theorem Ext.fl {ad ad' : Nat → Nat → Int → Nat} {t n : Nat} (h : Ext ad ad' t n) (ht : 24 ≤ t ∧ t < 33) {t' c : Nat} (h1 : t' = 40 ∨ t' = 41) (h2 : c ≠ t) {i : Int} : ad' t' c i = ad t' c i := h.2.2 t' c i (by omega) (by omega) (by omega)
theorem Ext.hi {ad ad' : Nat → Nat → Int → Nat} {t n : Nat} (h : Ext ad ad' t n) (ht : 24 ≤ t ∧ t < 33) {t' c : Nat} {i : Int} (h1 : t' ≠ t) (h2 : t' < 40) : ad' t' c i = ad t' c i := h.2.2 t' c i (by omega) (by omega) (by omega)
theorem Ext.dm {ad ad' : Nat → Nat → Int → Nat} {t n : Nat} (h : Ext ad ad' t n) (ht : 24 ≤ t ∧ t < 33) {t' c : Nat} {i : Int} (hne : t' ≠ t) : dmb ad' t' c i = dmb ad t' c i := by
  have e0 := h.fl ht (t' := 40) (c := 13) (Or.inl rfl) (by omega) (i := 0)
  have e1 := h.fl ht (t' := 41) (c := 18) (Or.inr rfl) (by omega) (i := 0)
  have e2 := h.fl ht (t' := 41) (c := 19) (Or.inr rfl) (by omega) (i := 0)
  have e3 := h.fl ht (t' := 41) (c := 20) (Or.inr rfl) (by omega) (i := 0)
  have e4 := h.fl ht (t' := 40) (c := t') (Or.inl rfl) hne (i := 0)
  unfold dmb
  split <;> simp only [e0, e1, e2, e3, e4]
theorem Ext.dt {ad ad' : Nat → Nat → Int → Nat} {t n : Nat} (h : Ext ad ad' t n) (ht : 24 ≤ t ∧ t < 33) {c : Nat} {i : Int} : dmb ad' t c i = (c == 2 && i == 0) := by
  have e := h.1
  have : t = 24 ∨ t = 25 ∨ t = 26 ∨ t = 27 ∨ t = 28 ∨ t = 29 ∨ t = 30 ∨ t = 31 ∨ t = 32 := by omega
  rcases this with rfl | rfl | rfl | rfl | rfl | rfl | rfl | rfl | rfl <;> simp [dmb, e]
/-- what stands in cells of the kinds below 24 (and, apart from t, of those below 32) -/
theorem Ext.cl {cy : Nat → ClassId} {ad ad' : Nat → Nat → Int → Nat} {t n : Nat} (h : Ext ad ad' t n) (ht : 24 ≤ t ∧ t < 33) {M M' : Mem} {t' c : Nat} {i : Int} (hd : dmb ad t' c i = true) (hne : t' ≠ t) (h32 : t' < 32)
    (hM : ∀ (c1 k1 : Nat) (i1 : Int), owner c1 k1 i1 ≠ (t, 2, 0) → M' c1 k1 i1 = M c1 k1 i1) : cel cy ad' M' t' c i = cel cy ad M t' c i := by
  rw [cel_indep (cy := cy) (ad := ad') (M := M) (M1 := M') (by rw [h.dm ht hne]; exact hd) (fun c1 k1 i1 ho => hM c1 k1 i1 (fun z => hne (congrArg Prod.fst (ho.symm.trans z))))]
  have e1 := h.fl ht (t' := 41) (c := 18) (Or.inr rfl) (by omega) (i := 0)
  have e2 := h.fl ht (t' := 41) (c := 19) (Or.inr rfl) (by omega) (i := 0)
  have e3 := h.fl ht (t' := 41) (c := 20) (Or.inr rfl) (by omega) (i := 0)
  have e4 := h.fl ht (t' := 41) (c := t') (Or.inr rfl) hne (i := 0)
  have lo : ∀ {a : Nat} {c1 : Nat} {i1 : Int}, a < 24 → ad' a c1 i1 = ad a c1 i1 := fun h9 => h.lo ht h9
  have hb : t' < 32 := h32
  have : t' = 0 ∨ t' = 1 ∨ t' = 2 ∨ t' = 3 ∨ t' = 4 ∨ t' = 5 ∨ t' = 6 ∨ t' = 7 ∨ t' = 8 ∨ t' = 9 ∨ t' = 10 ∨ t' = 11 ∨ t' = 12 ∨ t' = 13 ∨ t' = 14 ∨ t' = 15 ∨ t' = 16 ∨ t' = 17 ∨ t' = 18 ∨ t' = 19 ∨ t' = 20 ∨ t' = 21 ∨ t' = 22 ∨ t' = 23 ∨ t' = 24 ∨ t' = 25 ∨ t' = 26 ∨ t' = 27 ∨ t' = 28 ∨ t' = 29 ∨ t' = 30 ∨ t' = 31 := by omega
  rcases this with rfl | rfl | rfl | rfl | rfl | rfl | rfl | rfl | rfl | rfl | rfl | rfl | rfl | rfl | rfl | rfl | rfl | rfl | rfl | rfl | rfl | rfl | rfl | rfl | rfl | rfl | rfl | rfl | rfl | rfl | rfl | rfl
  · simp only [cel, lo (show 1 < 24 by decide)]
  · simp only [cel, lo (show 2 < 24 by decide), lo (show 3 < 24 by decide), lo (show 4 < 24 by decide), lo (show 5 < 24 by decide), lo (show 6 < 24 by decide), lo (show 7 < 24 by decide), lo (show 8 < 24 by decide)]
  · rfl
  · rfl
  · rfl
  · rfl
  · simp only [cel, lo (show 9 < 24 by decide)]
  · simp only [cel, lo (show 11 < 24 by decide)]
  · simp only [cel, lo (show 12 < 24 by decide)]
  · simp only [cel, lo (show 10 < 24 by decide)]
  · rfl
  · rfl
  · rfl
  · simp only [cel, lo (show 14 < 24 by decide), lo (show 15 < 24 by decide), lo (show 16 < 24 by decide), lo (show 17 < 24 by decide), lo (show 18 < 24 by decide), lo (show 19 < 24 by decide), lo (show 20 < 24 by decide)]
  · rfl
  · rfl
  · rfl
  · rfl
  · simp only [cel, e1, lo (show 21 < 24 by decide)]
  · simp only [cel, e2, lo (show 22 < 24 by decide)]
  · simp only [cel, e3, lo (show 23 < 24 by decide)]
  · rfl
  · rfl
  · rfl
  all_goals simp only [cel, e4]
/-- an array of the law's own forgotten -/
theorem Ext.less {cy : Nat → ClassId} {ad ad' : Nat → Nat → Int → Nat} {t n : Nat} (h : Ext ad ad' t n) (ht : 24 ≤ t ∧ t < 33) (h0 : ad 40 t 0 ≠ 1) (h32 : ad 40 32 0 ≠ 1) {M M' : Mem} (hM : ∀ (c1 k1 : Nat) (i1 : Int), owner c1 k1 i1 ≠ (t, 2, 0) → M' c1 k1 i1 = M c1 k1 i1) : Less cy ad M ad' M' := by
  intro t' c i hd
  have hb := (dm_bd hd).1
  have hne : t' ≠ t := by
    rintro rfl
    have : t' = 24 ∨ t' = 25 ∨ t' = 26 ∨ t' = 27 ∨ t' = 28 ∨ t' = 29 ∨ t' = 30 ∨ t' = 31 ∨ t' = 32 := by omega
    rcases this with rfl | rfl | rfl | rfl | rfl | rfl | rfl | rfl | rfl <;> (simp [dmb] at hd; exact h0 hd.2)
  have hne2 : t' ≠ 32 := by
    rintro rfl
    simp [dmb] at hd
    exact h32 hd.2
  exact ⟨by rw [h.dm ht hne]; exact hd, h.hi ht hne (by omega), h.cl ht hd hne (by omega) hM⟩
theorem Ext.inj {ad ad' : Nat → Nat → Int → Nat} {t n : Nat} (h : Ext ad ad' t n) (ht : 24 ≤ t ∧ t < 33) (hI : Inj ad) (hq : ∀ (t' c : Nat) (i : Int), dmb ad t' c i = true → t' ≠ t → ad t' c i ≠ ad' t 2 0) : Inj ad' := by
  intro t1 c1 i1 t2 c2 i2 h1 h2 he
  by_cases e1 : t1 = t
  · subst e1
    rw [h.dt ht] at h1
    simp only [Bool.and_eq_true, beq_iff_eq] at h1
    obtain ⟨rfl, rfl⟩ := h1
    by_cases e2 : t2 = t1
    · subst e2
      rw [h.dt ht] at h2
      simp only [Bool.and_eq_true, beq_iff_eq] at h2
      obtain ⟨rfl, rfl⟩ := h2
      rfl
    · rw [h.dm ht e2] at h2
      have hb := (dm_bd h2).1
      rw [h.hi ht e2 (by omega)] at he
      exact absurd he.symm (hq t2 c2 i2 h2 e2)
  · rw [h.dm ht e1] at h1
    have hb := (dm_bd h1).1
    rw [h.hi ht e1 (by omega)] at he
    by_cases e2 : t2 = t
    · subst e2
      rw [h.dt ht] at h2
      simp only [Bool.and_eq_true, beq_iff_eq] at h2
      obtain ⟨rfl, rfl⟩ := h2
      exact absurd he (hq t1 c1 i1 h1 e1)
    · rw [h.dm ht e2] at h2
      have hb2 := (dm_bd h2).1
      rw [h.hi ht e2 (by omega)] at he
      exact hI t1 c1 i1 t2 c2 i2 h1 h2 he
def zk (S : St) (k : Nat) : St := fun k' i => if k' = k then 0 else S k' i
theorem zk_at (S : St) (k : Nat) (i : Int) : zk S k k i = 0 := if_pos rfl
theorem zk_ne (S : St) {k k' : Nat} (i : Int) (h : k' ≠ k) : zk S k k' i = S k' i := if_neg h
theorem zk_oth {M : Mem} {t : Nat} (ht : 24 ≤ t ∧ t < 32) : ∀ (c1 k1 : Nat) (i1 : Int), owner c1 k1 i1 ≠ (t, 2, 0) → setc M 4 (zk (M 4) (t - 24)) c1 k1 i1 = M c1 k1 i1 := by
  intro c1 k1 i1 h
  unfold setc
  by_cases h1 : c1 = 4
  · subst h1
    rw [if_pos rfl]
    refine zk_ne _ _ (fun e => h ?_)
    subst e
    unfold owner
    rw [if_neg (by decide), if_neg (by decide), if_pos (by omega)]
    congr 1
    omega
  · rw [if_neg h1]
theorem cA_int {cy : Nat → ClassId} {D : va_G} {s : State} {cA : ClassId} (hK : va_K D vwCl (tyl cy) s) (h : va_K D vwCl (tyl cy ++ [(cA, .int)]) s) : cA = cy 0 := by
  have h1 : va_RA s cA .int := (h.2 5 (cA, .int) rfl).2
  have h2 : va_RA s (cy 0) .int := (hK.2 0 (cy 0, .int) rfl).2
  exact Option.some.inj (h1.symm.trans h2)
theorem Fx.ext {p : Program} {s : State} {m : MethodId} {args : Array Value} {meth : Method} {c : Code} {own : String} {cc : ByteArray} {nL : Nat} {ret : Option FieldType} {cy : Nat → ClassId} {D : va_G} {ad ad' : Nat → Nat → Int → Nat} {A : Nat → Prop} (F : Fx p s m args meth c own cc nL ret cy D ad A) (hI : Inj ad') (hA : ∀ (t c : Nat) (i : Int), dmb ad' t c i = true → A (ad' t c i)) : Fx p s m args meth c own cc nL ret cy D ad' A := by
  obtain ⟨hx, hb, hml, hown, hr, hlk, hts, hK, -, -, hA2⟩ := F
  exact ⟨hx, hb, hml, hown, hr, hlk, hts, hK, hI, hA, hA2⟩
section ALLOC
variable {p : Program} {l : Launch} {e : Env} {R : Room} {s : State} {m : MethodId} {args : Array Value} {below : List Frame} {meth : Method} {c : Code} {nL : Nat} {cy : Nat → ClassId} {D : va_G} {ad : Nat → Nat → Int → Nat} {A : Nat → Prop} {kc ks : Nat} {Q : State → Prop} {pc : Nat} {lv : List (Option Value)} {st : List Value} {M : Mem} {own : String} {cc : ByteArray} {ret : Option FieldType}
theorem V.drop {ad' : Nat → Nat → Int → Nat} {M' : Mem} (h : Less cy ad M ad' M') (k : V p l e R s m args below meth c nL cy D ad A kc ks Q pc lv st M) : V p l e R s m args below meth c nL cy D ad' A kc ks Q pc lv st M' := fun H locs ls hP hS hl => k H locs ls (ws_less h hP) hS hl
theorem r_newa (F : Fx p s m args meth c own cc nL ret cy D ad A) (t : Nat) (ht : 24 ≤ t ∧ t < 32) (h0 : ad 40 t 0 ≠ 1) (h32 : ad 40 32 0 ≠ 1) {n : Int} (N : Nat) (d : decode cc pc = .ok (.newarray .int, 2)) (harr : Cond.arrayClass .int ∈ TB) (hn : n = (N : Int)) (hN : N < 1000) (hf : kc + 1 ≤ R.cells ∧ ks + N ≤ R.slots)
    (kk : ∀ ad' : Nat → Nat → Int → Nat, Ext ad ad' t N → Fx p s m args meth c own cc nL ret cy D ad' A → V p l e R s m args below meth c nL cy D ad' A (kc + 1) (ks + N) Q (pc + 2) lv (.ref (ad' t 2 0) :: st) (setc M 4 (zk (M 4) (t - 24)))) : V p l e R s m args below meth c nL cy D ad A kc ks Q pc lv (.int (i32 n) :: st) M := by
  have F9 := F
  obtain ⟨hx, hb, hml, hown, hr, hlk, hts, hK, hI, hA1, hA2⟩ := F
  subst hn
  intro H locs ls hP hS hl
  refine va_newa (atype := .int) hx hb (hts _ harr) (ty := .int) rfl hK.1 hP (wsD hI hA1 M) hS hA2 (N' := N) (a0 := (N, .inl (fun _ => 0))) (fun cA => by rw [vp_cell_i]; rfl) (by have h := (i32_lt0 (a := (N : Int)) ⟨by omega, by omega⟩); intro z; have := h.mp z; omega) (by rw [i32_cl (by omega) (by omega)]; omega) (by show N * 4 ≤ _; omega) hf.1 hf.2 d (fun q cA H1 hK1 hP1 hD1 hS1 => ?_)
  rw [cA_int hK.1 hK1] at hP1 hD1
  have E := adn_ext (ad := ad) (t := t) (q := q) (n := N) (by omega)
  have ht2 : 24 ≤ t ∧ t < 33 := by omega
  have hat : adn ad t q N t 2 0 = q := adn_at ad t q N
  have hlt : ∀ {k : Nat} {x : Nat × va_E}, (wsOf cy ad M)[k]? = some x → k < (wsOf cy ad M).length := fun h => (List.getElem?_eq_some_iff.mp h).1
  have hlast : (wsOf cy ad M ++ [(q, Sum.inl (cy 0, N, Sum.inl (fun _ => (0 : Int32))))])[(wsOf cy ad M).length]? = some (q, Sum.inl (cy 0, N, Sum.inl (fun _ => (0 : Int32)))) := by rw [List.getElem?_append_right (Nat.le_refl _), Nat.sub_self]; rfl
  have hI1 : Inj (adn ad t q N) := E.inj ht2 hI (fun t' c' i' hd hne he => by
    rw [hat] at he
    obtain ⟨q0, -, hq0⟩ := ws_at (cy := cy) (ad := ad) M hd
    have := hD1.1 q0 (wsOf cy ad M).length _ _ (by rw [List.getElem?_append_left (hlt hq0)]; exact hq0) hlast he
    have := hlt hq0
    omega)
  have hA3 : ∀ (t' c' : Nat) (i' : Int), dmb (adn ad t q N) t' c' i' = true → A (adn ad t q N t' c' i') := fun t' c' i' hd => by
    by_cases e1 : t' = t
    · subst e1
      rw [E.dt ht2] at hd
      simp only [Bool.and_eq_true, beq_iff_eq] at hd
      obtain ⟨rfl, rfl⟩ := hd
      rw [hat]
      exact hD1.2 _ _ hlast
    · rw [E.dm ht2 e1] at hd
      have hb9 := (dm_bd hd).1
      rw [E.hi ht2 e1 (by omega)]
      exact hA1 t' c' i' hd
  have hL := E.less (cy := cy) ht2 h0 h32 (M := M) (M' := setc M 4 (zk (M 4) (t - 24))) (zk_oth ht)
  have K := kk (adn ad t q N) E (F9.ext hI1 hA3)
  rw [hat] at K
  refine K H1 locs ls (ws_of fun t' c' i' hd => ?_) hS1 hl
  by_cases e1 : t' = t
  · subst e1
    rw [E.dt ht2] at hd
    simp only [Bool.and_eq_true, beq_iff_eq] at hd
    obtain ⟨rfl, rfl⟩ := hd
    rw [hat]
    have h9 : va_at D vwCl (q, .inl (cy 0, N, .inl (fun _ => 0))) H1 := hP1 _ _ hlast
    have e2 : cel cy (adn ad t' q N) (setc M 4 (zk (M 4) (t' - 24))) t' 2 0 = .inl (cy 0, N, .inl (fun _ => 0)) := by
      have e3 : adn ad t' q N 41 t' 0 = N := E.2.1
      have hz : ∀ j : Nat, zk (M 4) (t' - 24) (t' - 24) (j : Int) = 0 := fun j => zk_at _ _ _
      have : t' = 24 ∨ t' = 25 ∨ t' = 26 ∨ t' = 27 ∨ t' = 28 ∨ t' = 29 ∨ t' = 30 ∨ t' = 31 := by omega
      rcases this with rfl | rfl | rfl | rfl | rfl | rfl | rfl | rfl <;> (simp only [cel, setc_at, e3]; congr 4)
    rw [e2]
    exact h9
  · have hd2 : dmb ad t' c' i' = true := by rw [E.dm ht2 e1] at hd; exact hd
    obtain ⟨-, g2, g3⟩ := hL t' c' i' hd2
    rw [g2, g3]
    obtain ⟨q0, -, hq0⟩ := ws_at (cy := cy) (ad := ad) M hd2
    exact hP1 q0 _ (by rw [List.getElem?_append_left (hlt hq0)]; exact hq0)
end ALLOC
/-- a method that makes cells, keeps none, and returns -/
def Cm (l : Launch) (cy : Nat → ClassId) (D : va_G) (ad : Nat → Nat → Int → Nat) (y : MethodName) (bytes : ByteArray) (maxL : Nat) (ret : Option FieldType) (lev mc ms : Nat) (As : List Value) (M : Mem) (r : Option Value) (M1 : Mem) : Prop :=
  ∀ sz : Nat, Met l y (wsT y bytes maxL ret) { frames := lev, cells := mc, slots := ms, locals := 30 * lev } (Pn cy D ad sz As M) (Qn cy D ad sz r M1) mc ms (Aw ad sz)
theorem Cm.mk {l : Launch} {cy : Nat → ClassId} {D : va_G} {ad : Nat → Nat → Int → Nat} {y : MethodName} {bytes : ByteArray} {maxL : Nat} {ret : Option FieldType} {lev mc ms : Nat} {As : List Value} {M M1 : Mem} {r : Option Value} {lv : List (Option Value)} (n : Nat)
    (hy : plainName y.cls = true) (hlv : lve As ++ List.replicate n none = lv) (hlen : (lg_sl As).length ≤ maxL)
    (body : ∀ (p : Program) (e : Env) (s : State) (m : MethodId) (below : List Frame) (meth : Method) (c : Code), Fx p s m As.toArray meth c y.cls bytes maxL ret cy D ad (Aw ad s.heap.size) →
      V p l e { frames := lev, cells := mc, slots := ms, locals := 30 * lev } s m As.toArray below meth c maxL cy D ad (Aw ad s.heap.size) 0 0 (MQ below (Qn cy D ad s.heap.size r M1) As.toArray s mc ms (Aw ad s.heap.size)) 0 lv [] M) : Cm l cy D ad y bytes maxL ret lev mc ms As M r M1 := by
  intro sz
  refine Met.ofW (cc := bytes) (maxL := maxL) (ret := ret) hy rfl ?_
  intro p e s m args below meth c s₁ B hml hv
  obtain ⟨rfl, hsz, hP, hK, hI⟩ := hv
  subst hsz
  have hts : ∀ w ∈ TB, w.before As.toArray s = true := fun w hw => atoms_spec (ws := wsT y bytes maxL ret) B.pre w (List.mem_cons_of_mem _ hw)
  have F : Fx p s m As.toArray meth c y.cls bytes maxL ret cy D ad (Aw ad s.heap.size) := ⟨B.exec, B.bytes, hml, findClass_of_methodNamed B.named, B.returns, B.notSynchronized, hts, hK, hI, fun t c i h => Or.inl ⟨t, c, i, h, rfl⟩, fun q h => Or.inr h⟩
  have hl := lv_entry As (n := maxL) hlen
  rw [lg_entry_eq]
  refine body p e s m below meth c F s.heap [] _ hP va_S.rf ⟨hl.1, hl.2.1, fun i v hi => hl.2.2 (i, v) ?_⟩
  have hi2 : (lve As)[i]? = some (some v) := by
    rw [← hlv] at hi
    by_cases h : i < (lve As).length
    · rw [List.getElem?_append_left h] at hi
      exact hi
    · rw [List.getElem?_append_right (by omega), List.getElem?_replicate] at hi
      split at hi <;> cases hi
  simpa using lve_mem As 0 i v hi2
section CALLM
variable {p : Program} {l : Launch} {e : Env} {R : Room} {s : State} {m : MethodId} {args : Array Value} {below : List Frame} {meth : Method} {c : Code} {nL : Nat} {cy : Nat → ClassId} {D : va_G} {ad : Nat → Nat → Int → Nat} {A : Nat → Prop} {kc ks : Nat} {Q : State → Prop} {pc : Nat} {lv : List (Option Value)} {st : List Value} {M : Mem} {own : String} {cc : ByteArray} {ret : Option FieldType}
theorem r_afterM {aa : Array Value} {stk : List Value} {r : Option Value} {M1 : Mem} {mc ms : Nat} (hA1 : ∀ (t c : Nat) (i : Int), dmb ad t c i = true → A (ad t c i)) (hA2 : ∀ q : Nat, s.heap.size ≤ q → A q)
    (run : ∀ (H : Heap) (locs : List Loc) (ls : Array Slot), va_P D vwCl (wsOf cy ad M) H → va_S A s.heap H locs → lvh nL ls lv → va_Run p l e R s m args below meth c H locs kc ks mc ms (F0 m pc ls stk) st (Qn cy D ad H.size r M1 aa) (Aw ad H.size))
    (kk : V p l e R s m args below meth c nL cy D ad A (kc + mc) (ks + ms) Q (pc + 3) lv (r.toList ++ st) M1) : V p l e R s m args below meth c nL cy D ad A kc ks Q pc lv stk M := by
  intro H locs ls hP hS hl T hT X
  obtain ⟨v, st₀, t, T', L, h0, X', hL, e1, e2, ⟨⟨hv, hP1⟩, hz, hk⟩, stp⟩ := run H locs ls hP hS hl T hT X
  cases hv
  rw [h0] at hz hk
  have hsub := Aw_sub hA1 hA2 (sz := H.size) hS.1
  have hS1 : va_S A s.heap T'.heap (locs ++ L) := ⟨Nat.le_trans hS.1 (by rw [e1]; exact hz), fun q h1 h2 => by
      rw [e1, hk q (Nat.lt_of_lt_of_le h1 hS.1) (fun z => h2 (hsub q z))]; exact hS.2.1 q h1 h2, fun q hq => by
      rcases List.mem_append.mp hq with h | h
      · exact hS.2.2 q h
      · exact hsub _ (hL q h)⟩
  obtain ⟨t2, a1, b1⟩ := kk T'.heap (locs ++ L) ls (by rw [e1]; exact hP1) hS1 hl T' rfl X'
  exact ⟨t2, stp t2 a1, b1⟩
theorem r_callM (F : Fx p s m args meth c own cc nL ret cy D ad A) {y : MethodName} {bytes : ByteArray} {maxL n lev mc ms index t cc1 ci N : Nat} {i : Int} {ret1 : Option FieldType} {fs : List Value} {T : u_T} {As stk : List Value} {r : Option Value} {M1 : Mem} (hM : Cm l cy D ad y bytes maxL ret1 lev mc ms (.ref (ad t cc1 i) :: As) M r M1) (d : decode cc pc = .ok (.invokevirtual index, 3)) (lk : LkV own index y n) (hn : As.length = n) (hst : stk = As.reverse ++ .ref (ad t cc1 i) :: st) (hk : dmb ad t cc1 i = true) (hcel : cel cy ad M t cc1 i = .inr (ci, fs)) (hc : vwCl[ci]? = some (y.cls, T, N)) (hcd : Cond.code y bytes maxL ret1 ∈ TB) (hR : lev + 1 ≤ R.frames ∧ 8 + (maxL + 11) + 30 * lev ≤ R.locals) (hf : kc + mc ≤ R.cells ∧ ks + ms ≤ R.slots) (hw : (st.map fun v => v.category).sum ≤ 8) (kk : V p l e R s m args below meth c nL cy D ad A (kc + mc) (ks + ms) Q (pc + 3) lv (r.toList ++ st) M1) : V p l e R s m args below meth c nL cy D ad A kc ks Q pc lv stk M := by
  obtain ⟨hx, hb, hml, hown, hr, hlk, hts, hK, hI, hA1, hA2⟩ := F
  subst hst
  obtain ⟨⟨l1, l2, l3, l4⟩, g1, g2, g3⟩ := lk
  refine r_afterM (aa := (Value.ref (ad t cc1 i) :: As).toArray) hA1 hA2 (fun H locs ls hP hS hl => ?_) kk
  obtain ⟨q0, hq, hw1⟩ := ws_at (cy := cy) (ad := ad) M hk
  refine va_runV (Ts := TB) (C := y.cls) (rm := { frames := lev, cells := mc, slots := ms, locals := 30 * lev }) ⟨hx, hb, hml, hown, hts⟩ (hM H.size) (cwV n hts (tb_good (fun _ h => h) (X := wsV own index y.cls y (wsT y bytes maxL ret1)) ?_) rfl rfl rfl ⟨rfl, g1, g2, g3⟩ hR) ⟨Pn_blind _ _ _ _ _ _, va_recv hK.1 hP hc (by rw [hw1, hcel]), fun U hU hW => ⟨rfl, by rw [hU], by rw [hU]; exact hP, hK.warm hW, hI⟩⟩ rfl hn hl.1 rfl (lv_room hw) d hf
  intro w hw2
  simp only [wsV, List.mem_append, List.mem_cons, List.not_mem_nil, or_false, wsT] at hw2
  rcases hw2 with (rfl | rfl | rfl | rfl) | (rfl | h)
  · exact l1
  · exact l2
  · exact l3
  · exact l4
  · exact hcd
  · exact h
end CALLM
