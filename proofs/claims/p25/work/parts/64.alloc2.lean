/-! Arrays of arrays; rows taken in; contracts of methods that leave cells. -/
theorem asg_self (vm : Vm) (x : ClassId) : vm.assignable x x = true := by
  show Vm.assignableAux vm (255 + 1) x x = true
  rw [Vm.assignableAux, beq_self_eq_true, Bool.true_or]
/-- maps of addresses alike below 42 -/
theorem cel_ad {cy : Nat → ClassId} {ad ad' : Nat → Nat → Int → Nat} {M : Mem} {t c : Nat} {i : Int} (h : ∀ (t c : Nat) (i : Int), t < 42 → ad' t c i = ad t c i) (ht : t < 32) : cel cy ad' M t c i = cel cy ad M t c i := by
  have : t = 0 ∨ t = 1 ∨ t = 2 ∨ t = 3 ∨ t = 4 ∨ t = 5 ∨ t = 6 ∨ t = 7 ∨ t = 8 ∨ t = 9 ∨ t = 10 ∨ t = 11 ∨ t = 12 ∨ t = 13 ∨ t = 14 ∨ t = 15 ∨ t = 16 ∨ t = 17 ∨ t = 18 ∨ t = 19 ∨ t = 20 ∨ t = 21 ∨ t = 22 ∨ t = 23 ∨ t = 24 ∨ t = 25 ∨ t = 26 ∨ t = 27 ∨ t = 28 ∨ t = 29 ∨ t = 30 ∨ t = 31 := by omega
  rcases this with rfl | rfl | rfl | rfl | rfl | rfl | rfl | rfl | rfl | rfl | rfl | rfl | rfl | rfl | rfl | rfl | rfl | rfl | rfl | rfl | rfl | rfl | rfl | rfl | rfl | rfl | rfl | rfl | rfl | rfl | rfl | rfl
  · simp only [cel, (fun c i => h 1 c i (by decide) : ∀ (c : Nat) (i : Int), ad' 1 c i = ad 1 c i)]
  · simp only [cel, (fun c i => h 2 c i (by decide) : ∀ (c : Nat) (i : Int), ad' 2 c i = ad 2 c i), (fun c i => h 3 c i (by decide) : ∀ (c : Nat) (i : Int), ad' 3 c i = ad 3 c i), (fun c i => h 4 c i (by decide) : ∀ (c : Nat) (i : Int), ad' 4 c i = ad 4 c i), (fun c i => h 5 c i (by decide) : ∀ (c : Nat) (i : Int), ad' 5 c i = ad 5 c i), (fun c i => h 6 c i (by decide) : ∀ (c : Nat) (i : Int), ad' 6 c i = ad 6 c i), (fun c i => h 7 c i (by decide) : ∀ (c : Nat) (i : Int), ad' 7 c i = ad 7 c i), (fun c i => h 8 c i (by decide) : ∀ (c : Nat) (i : Int), ad' 8 c i = ad 8 c i)]
  · rfl
  · rfl
  · rfl
  · rfl
  · simp only [cel, (fun c i => h 9 c i (by decide) : ∀ (c : Nat) (i : Int), ad' 9 c i = ad 9 c i)]
  · simp only [cel, (fun c i => h 11 c i (by decide) : ∀ (c : Nat) (i : Int), ad' 11 c i = ad 11 c i)]
  · simp only [cel, (fun c i => h 12 c i (by decide) : ∀ (c : Nat) (i : Int), ad' 12 c i = ad 12 c i)]
  · simp only [cel, (fun c i => h 10 c i (by decide) : ∀ (c : Nat) (i : Int), ad' 10 c i = ad 10 c i)]
  · rfl
  · rfl
  · rfl
  · simp only [cel, (fun c i => h 14 c i (by decide) : ∀ (c : Nat) (i : Int), ad' 14 c i = ad 14 c i), (fun c i => h 15 c i (by decide) : ∀ (c : Nat) (i : Int), ad' 15 c i = ad 15 c i), (fun c i => h 16 c i (by decide) : ∀ (c : Nat) (i : Int), ad' 16 c i = ad 16 c i), (fun c i => h 17 c i (by decide) : ∀ (c : Nat) (i : Int), ad' 17 c i = ad 17 c i), (fun c i => h 18 c i (by decide) : ∀ (c : Nat) (i : Int), ad' 18 c i = ad 18 c i), (fun c i => h 19 c i (by decide) : ∀ (c : Nat) (i : Int), ad' 19 c i = ad 19 c i), (fun c i => h 20 c i (by decide) : ∀ (c : Nat) (i : Int), ad' 20 c i = ad 20 c i)]
  · rfl
  · rfl
  · rfl
  · rfl
  · simp only [cel, (fun c i => h 21 c i (by decide) : ∀ (c : Nat) (i : Int), ad' 21 c i = ad 21 c i), (fun c i => h 41 c i (by decide) : ∀ (c : Nat) (i : Int), ad' 41 c i = ad 41 c i)]
  · simp only [cel, (fun c i => h 22 c i (by decide) : ∀ (c : Nat) (i : Int), ad' 22 c i = ad 22 c i), (fun c i => h 41 c i (by decide) : ∀ (c : Nat) (i : Int), ad' 41 c i = ad 41 c i)]
  · simp only [cel, (fun c i => h 23 c i (by decide) : ∀ (c : Nat) (i : Int), ad' 23 c i = ad 23 c i), (fun c i => h 41 c i (by decide) : ∀ (c : Nat) (i : Int), ad' 41 c i = ad 41 c i)]
  · rfl
  · rfl
  · rfl
  · simp only [cel, (fun c i => h 41 c i (by decide) : ∀ (c : Nat) (i : Int), ad' 41 c i = ad 41 c i)]
  · simp only [cel, (fun c i => h 41 c i (by decide) : ∀ (c : Nat) (i : Int), ad' 41 c i = ad 41 c i)]
  · simp only [cel, (fun c i => h 41 c i (by decide) : ∀ (c : Nat) (i : Int), ad' 41 c i = ad 41 c i)]
  · simp only [cel, (fun c i => h 41 c i (by decide) : ∀ (c : Nat) (i : Int), ad' 41 c i = ad 41 c i)]
  · simp only [cel, (fun c i => h 41 c i (by decide) : ∀ (c : Nat) (i : Int), ad' 41 c i = ad 41 c i)]
  · simp only [cel, (fun c i => h 41 c i (by decide) : ∀ (c : Nat) (i : Int), ad' 41 c i = ad 41 c i)]
  · simp only [cel, (fun c i => h 41 c i (by decide) : ∀ (c : Nat) (i : Int), ad' 41 c i = ad 41 c i)]
  · simp only [cel, (fun c i => h 41 c i (by decide) : ∀ (c : Nat) (i : Int), ad' 41 c i = ad 41 c i)]
theorem dm_ad {ad ad' : Nat → Nat → Int → Nat} {t c : Nat} {i : Int} (h : ∀ (t c : Nat) (i : Int), t < 42 → ad' t c i = ad t c i) : dmb ad' t c i = dmb ad t c i := by
  have e0 := h 40 13 0 (by decide)
  have e1 := h 41 18 0 (by decide)
  have e2 := h 41 19 0 (by decide)
  have e3 := h 41 20 0 (by decide)
  have e4 := h 40 t 0 (by decide)
  unfold dmb
  split <;> simp only [e0, e1, e2, e3, e4]
def Gh (k : Nat) (ad ad' : Nat → Nat → Int → Nat) : Prop := ad' 42 0 0 = k ∧ ∀ (t c : Nat) (i : Int), t < 42 → ad' t c i = ad t c i
def adg (ad : Nat → Nat → Int → Nat) (k : Nat) : Nat → Nat → Int → Nat := fun t c i => if t = 42 then k else ad t c i
theorem adg_gh (ad : Nat → Nat → Int → Nat) (k : Nat) : Gh k ad (adg ad k) := ⟨if_pos rfl, fun t c i h => if_neg (by omega)⟩
theorem inj_map {ad ad' : Nat → Nat → Int → Nat} (f : Nat × Nat × Int → Nat × Nat × Int) (hf : ∀ (t c : Nat) (i : Int), dmb ad' t c i = true → dmb ad (f (t, c, i)).1 (f (t, c, i)).2.1 (f (t, c, i)).2.2 = true ∧ ad' t c i = ad (f (t, c, i)).1 (f (t, c, i)).2.1 (f (t, c, i)).2.2)
    (hi : ∀ (t c : Nat) (i : Int) (t' c' : Nat) (i' : Int), dmb ad' t c i = true → dmb ad' t' c' i' = true → f (t, c, i) = f (t', c', i') → (t, c, i) = (t', c', i')) (h : Inj ad) : Inj ad' := by
  intro t c i t' c' i' h1 h2 he
  obtain ⟨a1, a2⟩ := hf t c i h1
  obtain ⟨b1, b2⟩ := hf t' c' i' h2
  rw [a2, b2] at he
  exact hi t c i t' c' i' h1 h2 (h _ _ _ _ _ _ a1 b1 he)
theorem va_at.lt2 {D : va_G} {cl : List vw_C} {q : Nat × va_E} {H : Heap} (h : va_at D cl q H) : q.1 < H.size := va_at.lt h

section ALLOC2
variable {p : Program} {l : Launch} {e : Env} {R : Room} {s : State} {m : MethodId} {args : Array Value} {below : List Frame} {meth : Method} {c : Code} {nL : Nat} {cy : Nat → ClassId} {D : va_G} {ad : Nat → Nat → Int → Nat} {A : Nat → Prop} {kc ks : Nat} {Q : State → Prop} {pc : Nat} {lv : List (Option Value)} {st : List Value} {M : Mem} {own : String} {cc : ByteArray} {ret : Option FieldType}
theorem V.ghost (F : Fx p s m args meth c own cc nL ret cy D ad A) (k : Nat) (h32 : ad 40 32 0 ≠ 1) (kk : ∀ ad' : Nat → Nat → Int → Nat, Gh k ad ad' → Fx p s m args meth c own cc nL ret cy D ad' A → V p l e R s m args below meth c nL cy D ad' A kc ks Q pc lv st M) : V p l e R s m args below meth c nL cy D ad A kc ks Q pc lv st M := by
  have G := adg_gh ad k
  have hd : ∀ (t c : Nat) (i : Int), dmb (adg ad k) t c i = dmb ad t c i := fun t c i => dm_ad G.2
  have hI : Inj (adg ad k) := by
    intro t c i t' c' i' h1 h2 he
    rw [hd] at h1 h2
    have b1 := (dm_bd h1).1
    have b2 := (dm_bd h2).1
    rw [G.2 t c i (by omega), G.2 t' c' i' (by omega)] at he
    exact F.2.2.2.2.2.2.2.2.1 t c i t' c' i' h1 h2 he
  have hA : ∀ (t c : Nat) (i : Int), dmb (adg ad k) t c i = true → A (adg ad k t c i) := by
    intro t c i h1
    rw [hd] at h1
    have b1 := (dm_bd h1).1
    rw [G.2 t c i (by omega)]
    exact F.2.2.2.2.2.2.2.2.2.1 t c i h1
  refine V.drop (ad := adg ad k) (M := M) (fun t c i h1 => ?_) (kk _ G (F.ext hI hA))
  rw [hd] at h1
  have b1 := (dm_bd h1).1
  have h9 : t ≠ 32 := by
    rintro rfl
    simp [dmb] at h1
    exact h32 h1.2
  exact ⟨h1, (G.2 t c i (by omega)).symm, (cel_ad G.2 (by omega)).symm⟩
theorem o32_oth (M : Mem) (T : St) (h : ∀ (k : Nat) (i : Int), k ≠ 20 → T k i = M 4 k i) : ∀ (c1 k1 : Nat) (i1 : Int), owner c1 k1 i1 ≠ (32, 2, 0) → setc M 4 T c1 k1 i1 = M c1 k1 i1 := by
  intro c1 k1 i1 ho
  by_cases h4 : c1 = 4
  · subst h4
    rw [setc_at]
    refine h k1 i1 (fun e => ho ?_)
    subst e
    rfl
  · rw [setc_ne _ _ h4]
theorem r_newq (F : Fx p s m args meth c own cc nL ret cy D ad A) (h0 : ad 40 32 0 ≠ 1) {n : Int} (N : Nat) {index : Nat} (d : decode cc pc = .ok (.anewarray index, 3)) (hcl : Cond.classLink own index "[I" ∈ TB) (hn : n = (N : Int)) (hN : N < 1000) (hf : kc + 1 ≤ R.cells ∧ ks + N ≤ R.slots)
    (kk : ∀ ad' : Nat → Nat → Int → Nat, Ext ad ad' 32 N → Fx p s m args meth c own cc nL ret cy D ad' A → V p l e R s m args below meth c nL cy D ad' A (kc + 1) (ks + N) Q (pc + 3) lv (.ref (ad' 32 2 0) :: st) (setc M 4 (u2 (u2 (M 4) 20 0 0) 20 1 0))) : V p l e R s m args below meth c nL cy D ad A kc ks Q pc lv (.int (i32 n) :: st) M := by
  have F9 := F
  obtain ⟨hx, hb, hml, hown, hr, hlk, hts, hK, hI, hA1, hA2⟩ := F
  subst hn
  intro H locs ls hP hS hl
  have ecl : (i32 (N : Int)).toNatClampNeg = N := by rw [i32_cl (by omega) (by omega)]; omega
  refine W.anewA (t := .int) hx hb hown (hts _ hcl) (show (Cond.arrayOver (.array .int)).before args s = true from hK.2.2.2.2.2) rfl d rfl (by have h := (i32_lt0 (a := (N : Int)) ⟨by omega, by omega⟩); intro z; have := h.mp z; omega) (by rw [ecl]; omega) hf.1 (by rw [ecl]; exact hf.2) (fun cA kA comp f1 f2 f3 f4 => ?_)
  rw [ecl]
  have hcA : cA = cy 1 := by
    have h2 : va_RA s (cy 1) (.array .int) := (hK.1.2 1 (cy 1, .array .int) rfl).2
    exact Option.some.inj (f1.symm.trans h2)
  subst hcA
  generalize hH1 : H.push ({ cls := cy 1, slots := Array.replicate N .null, vm := .none } : Cell) = H1
  have z1 : H1.size = H.size + 1 := by rw [← hH1, Array.size_push]
  have e1 : H1[H.size]? = some (arrV (cy 1) N (fun _ => .null)) := by rw [← hH1, Array.getElem?_push_size, ← arrV_new]
  have o1 : ∀ q : Nat, q < H.size → H1[q]? = H[q]? := fun q hq => by rw [← hH1, Array.getElem?_push, if_neg (Nat.ne_of_lt hq)]
  have E := adn_ext (ad := ad) (t := 32) (q := H.size) (n := N) (by decide)
  have hat : adn ad 32 H.size N 32 2 0 = H.size := adn_at ad 32 H.size N
  have hI1 : Inj (adn ad 32 H.size N) := E.inj (by decide) hI (fun t' c' i' hd hne he => by
    rw [hat] at he
    have := va_at.lt2 (ws_to hP hd)
    omega)
  have hA3 : ∀ (t' c' : Nat) (i' : Int), dmb (adn ad 32 H.size N) t' c' i' = true → A (adn ad 32 H.size N t' c' i') := fun t' c' i' hd => by
    by_cases e1 : t' = 32
    · subst e1
      rw [E.dt (by decide)] at hd
      simp only [Bool.and_eq_true, beq_iff_eq] at hd
      obtain ⟨rfl, rfl⟩ := hd
      rw [hat]
      exact hA2 _ hS.1
    · rw [E.dm (by decide) e1] at hd
      have hb9 := (dm_bd hd).1
      rw [E.hi (by decide) e1 (by omega)]
      exact hA1 t' c' i' hd
  have K := kk (adn ad 32 H.size N) E (F9.ext hI1 hA3)
  rw [hat] at K
  refine K H1 locs ls (ws_of fun t' c' i' hd => ?_) ⟨Nat.le_trans hS.1 (by omega), fun x h1 h2 => (o1 x (Nat.lt_of_lt_of_le h1 hS.1)).trans (hS.2.1 x h1 h2), hS.2.2⟩ hl
  by_cases e2 : t' = 32
  · subst e2
    rw [E.dt (by decide)] at hd
    simp only [Bool.and_eq_true, beq_iff_eq] at hd
    obtain ⟨rfl, rfl⟩ := hd
    rw [hat]
    show H1[H.size]? = some (vp_cell (cy 1) (adn ad 32 H.size N 41 32 0, .inr (.inr (.inr (.inr (outF _ _))))))
    rw [vp_cell_q, E.2.1, e1]
    congr 1
    refine arrV_congr (fun j hj => ?_)
    unfold outF
    rw [setc_at, u2_i (by decide), u2_at, u2_at, if_neg (by omega), if_neg (fun z => by have := z.2; omega)]
    rfl
  · rw [E.dm (by decide) e2] at hd
    have hb9 := (dm_bd hd).1
    rw [E.hi (by decide) e2 (by omega), E.cl (by decide) hd e2 (by omega) (o32_oth M _ (fun k i hk => by rw [u2_k hk, u2_k hk]))]
    exact (ws_to hP hd).kept (o1 _ (va_at.lt2 (ws_to hP hd)))
theorem r_ast32 (F : Fx p s m args meth c own cc nL ret cy D ad A) {j : Int} {v : Nat} {T : St} (d : decode cc pc = .ok (.aastore, 1)) (h32 : ad 40 32 0 = 1) {t c2 n : Nat} {i : Int} {f : Nat → Int32} (hk : dmb ad t c2 i = true) (hrow : cel cy ad M t c2 i = .inl (cy 0, n, .inl f)) (hv : v = ad t c2 i) (h0 : 0 ≤ j) (h1 : j < (ad 41 32 0 : Int)) (hN : (ad 41 32 0 : Int) < 1000)
    (hset : ∀ q : Nat, outF ad (setc M 4 T) q = if q = j.toNat then some v else outF ad M q) (hoth : ∀ (k : Nat) (i : Int), k ≠ 20 → T k i = M 4 k i) (kk : V p l e R s m args below meth c nL cy D ad A kc ks Q (pc + 1) lv st (setc M 4 T)) : V p l e R s m args below meth c nL cy D ad A kc ks Q pc lv (.ref v :: .int (i32 j) :: .ref (ad 32 2 0) :: st) M := by
  obtain ⟨hx, hb, hml, hown, hr, hlk, hts, hK, hI, hA1, hA2⟩ := F
  subst hv
  intro H locs ls hP hS hl
  have hd := dm32 h32
  obtain ⟨q0, hq, hw⟩ := ws_at (cy := cy) (ad := ad) M hd
  obtain ⟨comp, cA, kA, c1, c2', c3, c4, c5⟩ := arrayOverA_spec (show (Cond.arrayOver (.array .int)).before args s = true from hK.2.2.2.2.2)
  have hcA : cA = cy 1 := by
    have h2 : va_RA s (cy 1) (.array .int) := (hK.1.2 1 (cy 1, .array .int) rfl).2
    exact Option.some.inj (c5.symm.trans h2)
  have hco : comp = cy 0 := by
    have h2 : va_RA s (cy 0) .int := (hK.1.2 0 (cy 0, .int) rfl).2
    exact Option.some.inj (c1.symm.trans h2)
  subst hcA
  subst hco
  obtain ⟨kC, hkC, -⟩ := Vm.findClass_spec c1
  have hcell : H[ad 32 2 0]? = some (arrV (cy 1) (ad 41 32 0) (fun j => va_rf (outF ad M j))) := ws_to hP hd
  have hrw : H[ad t c2 i]? = some (arrV (cy 0) n (fun j => .int (f j))) := by
    have h9 := ws_to hP hk
    rw [hrow] at h9
    exact h9
  have ej : (i32 j).toNatClampNeg = j.toNat := i32_cl h0 (by omega)
  refine W.aast (cv := arrV (cy 0) n (fun j => .int (f j))) hx hb hcell (fun q h => by cases h) (fun h => by cases h) c3 c4 rfl hkC ⟨by have h := (i32_lt0 (a := j) ⟨by omega, by omega⟩); intro z; have := h.mp z; omega, by rw [arrV_size, ej]; omega⟩ hrw (fun q h => by cases h) hkC (asg_self _ _) rfl rfl d fun H1 e z oq => ?_
  rw [ej, arrV_store] at e
  have hws : va_P D vwCl (wsOf cy ad (setc M 4 T)) H1 := by
    have h9 := hP.set (wsD hI hA1 M) (a := ad 32 2 0) (e := cel cy ad (setc M 4 T) 32 2 0) hw (H1 := H1) (by
      show H1[ad 32 2 0]? = some (vp_cell (cy 1) (ad 41 32 0, .inr (.inr (.inr (.inr (outF ad (setc M 4 T)))))))
      rw [vp_cell_q, e]
      congr 1
      refine arrV_congr (fun q hq => ?_)
      rw [hset q]
      unfold updV
      by_cases h : q = j.toNat
      · rw [if_pos h, if_pos h]; rfl
      · rw [if_neg h, if_neg h]) oq
    rw [ws_set hq rfl (o32_oth M T hoth)] at h9
    exact h9
  exact kk H1 _ ls hws (hS.put z oq (hA1 32 2 0 hd)) hl
end ALLOC2
/-- what a row taken in changes in the map of addresses: outer array 18 + k, row n of kind 21 + k -/
def Adp (k n : Nat) (ad ad' : Nat → Nat → Int → Nat) : Prop := ad' (18 + k) 2 0 = ad 32 2 0 ∧ ad' (21 + k) 2 (n : Int) = ad 31 2 0 ∧ ad' 41 (18 + k) 0 = n + 1 ∧ ad' 40 31 0 = 0 ∧ ad' 40 32 0 = 0 ∧ ∀ (t c : Nat) (i : Int), ¬ (t = 18 + k ∧ c = 2 ∧ i = 0) → ¬ (t = 21 + k ∧ c = 2 ∧ i = (n : Int)) → ¬ (t = 41 ∧ c = 18 + k ∧ i = 0) → ¬ (t = 40 ∧ (c = 31 ∨ c = 32) ∧ i = 0) → ad' t c i = ad t c i
def adp (ad : Nat → Nat → Int → Nat) (k n : Nat) : Nat → Nat → Int → Nat := fun t c i => if t = 18 + k ∧ c = 2 ∧ i = 0 then ad 32 2 0 else if t = 21 + k ∧ c = 2 ∧ i = (n : Int) then ad 31 2 0 else if t = 41 ∧ c = 18 + k ∧ i = 0 then n + 1 else if t = 40 ∧ (c = 31 ∨ c = 32) ∧ i = 0 then 0 else ad t c i
theorem adp_is {ad : Nat → Nat → Int → Nat} {k n : Nat} (hk : k < 3) : Adp k n ad (adp ad k n) := by
  refine ⟨if_pos ⟨rfl, rfl, rfl⟩, ?_, ?_, ?_, ?_, fun t c i h1 h2 h3 h4 => ?_⟩
  · unfold adp; rw [if_neg (by omega), if_pos ⟨rfl, rfl, rfl⟩]
  · unfold adp; rw [if_neg (by omega), if_neg (by omega), if_pos ⟨rfl, rfl, rfl⟩]
  · unfold adp; rw [if_neg (by omega), if_neg (by omega), if_neg (by omega), if_pos ⟨rfl, Or.inl rfl, rfl⟩]
  · unfold adp; rw [if_neg (by omega), if_neg (by omega), if_neg (by omega), if_pos ⟨rfl, Or.inr rfl, rfl⟩]
  · unfold adp; rw [if_neg h1, if_neg h2, if_neg h3, if_neg h4]
theorem at_set9 {cy : Nat → ClassId} {D : va_G} {ad : Nat → Nat → Int → Nat} {M : Mem} {H1 : Heap} {q0 t0 c0 : Nat} {i0 : Int} {x : Nat × va_E} (hq : (keys ad)[q0]? = some (t0, c0, i0)) (h : va_P D vwCl ((wsOf cy ad M).set q0 x) H1) {t c : Nat} {i : Int} (hd : dmb ad t c i = true) (hne : t ≠ t0) : va_at D vwCl (ad t c i, cel cy ad M t c i) H1 := by
  obtain ⟨q1, g1, g2⟩ := ws_at (cy := cy) (ad := ad) M hd
  refine h q1 _ ?_
  rw [List.getElem?_set_ne ?_]
  · exact g2
  · rintro rfl
    rw [hq] at g1
    cases g1
    exact hne rfl
section PUTO
variable {p : Program} {l : Launch} {e : Env} {R : Room} {s : State} {m : MethodId} {args : Array Value} {below : List Frame} {meth : Method} {c : Code} {nL : Nat} {cy : Nat → ClassId} {D : va_G} {ad : Nat → Nat → Int → Nat} {A : Nat → Prop} {kc ks : Nat} {Q : State → Prop} {pc : Nat} {lv : List (Option Value)} {st : List Value} {M : Mem} {cc : ByteArray} {ret : Option FieldType}
set_option maxHeartbeats 4000000 in
theorem r_putO0 (F : Fx p s m args meth c RL cc nL ret cy D ad A) (n : Nat) (d : decode cc pc = .ok (.putfield 15, 3)) (hs : ad 40 13 0 = 1) (h31 : ad 40 31 0 = 1) (h32 : ad 40 32 0 = 1) (hgh : ad 42 0 0 = 0) (hn : ad 41 18 0 = n) (hn2 : n < 5) (h41 : ad 41 32 0 = n + 1) (hm0 : M 4 20 0 = (n : Int)) (hm1 : M 4 20 1 = 1) (hlen : ad 41 31 0 = 12) {S2 : St}
    (hrow : ∀ j : Nat, j < 12 → lanV (setc M 2 S2) 2 (n : Int) j = M 4 7 (j : Int)) (hsame : ∀ (kd : Nat) (i : Int), ((kd = 4 ∧ i = (n : Int)) ∨ (kd = 5 ∧ i / 10 = (n : Int)) ∨ (kd = 6 ∧ i = (n : Int))) ∨ (kd = 20 ∧ i = 1) ∨ S2 kd i = M 2 kd i)
    (kk : ∀ ad' : Nat → Nat → Int → Nat, Adp 0 n ad ad' → Fx p s m args meth c RL cc nL ret cy D ad' A → V p l e R s m args below meth c nL cy D ad' A kc ks Q (pc + 3) lv st (setc M 2 S2)) : V p l e R s m args below meth c nL cy D ad A kc ks Q pc lv (.ref (ad 32 2 0) :: .ref (ad 13 2 0) :: st) M := by
  have F9 := F
  obtain ⟨hx, hb, hml, hown, hr, hlk, hts, hK, hI, hA1, hA2⟩ := F
  intro H locs ls hP hS hl
  obtain ⟨q0, hq, hw⟩ := ws_at (cy := cy) (ad := ad) M (dm13 hs)
  refine va_put hx hb hts inT_X5 tyX5 tyX5_ok nmX5 hown hK.1 hP (wsD hI hA1 M) hS q0 (fs := [.int (i32 (M 2 20 0)), .int (i32 (M 2 20 4)), .int (i32 (M 2 20 5)), .ref (ad 14 2 0), .ref (ad 15 2 0), .ref (ad 16 2 0), .ref (ad 17 2 0), .ref (ad 18 2 0), .ref (ad 19 2 0), .ref (ad 20 2 0)]) (by rw [hw]; rfl) (ci := 5) (C := RX5) (T := TX5) (N := 10) rfl 7 (by decide) (hts _ lf_L_15) (fun _ h => h) rfl (ty := .array (.array .int)) (by decide +kernel) rfl rfl (by show 7 < 10; decide) d (fun H1 locs1 hP1 hD1 hS1 => ?_)
  have hat : ∀ (t c : Nat) (i : Int), dmb ad t c i = true → t ≠ 13 → va_at D vwCl (ad t c i, cel cy ad M t c i) H1 := fun t c i h1 h2 => at_set9 hq hP1 h1 h2
  have h13 : va_at D vwCl (ad 13 2 0, .inr (5, ([.int (i32 (M 2 20 0)), .int (i32 (M 2 20 4)), .int (i32 (M 2 20 5)), .ref (ad 14 2 0), .ref (ad 15 2 0), .ref (ad 16 2 0), .ref (ad 17 2 0), .ref (ad 18 2 0), .ref (ad 19 2 0), .ref (ad 20 2 0)] : List Value).set 7 (.ref (ad 32 2 0)))) H1 := hP1 q0 _ (List.getElem?_set_self (List.getElem?_eq_some_iff.mp hw).1)
  have E := adp_is (ad := ad) (k := 0) (n := n) (by decide)
  generalize hG : adp ad 0 n = ad' at E
  obtain ⟨E1, E2, E3, E4, E5, E6⟩ := E
  have hlow : ∀ (t c : Nat) (i : Int), t < 40 → t ≠ 18 → t ≠ 21 → ad' t c i = ad t c i := fun t c i h1 h2 h3 => E6 t c i (by omega) (by omega) (by omega) (by omega)
  have h40 : ∀ (c : Nat) (i : Int), c ≠ 31 → c ≠ 32 → ad' 40 c i = ad 40 c i := fun c i h1 h2 => E6 40 c i (by omega) (by omega) (by omega) (by omega)
  have h419 : ∀ (c : Nat) (i : Int), c ≠ 18 → ad' 41 c i = ad 41 c i := fun c i h1 => E6 41 c i (by omega) (by omega) (by omega) (by omega)
  have f13 := h40 13 0 (by decide) (by decide)
  have dmx : ∀ (t c : Nat) (i : Int), dmb ad' t c i = true → (t = 21 ∧ c = 2 ∧ i = (n : Int)) ∨ (t ≠ 31 ∧ t ≠ 32 ∧ dmb ad t c i = true) := by
    intro t c i hd
    have hb9 := (dm_bd hd).1
    by_cases e1 : t = 21
    · subst e1
      have hd2 := hd
      simp [dmb, f13, hs, E3] at hd2
      by_cases e2 : i = (n : Int)
      · exact Or.inl ⟨rfl, by omega, e2⟩
      · refine Or.inr ⟨by decide, by decide, ?_⟩
        simp [dmb, hs, hn]
        omega
    · refine Or.inr ⟨?_, ?_, ?_⟩
      · rintro rfl; simp [dmb, E4] at hd
      · rintro rfl; simp [dmb, E5] at hd
      · have n31 : t ≠ 31 := by rintro rfl; simp [dmb, E4] at hd
        have n32 : t ≠ 32 := by rintro rfl; simp [dmb, E5] at hd
        have e4 := h40 t 0 n31 n32
        have g1 : t = 21 ∨ t = 22 ∨ t = 23 ∨ (t ≠ 21 ∧ t ≠ 22 ∧ t ≠ 23) := by omega
        rcases g1 with rfl | rfl | rfl | ⟨g1, g2, g3⟩
        · first | exact absurd rfl e1 | (simp only [dmb, f13, h419 18 0 (by decide)] at hd ⊢; exact hd)
        · first | exact absurd rfl e1 | (simp only [dmb, f13, h419 19 0 (by decide)] at hd ⊢; exact hd)
        · first | exact absurd rfl e1 | (simp only [dmb, f13, h419 20 0 (by decide)] at hd ⊢; exact hd)
        · unfold dmb at hd ⊢
          split at hd <;> first | exact hd | (rw [f13] at hd; exact hd) | omega | (simp_all; done)
  have hM : ∀ (c1 k1 : Nat) (i1 : Int), owner c1 k1 i1 ≠ (21, 2, (n : Int)) → owner c1 k1 i1 ≠ (13, 2, 0) → setc M 2 S2 c1 k1 i1 = M c1 k1 i1 := by
    intro c1 k1 i1 h1 h2
    by_cases e2 : c1 = 2
    · subst e2
      rw [setc_at]
      rcases hsame k1 i1 with h3 | ⟨rfl, rfl⟩ | h3
      · exfalso
        apply h1
        rcases h3 with ⟨rfl, h3⟩ | ⟨rfl, h3⟩ | ⟨rfl, h3⟩ <;> simp [owner, h3]
      · exact absurd rfl h2
      · exact h3
    · rw [setc_ne _ _ e2]
  have hI1 : Inj ad' := by
    refine inj_map (fun x => if x.1 = 18 then (32, 2, 0) else if x.1 = 21 ∧ x.2.2 = (n : Int) then (31, 2, 0) else x) (fun t c i hd => ?_) (fun t c i t' c' i' h1 h2 he => ?_) hI
    · by_cases e1 : t = 18
      · subst e1
        have : c = 2 ∧ i = 0 := by simp [dmb] at hd; omega
        obtain ⟨rfl, rfl⟩ := this
        simp only [if_true]
        exact ⟨dm32 h32, E1⟩
      · rcases dmx t c i hd with ⟨rfl, rfl, rfl⟩ | ⟨g1, g2, g3⟩
        · simp only [show ¬ (21 : Nat) = 18 by decide, if_false, true_and, if_true]
          exact ⟨dm31 h31, E2⟩
        · have hb9 := (dm_bd g3).1
          by_cases e2 : t = 21 ∧ i = (n : Int)
          · exfalso
            obtain ⟨rfl, rfl⟩ := e2
            simp [dmb, hs, hn] at g3
          · simp only [e1, if_false, e2]
            refine ⟨g3, ?_⟩
            by_cases e3 : t = 21
            · exact E6 t c i (by omega) (by omega) (by omega) (by omega)
            · exact hlow t c i (by omega) e1 e3
    · have key : ∀ (t c : Nat) (i : Int), dmb ad' t c i = true → (t = 18 ∧ c = 2 ∧ i = 0) ∨ (t = 21 ∧ c = 2 ∧ i = (n : Int)) ∨ (t ≠ 18 ∧ ¬ (t = 21 ∧ i = (n : Int)) ∧ t ≠ 31 ∧ t ≠ 32) := by
        intro t c i hd
        by_cases e1 : t = 18
        · subst e1
          have : c = 2 ∧ i = 0 := by simp [dmb] at hd; omega
          exact Or.inl ⟨rfl, this⟩
        · rcases dmx t c i hd with h | ⟨g1, g2, g3⟩
          · exact Or.inr (Or.inl h)
          · refine Or.inr (Or.inr ⟨e1, ?_, g1, g2⟩)
            rintro ⟨rfl, rfl⟩
            simp [dmb, hs, hn] at g3
      rcases key t c i h1 with ⟨rfl, rfl, rfl⟩ | ⟨rfl, rfl, rfl⟩ | ⟨a1, a2, a3, a4⟩ <;> rcases key t' c' i' h2 with ⟨rfl, rfl, rfl⟩ | ⟨rfl, rfl, rfl⟩ | ⟨b1, b2, b3, b4⟩ <;> first | rfl | (exfalso; simp at he; done) | (exfalso; simp [*] at he; omega) | (exfalso; simp [*] at he; done) | (simp only [a1, a2, b1, b2, if_false] at he; exact he)
  have hA3 : ∀ (t c : Nat) (i : Int), dmb ad' t c i = true → A (ad' t c i) := by
    intro t c i hd
    have hb9 := (dm_bd hd).1
    by_cases e1 : t = 18
    · subst e1
      have : c = 2 ∧ i = 0 := by simp [dmb] at hd; omega
      obtain ⟨rfl, rfl⟩ := this
      rw [E1]
      exact hA1 _ _ _ (dm32 h32)
    · rcases dmx t c i hd with ⟨rfl, rfl, rfl⟩ | ⟨g1, g2, g3⟩
      · rw [E2]; exact hA1 _ _ _ (dm31 h31)
      · by_cases e3 : t = 21
        · by_cases e4 : c = 2 ∧ i = (n : Int)
          · obtain ⟨rfl, rfl⟩ := e4
            subst e3
            rw [E2]; exact hA1 _ _ _ (dm31 h31)
          · rw [E6 t c i (by omega) (by omega) (by omega) (by omega)]
            exact hA1 t c i g3
        · rw [hlow t c i (by omega) e1 e3]
          exact hA1 t c i g3
  refine kk ad' ⟨E1, E2, E3, E4, E5, E6⟩ (F9.ext hI1 hA3) H1 locs1 ls (ws_of fun t c i hd => ?_) hS1 hl
  have hb9 := (dm_bd hd).1
  by_cases e1 : t = 18
  · subst e1
    have : c = 2 ∧ i = 0 := by simp [dmb] at hd; omega
    obtain ⟨rfl, rfl⟩ := this
    rw [E1]
    have h9 : H1[ad 32 2 0]? = some (arrV (cy 1) (ad 41 32 0) (fun j => va_rf (outF ad M j))) := hat 32 2 0 (dm32 h32) (by decide)
    show H1[ad 32 2 0]? = some (arrV (cy 1) (ad' 41 18 0) (fun j => va_rf (some (ad' 21 2 (j : Int)))))
    rw [h9, E3, h41]
    congr 1
    refine arrV_congr (fun j hj => ?_)
    congr 1
    unfold outF
    rw [hm0, hm1, hgh]
    by_cases e2 : j = n
    · subst e2
      rw [if_neg (by omega), if_pos ⟨rfl, rfl⟩, E2]
    · rw [if_pos (by omega), E6 21 2 (j : Int) (by omega) (by omega) (by omega) (by omega)]
  · rcases dmx t c i hd with ⟨rfl, rfl, rfl⟩ | ⟨g1, g2, g3⟩
    · rw [E2]
      have h9 : H1[ad 31 2 0]? = some (vp_cell (cy 0) (ad 41 31 0, .inl (fun j => i32 (M 4 7 (j : Int))))) := hat 31 2 0 (dm31 h31) (by decide)
      show H1[ad 31 2 0]? = some (vp_cell (cy 0) (12, .inl (fun j => i32 (lanV (setc M 2 S2) 2 (n : Int) j))))
      rw [h9, hlen]
      exact congrArg some (cell_congr (fun j hj => by rw [hrow j hj]))
    · by_cases e13 : t = 13
      · subst e13
        have : c = 2 ∧ i = 0 := by simp [dmb] at hd; omega
        obtain ⟨rfl, rfl⟩ := this
        rw [hlow 13 2 0 (by decide) (by decide) (by decide)]
        have ec : cel cy ad' (setc M 2 S2) 13 2 0 = .inr (5, ([.int (i32 (M 2 20 0)), .int (i32 (M 2 20 4)), .int (i32 (M 2 20 5)), .ref (ad 14 2 0), .ref (ad 15 2 0), .ref (ad 16 2 0), .ref (ad 17 2 0), .ref (ad 18 2 0), .ref (ad 19 2 0), .ref (ad 20 2 0)] : List Value).set 7 (.ref (ad 32 2 0))) := by
          have s0 : S2 20 0 = M 2 20 0 := by rcases hsame 20 0 with h3 | h3 | h3 <;> first | exact h3 | omega
          have s4 : S2 20 4 = M 2 20 4 := by rcases hsame 20 4 with h3 | h3 | h3 <;> first | exact h3 | omega
          have s5 : S2 20 5 = M 2 20 5 := by rcases hsame 20 5 with h3 | h3 | h3 <;> first | exact h3 | omega
          simp only [cel, setc_at, s0, s4, s5, E1, hlow 14 2 0 (by decide) (by decide) (by decide), hlow 15 2 0 (by decide) (by decide) (by decide), hlow 16 2 0 (by decide) (by decide) (by decide), hlow 17 2 0 (by decide) (by decide) (by decide), hlow 19 2 0 (by decide) (by decide) (by decide), hlow 20 2 0 (by decide) (by decide) (by decide), List.set]
        rw [ec]
        exact h13
      · have h9 := hat t c i g3 e13
        have nrow : ¬ (t = 21 ∧ i = (n : Int)) := by
          rintro ⟨rfl, rfl⟩
          simp [dmb, hs, hn] at g3
        have ea : ad' t c i = ad t c i := by
          by_cases e3 : t = 21
          · exact E6 t c i (by omega) (by omega) (by omega) (by omega)
          · exact hlow t c i (by omega) e1 e3
        rw [ea]
        have ec : cel cy ad' (setc M 2 S2) t c i = cel cy ad M t c i := by
          rw [cel_indep (cy := cy) (ad := ad') (M := M) (M1 := setc M 2 S2) hd (fun c1 k1 i1 ho => hM c1 k1 i1 (fun z => nrow (by rw [ho] at z; cases z; exact ⟨rfl, rfl⟩)) (fun z => e13 (by rw [ho] at z; cases z; rfl)))]
          have lo9 : ∀ (a : Nat), a < 40 → a ≠ 18 → a ≠ 21 → ∀ (c1 : Nat) (i1 : Int), ad' a c1 i1 = ad a c1 i1 := fun a h1 h2 h3 c1 i1 => hlow a c1 i1 h1 h2 h3
          have : t = 0 ∨ t = 1 ∨ t = 2 ∨ t = 3 ∨ t = 4 ∨ t = 5 ∨ t = 6 ∨ t = 7 ∨ t = 8 ∨ t = 9 ∨ t = 10 ∨ t = 11 ∨ t = 12 ∨ t = 14 ∨ t = 15 ∨ t = 16 ∨ t = 17 ∨ t = 19 ∨ t = 20 ∨ t = 21 ∨ t = 22 ∨ t = 23 ∨ t = 24 ∨ t = 25 ∨ t = 26 ∨ t = 27 ∨ t = 28 ∨ t = 29 ∨ t = 30 := by omega
          rcases this with rfl | rfl | rfl | rfl | rfl | rfl | rfl | rfl | rfl | rfl | rfl | rfl | rfl | rfl | rfl | rfl | rfl | rfl | rfl | rfl | rfl | rfl | rfl | rfl | rfl | rfl | rfl | rfl | rfl
          · simp only [cel, lo9 1 (by decide) (by decide) (by decide)]
          · simp only [cel, lo9 2 (by decide) (by decide) (by decide), lo9 3 (by decide) (by decide) (by decide), lo9 4 (by decide) (by decide) (by decide), lo9 5 (by decide) (by decide) (by decide), lo9 6 (by decide) (by decide) (by decide), lo9 7 (by decide) (by decide) (by decide), lo9 8 (by decide) (by decide) (by decide)]
          · rfl
          · rfl
          · rfl
          · rfl
          · simp only [cel, lo9 9 (by decide) (by decide) (by decide)]
          · simp only [cel, lo9 11 (by decide) (by decide) (by decide)]
          · simp only [cel, lo9 12 (by decide) (by decide) (by decide)]
          · simp only [cel, lo9 10 (by decide) (by decide) (by decide)]
          · rfl
          · rfl
          · rfl
          · rfl
          · rfl
          · rfl
          · rfl
          · simp only [cel, lo9 22 (by decide) (by decide) (by decide), h419 19 0 (by decide)]
          · simp only [cel, lo9 23 (by decide) (by decide) (by decide), h419 20 0 (by decide)]
          · rfl
          · rfl
          · rfl
          · simp only [cel, h419 24 0 (by decide)]
          · simp only [cel, h419 25 0 (by decide)]
          · simp only [cel, h419 26 0 (by decide)]
          · simp only [cel, h419 27 0 (by decide)]
          · simp only [cel, h419 28 0 (by decide)]
          · simp only [cel, h419 29 0 (by decide)]
          · simp only [cel, h419 30 0 (by decide)]
        rw [ec]
        exact h9
set_option maxHeartbeats 4000000 in
theorem r_putO1 (F : Fx p s m args meth c RL cc nL ret cy D ad A) (n : Nat) (d : decode cc pc = .ok (.putfield 64, 3)) (hs : ad 40 13 0 = 1) (h31 : ad 40 31 0 = 1) (h32 : ad 40 32 0 = 1) (hgh : ad 42 0 0 = 1) (hn : ad 41 19 0 = n) (hn2 : n < 4) (h41 : ad 41 32 0 = n + 1) (hm0 : M 4 20 0 = (n : Int)) (hm1 : M 4 20 1 = 1) (hlen : ad 41 31 0 = 6) {S2 : St}
    (hrow : ∀ j : Nat, j < 6 → watV (setc M 2 S2) 2 (n : Int) j = M 4 7 (j : Int)) (hsame : ∀ (kd : Nat) (i : Int), (7 ≤ kd ∧ kd ≤ 12 ∧ i = (n : Int)) ∨ (kd = 20 ∧ i = 2) ∨ S2 kd i = M 2 kd i)
    (kk : ∀ ad' : Nat → Nat → Int → Nat, Adp 1 n ad ad' → Fx p s m args meth c RL cc nL ret cy D ad' A → V p l e R s m args below meth c nL cy D ad' A kc ks Q (pc + 3) lv st (setc M 2 S2)) : V p l e R s m args below meth c nL cy D ad A kc ks Q pc lv (.ref (ad 32 2 0) :: .ref (ad 13 2 0) :: st) M := by
  have F9 := F
  obtain ⟨hx, hb, hml, hown, hr, hlk, hts, hK, hI, hA1, hA2⟩ := F
  intro H locs ls hP hS hl
  obtain ⟨q0, hq, hw⟩ := ws_at (cy := cy) (ad := ad) M (dm13 hs)
  refine va_put hx hb hts inT_X5 tyX5 tyX5_ok nmX5 hown hK.1 hP (wsD hI hA1 M) hS q0 (fs := [.int (i32 (M 2 20 0)), .int (i32 (M 2 20 4)), .int (i32 (M 2 20 5)), .ref (ad 14 2 0), .ref (ad 15 2 0), .ref (ad 16 2 0), .ref (ad 17 2 0), .ref (ad 18 2 0), .ref (ad 19 2 0), .ref (ad 20 2 0)]) (by rw [hw]; rfl) (ci := 5) (C := RX5) (T := TX5) (N := 10) rfl 8 (by decide) (hts _ lf_L_64) (fun _ h => h) rfl (ty := .array (.array .int)) (by decide +kernel) rfl rfl (by show 8 < 10; decide) d (fun H1 locs1 hP1 hD1 hS1 => ?_)
  have hat : ∀ (t c : Nat) (i : Int), dmb ad t c i = true → t ≠ 13 → va_at D vwCl (ad t c i, cel cy ad M t c i) H1 := fun t c i h1 h2 => at_set9 hq hP1 h1 h2
  have h13 : va_at D vwCl (ad 13 2 0, .inr (5, ([.int (i32 (M 2 20 0)), .int (i32 (M 2 20 4)), .int (i32 (M 2 20 5)), .ref (ad 14 2 0), .ref (ad 15 2 0), .ref (ad 16 2 0), .ref (ad 17 2 0), .ref (ad 18 2 0), .ref (ad 19 2 0), .ref (ad 20 2 0)] : List Value).set 8 (.ref (ad 32 2 0)))) H1 := hP1 q0 _ (List.getElem?_set_self (List.getElem?_eq_some_iff.mp hw).1)
  have E := adp_is (ad := ad) (k := 1) (n := n) (by decide)
  generalize hG : adp ad 1 n = ad' at E
  obtain ⟨E1, E2, E3, E4, E5, E6⟩ := E
  have hlow : ∀ (t c : Nat) (i : Int), t < 40 → t ≠ 19 → t ≠ 22 → ad' t c i = ad t c i := fun t c i h1 h2 h3 => E6 t c i (by omega) (by omega) (by omega) (by omega)
  have h40 : ∀ (c : Nat) (i : Int), c ≠ 31 → c ≠ 32 → ad' 40 c i = ad 40 c i := fun c i h1 h2 => E6 40 c i (by omega) (by omega) (by omega) (by omega)
  have h419 : ∀ (c : Nat) (i : Int), c ≠ 19 → ad' 41 c i = ad 41 c i := fun c i h1 => E6 41 c i (by omega) (by omega) (by omega) (by omega)
  have f13 := h40 13 0 (by decide) (by decide)
  have dmx : ∀ (t c : Nat) (i : Int), dmb ad' t c i = true → (t = 22 ∧ c = 2 ∧ i = (n : Int)) ∨ (t ≠ 31 ∧ t ≠ 32 ∧ dmb ad t c i = true) := by
    intro t c i hd
    have hb9 := (dm_bd hd).1
    by_cases e1 : t = 22
    · subst e1
      have hd2 := hd
      simp [dmb, f13, hs, E3] at hd2
      by_cases e2 : i = (n : Int)
      · exact Or.inl ⟨rfl, by omega, e2⟩
      · refine Or.inr ⟨by decide, by decide, ?_⟩
        simp [dmb, hs, hn]
        omega
    · refine Or.inr ⟨?_, ?_, ?_⟩
      · rintro rfl; simp [dmb, E4] at hd
      · rintro rfl; simp [dmb, E5] at hd
      · have n31 : t ≠ 31 := by rintro rfl; simp [dmb, E4] at hd
        have n32 : t ≠ 32 := by rintro rfl; simp [dmb, E5] at hd
        have e4 := h40 t 0 n31 n32
        have g1 : t = 21 ∨ t = 22 ∨ t = 23 ∨ (t ≠ 21 ∧ t ≠ 22 ∧ t ≠ 23) := by omega
        rcases g1 with rfl | rfl | rfl | ⟨g1, g2, g3⟩
        · first | exact absurd rfl e1 | (simp only [dmb, f13, h419 18 0 (by decide)] at hd ⊢; exact hd)
        · first | exact absurd rfl e1 | (simp only [dmb, f13, h419 19 0 (by decide)] at hd ⊢; exact hd)
        · first | exact absurd rfl e1 | (simp only [dmb, f13, h419 20 0 (by decide)] at hd ⊢; exact hd)
        · unfold dmb at hd ⊢
          split at hd <;> first | exact hd | (rw [f13] at hd; exact hd) | omega | (simp_all; done)
  have hM : ∀ (c1 k1 : Nat) (i1 : Int), owner c1 k1 i1 ≠ (22, 2, (n : Int)) → owner c1 k1 i1 ≠ (13, 2, 0) → setc M 2 S2 c1 k1 i1 = M c1 k1 i1 := by
    intro c1 k1 i1 h1 h2
    by_cases e2 : c1 = 2
    · subst e2
      rw [setc_at]
      rcases hsame k1 i1 with h3 | ⟨rfl, rfl⟩ | h3
      · exfalso
        apply h1
        obtain ⟨g1, g2, g3⟩ := h3; unfold owner; rw [if_neg (by decide), if_pos (by decide), if_neg (by omega), if_neg (by omega), if_neg (by omega), if_neg (by omega), if_pos (by omega), g3]
      · exact absurd rfl h2
      · exact h3
    · rw [setc_ne _ _ e2]
  have hI1 : Inj ad' := by
    refine inj_map (fun x => if x.1 = 19 then (32, 2, 0) else if x.1 = 22 ∧ x.2.2 = (n : Int) then (31, 2, 0) else x) (fun t c i hd => ?_) (fun t c i t' c' i' h1 h2 he => ?_) hI
    · by_cases e1 : t = 19
      · subst e1
        have : c = 2 ∧ i = 0 := by simp [dmb] at hd; omega
        obtain ⟨rfl, rfl⟩ := this
        simp only [if_true]
        exact ⟨dm32 h32, E1⟩
      · rcases dmx t c i hd with ⟨rfl, rfl, rfl⟩ | ⟨g1, g2, g3⟩
        · simp only [show ¬ (22 : Nat) = 19 by decide, if_false, true_and, if_true]
          exact ⟨dm31 h31, E2⟩
        · have hb9 := (dm_bd g3).1
          by_cases e2 : t = 22 ∧ i = (n : Int)
          · exfalso
            obtain ⟨rfl, rfl⟩ := e2
            simp [dmb, hs, hn] at g3
          · simp only [e1, if_false, e2]
            refine ⟨g3, ?_⟩
            by_cases e3 : t = 22
            · exact E6 t c i (by omega) (by omega) (by omega) (by omega)
            · exact hlow t c i (by omega) e1 e3
    · have key : ∀ (t c : Nat) (i : Int), dmb ad' t c i = true → (t = 19 ∧ c = 2 ∧ i = 0) ∨ (t = 22 ∧ c = 2 ∧ i = (n : Int)) ∨ (t ≠ 19 ∧ ¬ (t = 22 ∧ i = (n : Int)) ∧ t ≠ 31 ∧ t ≠ 32) := by
        intro t c i hd
        by_cases e1 : t = 19
        · subst e1
          have : c = 2 ∧ i = 0 := by simp [dmb] at hd; omega
          exact Or.inl ⟨rfl, this⟩
        · rcases dmx t c i hd with h | ⟨g1, g2, g3⟩
          · exact Or.inr (Or.inl h)
          · refine Or.inr (Or.inr ⟨e1, ?_, g1, g2⟩)
            rintro ⟨rfl, rfl⟩
            simp [dmb, hs, hn] at g3
      rcases key t c i h1 with ⟨rfl, rfl, rfl⟩ | ⟨rfl, rfl, rfl⟩ | ⟨a1, a2, a3, a4⟩ <;> rcases key t' c' i' h2 with ⟨rfl, rfl, rfl⟩ | ⟨rfl, rfl, rfl⟩ | ⟨b1, b2, b3, b4⟩ <;> first | rfl | (exfalso; simp at he; done) | (exfalso; simp [*] at he; omega) | (exfalso; simp [*] at he; done) | (simp only [a1, a2, b1, b2, if_false] at he; exact he)
  have hA3 : ∀ (t c : Nat) (i : Int), dmb ad' t c i = true → A (ad' t c i) := by
    intro t c i hd
    have hb9 := (dm_bd hd).1
    by_cases e1 : t = 19
    · subst e1
      have : c = 2 ∧ i = 0 := by simp [dmb] at hd; omega
      obtain ⟨rfl, rfl⟩ := this
      rw [E1]
      exact hA1 _ _ _ (dm32 h32)
    · rcases dmx t c i hd with ⟨rfl, rfl, rfl⟩ | ⟨g1, g2, g3⟩
      · rw [E2]; exact hA1 _ _ _ (dm31 h31)
      · by_cases e3 : t = 22
        · by_cases e4 : c = 2 ∧ i = (n : Int)
          · obtain ⟨rfl, rfl⟩ := e4
            subst e3
            rw [E2]; exact hA1 _ _ _ (dm31 h31)
          · rw [E6 t c i (by omega) (by omega) (by omega) (by omega)]
            exact hA1 t c i g3
        · rw [hlow t c i (by omega) e1 e3]
          exact hA1 t c i g3
  refine kk ad' ⟨E1, E2, E3, E4, E5, E6⟩ (F9.ext hI1 hA3) H1 locs1 ls (ws_of fun t c i hd => ?_) hS1 hl
  have hb9 := (dm_bd hd).1
  by_cases e1 : t = 19
  · subst e1
    have : c = 2 ∧ i = 0 := by simp [dmb] at hd; omega
    obtain ⟨rfl, rfl⟩ := this
    rw [E1]
    have h9 : H1[ad 32 2 0]? = some (arrV (cy 1) (ad 41 32 0) (fun j => va_rf (outF ad M j))) := hat 32 2 0 (dm32 h32) (by decide)
    show H1[ad 32 2 0]? = some (arrV (cy 1) (ad' 41 19 0) (fun j => va_rf (some (ad' 22 2 (j : Int)))))
    rw [h9, E3, h41]
    congr 1
    refine arrV_congr (fun j hj => ?_)
    congr 1
    unfold outF
    rw [hm0, hm1, hgh]
    by_cases e2 : j = n
    · subst e2
      rw [if_neg (by omega), if_pos ⟨rfl, rfl⟩, E2]
    · rw [if_pos (by omega), E6 22 2 (j : Int) (by omega) (by omega) (by omega) (by omega)]
  · rcases dmx t c i hd with ⟨rfl, rfl, rfl⟩ | ⟨g1, g2, g3⟩
    · rw [E2]
      have h9 : H1[ad 31 2 0]? = some (vp_cell (cy 0) (ad 41 31 0, .inl (fun j => i32 (M 4 7 (j : Int))))) := hat 31 2 0 (dm31 h31) (by decide)
      show H1[ad 31 2 0]? = some (vp_cell (cy 0) (6, .inl (fun j => i32 (watV (setc M 2 S2) 2 (n : Int) j))))
      rw [h9, hlen]
      exact congrArg some (cell_congr (fun j hj => by rw [hrow j hj]))
    · by_cases e13 : t = 13
      · subst e13
        have : c = 2 ∧ i = 0 := by simp [dmb] at hd; omega
        obtain ⟨rfl, rfl⟩ := this
        rw [hlow 13 2 0 (by decide) (by decide) (by decide)]
        have ec : cel cy ad' (setc M 2 S2) 13 2 0 = .inr (5, ([.int (i32 (M 2 20 0)), .int (i32 (M 2 20 4)), .int (i32 (M 2 20 5)), .ref (ad 14 2 0), .ref (ad 15 2 0), .ref (ad 16 2 0), .ref (ad 17 2 0), .ref (ad 18 2 0), .ref (ad 19 2 0), .ref (ad 20 2 0)] : List Value).set 8 (.ref (ad 32 2 0))) := by
          have s0 : S2 20 0 = M 2 20 0 := by rcases hsame 20 0 with h3 | h3 | h3 <;> first | exact h3 | omega
          have s4 : S2 20 4 = M 2 20 4 := by rcases hsame 20 4 with h3 | h3 | h3 <;> first | exact h3 | omega
          have s5 : S2 20 5 = M 2 20 5 := by rcases hsame 20 5 with h3 | h3 | h3 <;> first | exact h3 | omega
          simp only [cel, setc_at, s0, s4, s5, E1, hlow 14 2 0 (by decide) (by decide) (by decide), hlow 15 2 0 (by decide) (by decide) (by decide), hlow 16 2 0 (by decide) (by decide) (by decide), hlow 17 2 0 (by decide) (by decide) (by decide), hlow 18 2 0 (by decide) (by decide) (by decide), hlow 20 2 0 (by decide) (by decide) (by decide), List.set]
        rw [ec]
        exact h13
      · have h9 := hat t c i g3 e13
        have nrow : ¬ (t = 22 ∧ i = (n : Int)) := by
          rintro ⟨rfl, rfl⟩
          simp [dmb, hs, hn] at g3
        have ea : ad' t c i = ad t c i := by
          by_cases e3 : t = 22
          · exact E6 t c i (by omega) (by omega) (by omega) (by omega)
          · exact hlow t c i (by omega) e1 e3
        rw [ea]
        have ec : cel cy ad' (setc M 2 S2) t c i = cel cy ad M t c i := by
          rw [cel_indep (cy := cy) (ad := ad') (M := M) (M1 := setc M 2 S2) hd (fun c1 k1 i1 ho => hM c1 k1 i1 (fun z => nrow (by rw [ho] at z; cases z; exact ⟨rfl, rfl⟩)) (fun z => e13 (by rw [ho] at z; cases z; rfl)))]
          have lo9 : ∀ (a : Nat), a < 40 → a ≠ 19 → a ≠ 22 → ∀ (c1 : Nat) (i1 : Int), ad' a c1 i1 = ad a c1 i1 := fun a h1 h2 h3 c1 i1 => hlow a c1 i1 h1 h2 h3
          have : t = 0 ∨ t = 1 ∨ t = 2 ∨ t = 3 ∨ t = 4 ∨ t = 5 ∨ t = 6 ∨ t = 7 ∨ t = 8 ∨ t = 9 ∨ t = 10 ∨ t = 11 ∨ t = 12 ∨ t = 14 ∨ t = 15 ∨ t = 16 ∨ t = 17 ∨ t = 18 ∨ t = 20 ∨ t = 21 ∨ t = 22 ∨ t = 23 ∨ t = 24 ∨ t = 25 ∨ t = 26 ∨ t = 27 ∨ t = 28 ∨ t = 29 ∨ t = 30 := by omega
          rcases this with rfl | rfl | rfl | rfl | rfl | rfl | rfl | rfl | rfl | rfl | rfl | rfl | rfl | rfl | rfl | rfl | rfl | rfl | rfl | rfl | rfl | rfl | rfl | rfl | rfl | rfl | rfl | rfl | rfl
          · simp only [cel, lo9 1 (by decide) (by decide) (by decide)]
          · simp only [cel, lo9 2 (by decide) (by decide) (by decide), lo9 3 (by decide) (by decide) (by decide), lo9 4 (by decide) (by decide) (by decide), lo9 5 (by decide) (by decide) (by decide), lo9 6 (by decide) (by decide) (by decide), lo9 7 (by decide) (by decide) (by decide), lo9 8 (by decide) (by decide) (by decide)]
          · rfl
          · rfl
          · rfl
          · rfl
          · simp only [cel, lo9 9 (by decide) (by decide) (by decide)]
          · simp only [cel, lo9 11 (by decide) (by decide) (by decide)]
          · simp only [cel, lo9 12 (by decide) (by decide) (by decide)]
          · simp only [cel, lo9 10 (by decide) (by decide) (by decide)]
          · rfl
          · rfl
          · rfl
          · rfl
          · rfl
          · rfl
          · rfl
          · simp only [cel, lo9 21 (by decide) (by decide) (by decide), h419 18 0 (by decide)]
          · simp only [cel, lo9 23 (by decide) (by decide) (by decide), h419 20 0 (by decide)]
          · rfl
          · rfl
          · rfl
          · simp only [cel, h419 24 0 (by decide)]
          · simp only [cel, h419 25 0 (by decide)]
          · simp only [cel, h419 26 0 (by decide)]
          · simp only [cel, h419 27 0 (by decide)]
          · simp only [cel, h419 28 0 (by decide)]
          · simp only [cel, h419 29 0 (by decide)]
          · simp only [cel, h419 30 0 (by decide)]
        rw [ec]
        exact h9
set_option maxHeartbeats 4000000 in
theorem r_putO2 (F : Fx p s m args meth c RL cc nL ret cy D ad A) (n : Nat) (d : decode cc pc = .ok (.putfield 21, 3)) (hs : ad 40 13 0 = 1) (h31 : ad 40 31 0 = 1) (h32 : ad 40 32 0 = 1) (hgh : ad 42 0 0 = 2) (hn : ad 41 20 0 = n) (hn2 : n < 6) (h41 : ad 41 32 0 = n + 1) (hm0 : M 4 20 0 = (n : Int)) (hm1 : M 4 20 1 = 1) (hlen : ad 41 31 0 = 7) {S2 : St}
    (hrow : ∀ j : Nat, j < 7 → boaV (setc M 2 S2) 2 (n : Int) j = M 4 7 (j : Int)) (hsame : ∀ (kd : Nat) (i : Int), (13 ≤ kd ∧ kd ≤ 19 ∧ i = (n : Int)) ∨ (kd = 20 ∧ i = 3) ∨ S2 kd i = M 2 kd i)
    (kk : ∀ ad' : Nat → Nat → Int → Nat, Adp 2 n ad ad' → Fx p s m args meth c RL cc nL ret cy D ad' A → V p l e R s m args below meth c nL cy D ad' A kc ks Q (pc + 3) lv st (setc M 2 S2)) : V p l e R s m args below meth c nL cy D ad A kc ks Q pc lv (.ref (ad 32 2 0) :: .ref (ad 13 2 0) :: st) M := by
  have F9 := F
  obtain ⟨hx, hb, hml, hown, hr, hlk, hts, hK, hI, hA1, hA2⟩ := F
  intro H locs ls hP hS hl
  obtain ⟨q0, hq, hw⟩ := ws_at (cy := cy) (ad := ad) M (dm13 hs)
  refine va_put hx hb hts inT_X5 tyX5 tyX5_ok nmX5 hown hK.1 hP (wsD hI hA1 M) hS q0 (fs := [.int (i32 (M 2 20 0)), .int (i32 (M 2 20 4)), .int (i32 (M 2 20 5)), .ref (ad 14 2 0), .ref (ad 15 2 0), .ref (ad 16 2 0), .ref (ad 17 2 0), .ref (ad 18 2 0), .ref (ad 19 2 0), .ref (ad 20 2 0)]) (by rw [hw]; rfl) (ci := 5) (C := RX5) (T := TX5) (N := 10) rfl 9 (by decide) (hts _ lf_L_21) (fun _ h => h) rfl (ty := .array (.array .int)) (by decide +kernel) rfl rfl (by show 9 < 10; decide) d (fun H1 locs1 hP1 hD1 hS1 => ?_)
  have hat : ∀ (t c : Nat) (i : Int), dmb ad t c i = true → t ≠ 13 → va_at D vwCl (ad t c i, cel cy ad M t c i) H1 := fun t c i h1 h2 => at_set9 hq hP1 h1 h2
  have h13 : va_at D vwCl (ad 13 2 0, .inr (5, ([.int (i32 (M 2 20 0)), .int (i32 (M 2 20 4)), .int (i32 (M 2 20 5)), .ref (ad 14 2 0), .ref (ad 15 2 0), .ref (ad 16 2 0), .ref (ad 17 2 0), .ref (ad 18 2 0), .ref (ad 19 2 0), .ref (ad 20 2 0)] : List Value).set 9 (.ref (ad 32 2 0)))) H1 := hP1 q0 _ (List.getElem?_set_self (List.getElem?_eq_some_iff.mp hw).1)
  have E := adp_is (ad := ad) (k := 2) (n := n) (by decide)
  generalize hG : adp ad 2 n = ad' at E
  obtain ⟨E1, E2, E3, E4, E5, E6⟩ := E
  have hlow : ∀ (t c : Nat) (i : Int), t < 40 → t ≠ 20 → t ≠ 23 → ad' t c i = ad t c i := fun t c i h1 h2 h3 => E6 t c i (by omega) (by omega) (by omega) (by omega)
  have h40 : ∀ (c : Nat) (i : Int), c ≠ 31 → c ≠ 32 → ad' 40 c i = ad 40 c i := fun c i h1 h2 => E6 40 c i (by omega) (by omega) (by omega) (by omega)
  have h419 : ∀ (c : Nat) (i : Int), c ≠ 20 → ad' 41 c i = ad 41 c i := fun c i h1 => E6 41 c i (by omega) (by omega) (by omega) (by omega)
  have f13 := h40 13 0 (by decide) (by decide)
  have dmx : ∀ (t c : Nat) (i : Int), dmb ad' t c i = true → (t = 23 ∧ c = 2 ∧ i = (n : Int)) ∨ (t ≠ 31 ∧ t ≠ 32 ∧ dmb ad t c i = true) := by
    intro t c i hd
    have hb9 := (dm_bd hd).1
    by_cases e1 : t = 23
    · subst e1
      have hd2 := hd
      simp [dmb, f13, hs, E3] at hd2
      by_cases e2 : i = (n : Int)
      · exact Or.inl ⟨rfl, by omega, e2⟩
      · refine Or.inr ⟨by decide, by decide, ?_⟩
        simp [dmb, hs, hn]
        omega
    · refine Or.inr ⟨?_, ?_, ?_⟩
      · rintro rfl; simp [dmb, E4] at hd
      · rintro rfl; simp [dmb, E5] at hd
      · have n31 : t ≠ 31 := by rintro rfl; simp [dmb, E4] at hd
        have n32 : t ≠ 32 := by rintro rfl; simp [dmb, E5] at hd
        have e4 := h40 t 0 n31 n32
        have g1 : t = 21 ∨ t = 22 ∨ t = 23 ∨ (t ≠ 21 ∧ t ≠ 22 ∧ t ≠ 23) := by omega
        rcases g1 with rfl | rfl | rfl | ⟨g1, g2, g3⟩
        · first | exact absurd rfl e1 | (simp only [dmb, f13, h419 18 0 (by decide)] at hd ⊢; exact hd)
        · first | exact absurd rfl e1 | (simp only [dmb, f13, h419 19 0 (by decide)] at hd ⊢; exact hd)
        · first | exact absurd rfl e1 | (simp only [dmb, f13, h419 20 0 (by decide)] at hd ⊢; exact hd)
        · unfold dmb at hd ⊢
          split at hd <;> first | exact hd | (rw [f13] at hd; exact hd) | omega | (simp_all; done)
  have hM : ∀ (c1 k1 : Nat) (i1 : Int), owner c1 k1 i1 ≠ (23, 2, (n : Int)) → owner c1 k1 i1 ≠ (13, 2, 0) → setc M 2 S2 c1 k1 i1 = M c1 k1 i1 := by
    intro c1 k1 i1 h1 h2
    by_cases e2 : c1 = 2
    · subst e2
      rw [setc_at]
      rcases hsame k1 i1 with h3 | ⟨rfl, rfl⟩ | h3
      · exfalso
        apply h1
        obtain ⟨g1, g2, g3⟩ := h3; unfold owner; rw [if_neg (by decide), if_pos (by decide), if_neg (by omega), if_neg (by omega), if_neg (by omega), if_neg (by omega), if_neg (by omega), if_pos (by omega), g3]
      · exact absurd rfl h2
      · exact h3
    · rw [setc_ne _ _ e2]
  have hI1 : Inj ad' := by
    refine inj_map (fun x => if x.1 = 20 then (32, 2, 0) else if x.1 = 23 ∧ x.2.2 = (n : Int) then (31, 2, 0) else x) (fun t c i hd => ?_) (fun t c i t' c' i' h1 h2 he => ?_) hI
    · by_cases e1 : t = 20
      · subst e1
        have : c = 2 ∧ i = 0 := by simp [dmb] at hd; omega
        obtain ⟨rfl, rfl⟩ := this
        simp only [if_true]
        exact ⟨dm32 h32, E1⟩
      · rcases dmx t c i hd with ⟨rfl, rfl, rfl⟩ | ⟨g1, g2, g3⟩
        · simp only [show ¬ (23 : Nat) = 20 by decide, if_false, true_and, if_true]
          exact ⟨dm31 h31, E2⟩
        · have hb9 := (dm_bd g3).1
          by_cases e2 : t = 23 ∧ i = (n : Int)
          · exfalso
            obtain ⟨rfl, rfl⟩ := e2
            simp [dmb, hs, hn] at g3
          · simp only [e1, if_false, e2]
            refine ⟨g3, ?_⟩
            by_cases e3 : t = 23
            · exact E6 t c i (by omega) (by omega) (by omega) (by omega)
            · exact hlow t c i (by omega) e1 e3
    · have key : ∀ (t c : Nat) (i : Int), dmb ad' t c i = true → (t = 20 ∧ c = 2 ∧ i = 0) ∨ (t = 23 ∧ c = 2 ∧ i = (n : Int)) ∨ (t ≠ 20 ∧ ¬ (t = 23 ∧ i = (n : Int)) ∧ t ≠ 31 ∧ t ≠ 32) := by
        intro t c i hd
        by_cases e1 : t = 20
        · subst e1
          have : c = 2 ∧ i = 0 := by simp [dmb] at hd; omega
          exact Or.inl ⟨rfl, this⟩
        · rcases dmx t c i hd with h | ⟨g1, g2, g3⟩
          · exact Or.inr (Or.inl h)
          · refine Or.inr (Or.inr ⟨e1, ?_, g1, g2⟩)
            rintro ⟨rfl, rfl⟩
            simp [dmb, hs, hn] at g3
      rcases key t c i h1 with ⟨rfl, rfl, rfl⟩ | ⟨rfl, rfl, rfl⟩ | ⟨a1, a2, a3, a4⟩ <;> rcases key t' c' i' h2 with ⟨rfl, rfl, rfl⟩ | ⟨rfl, rfl, rfl⟩ | ⟨b1, b2, b3, b4⟩ <;> first | rfl | (exfalso; simp at he; done) | (exfalso; simp [*] at he; omega) | (exfalso; simp [*] at he; done) | (simp only [a1, a2, b1, b2, if_false] at he; exact he)
  have hA3 : ∀ (t c : Nat) (i : Int), dmb ad' t c i = true → A (ad' t c i) := by
    intro t c i hd
    have hb9 := (dm_bd hd).1
    by_cases e1 : t = 20
    · subst e1
      have : c = 2 ∧ i = 0 := by simp [dmb] at hd; omega
      obtain ⟨rfl, rfl⟩ := this
      rw [E1]
      exact hA1 _ _ _ (dm32 h32)
    · rcases dmx t c i hd with ⟨rfl, rfl, rfl⟩ | ⟨g1, g2, g3⟩
      · rw [E2]; exact hA1 _ _ _ (dm31 h31)
      · by_cases e3 : t = 23
        · by_cases e4 : c = 2 ∧ i = (n : Int)
          · obtain ⟨rfl, rfl⟩ := e4
            subst e3
            rw [E2]; exact hA1 _ _ _ (dm31 h31)
          · rw [E6 t c i (by omega) (by omega) (by omega) (by omega)]
            exact hA1 t c i g3
        · rw [hlow t c i (by omega) e1 e3]
          exact hA1 t c i g3
  refine kk ad' ⟨E1, E2, E3, E4, E5, E6⟩ (F9.ext hI1 hA3) H1 locs1 ls (ws_of fun t c i hd => ?_) hS1 hl
  have hb9 := (dm_bd hd).1
  by_cases e1 : t = 20
  · subst e1
    have : c = 2 ∧ i = 0 := by simp [dmb] at hd; omega
    obtain ⟨rfl, rfl⟩ := this
    rw [E1]
    have h9 : H1[ad 32 2 0]? = some (arrV (cy 1) (ad 41 32 0) (fun j => va_rf (outF ad M j))) := hat 32 2 0 (dm32 h32) (by decide)
    show H1[ad 32 2 0]? = some (arrV (cy 1) (ad' 41 20 0) (fun j => va_rf (some (ad' 23 2 (j : Int)))))
    rw [h9, E3, h41]
    congr 1
    refine arrV_congr (fun j hj => ?_)
    congr 1
    unfold outF
    rw [hm0, hm1, hgh]
    by_cases e2 : j = n
    · subst e2
      rw [if_neg (by omega), if_pos ⟨rfl, rfl⟩, E2]
    · rw [if_pos (by omega), E6 23 2 (j : Int) (by omega) (by omega) (by omega) (by omega)]
  · rcases dmx t c i hd with ⟨rfl, rfl, rfl⟩ | ⟨g1, g2, g3⟩
    · rw [E2]
      have h9 : H1[ad 31 2 0]? = some (vp_cell (cy 0) (ad 41 31 0, .inl (fun j => i32 (M 4 7 (j : Int))))) := hat 31 2 0 (dm31 h31) (by decide)
      show H1[ad 31 2 0]? = some (vp_cell (cy 0) (7, .inl (fun j => i32 (boaV (setc M 2 S2) 2 (n : Int) j))))
      rw [h9, hlen]
      exact congrArg some (cell_congr (fun j hj => by rw [hrow j hj]))
    · by_cases e13 : t = 13
      · subst e13
        have : c = 2 ∧ i = 0 := by simp [dmb] at hd; omega
        obtain ⟨rfl, rfl⟩ := this
        rw [hlow 13 2 0 (by decide) (by decide) (by decide)]
        have ec : cel cy ad' (setc M 2 S2) 13 2 0 = .inr (5, ([.int (i32 (M 2 20 0)), .int (i32 (M 2 20 4)), .int (i32 (M 2 20 5)), .ref (ad 14 2 0), .ref (ad 15 2 0), .ref (ad 16 2 0), .ref (ad 17 2 0), .ref (ad 18 2 0), .ref (ad 19 2 0), .ref (ad 20 2 0)] : List Value).set 9 (.ref (ad 32 2 0))) := by
          have s0 : S2 20 0 = M 2 20 0 := by rcases hsame 20 0 with h3 | h3 | h3 <;> first | exact h3 | omega
          have s4 : S2 20 4 = M 2 20 4 := by rcases hsame 20 4 with h3 | h3 | h3 <;> first | exact h3 | omega
          have s5 : S2 20 5 = M 2 20 5 := by rcases hsame 20 5 with h3 | h3 | h3 <;> first | exact h3 | omega
          simp only [cel, setc_at, s0, s4, s5, E1, hlow 14 2 0 (by decide) (by decide) (by decide), hlow 15 2 0 (by decide) (by decide) (by decide), hlow 16 2 0 (by decide) (by decide) (by decide), hlow 17 2 0 (by decide) (by decide) (by decide), hlow 18 2 0 (by decide) (by decide) (by decide), hlow 19 2 0 (by decide) (by decide) (by decide), List.set]
        rw [ec]
        exact h13
      · have h9 := hat t c i g3 e13
        have nrow : ¬ (t = 23 ∧ i = (n : Int)) := by
          rintro ⟨rfl, rfl⟩
          simp [dmb, hs, hn] at g3
        have ea : ad' t c i = ad t c i := by
          by_cases e3 : t = 23
          · exact E6 t c i (by omega) (by omega) (by omega) (by omega)
          · exact hlow t c i (by omega) e1 e3
        rw [ea]
        have ec : cel cy ad' (setc M 2 S2) t c i = cel cy ad M t c i := by
          rw [cel_indep (cy := cy) (ad := ad') (M := M) (M1 := setc M 2 S2) hd (fun c1 k1 i1 ho => hM c1 k1 i1 (fun z => nrow (by rw [ho] at z; cases z; exact ⟨rfl, rfl⟩)) (fun z => e13 (by rw [ho] at z; cases z; rfl)))]
          have lo9 : ∀ (a : Nat), a < 40 → a ≠ 20 → a ≠ 23 → ∀ (c1 : Nat) (i1 : Int), ad' a c1 i1 = ad a c1 i1 := fun a h1 h2 h3 c1 i1 => hlow a c1 i1 h1 h2 h3
          have : t = 0 ∨ t = 1 ∨ t = 2 ∨ t = 3 ∨ t = 4 ∨ t = 5 ∨ t = 6 ∨ t = 7 ∨ t = 8 ∨ t = 9 ∨ t = 10 ∨ t = 11 ∨ t = 12 ∨ t = 14 ∨ t = 15 ∨ t = 16 ∨ t = 17 ∨ t = 18 ∨ t = 19 ∨ t = 21 ∨ t = 22 ∨ t = 23 ∨ t = 24 ∨ t = 25 ∨ t = 26 ∨ t = 27 ∨ t = 28 ∨ t = 29 ∨ t = 30 := by omega
          rcases this with rfl | rfl | rfl | rfl | rfl | rfl | rfl | rfl | rfl | rfl | rfl | rfl | rfl | rfl | rfl | rfl | rfl | rfl | rfl | rfl | rfl | rfl | rfl | rfl | rfl | rfl | rfl | rfl | rfl
          · simp only [cel, lo9 1 (by decide) (by decide) (by decide)]
          · simp only [cel, lo9 2 (by decide) (by decide) (by decide), lo9 3 (by decide) (by decide) (by decide), lo9 4 (by decide) (by decide) (by decide), lo9 5 (by decide) (by decide) (by decide), lo9 6 (by decide) (by decide) (by decide), lo9 7 (by decide) (by decide) (by decide), lo9 8 (by decide) (by decide) (by decide)]
          · rfl
          · rfl
          · rfl
          · rfl
          · simp only [cel, lo9 9 (by decide) (by decide) (by decide)]
          · simp only [cel, lo9 11 (by decide) (by decide) (by decide)]
          · simp only [cel, lo9 12 (by decide) (by decide) (by decide)]
          · simp only [cel, lo9 10 (by decide) (by decide) (by decide)]
          · rfl
          · rfl
          · rfl
          · rfl
          · rfl
          · rfl
          · rfl
          · simp only [cel, lo9 21 (by decide) (by decide) (by decide), h419 18 0 (by decide)]
          · simp only [cel, lo9 22 (by decide) (by decide) (by decide), h419 19 0 (by decide)]
          · rfl
          · rfl
          · rfl
          · simp only [cel, h419 24 0 (by decide)]
          · simp only [cel, h419 25 0 (by decide)]
          · simp only [cel, h419 26 0 (by decide)]
          · simp only [cel, h419 27 0 (by decide)]
          · simp only [cel, h419 28 0 (by decide)]
          · simp only [cel, h419 29 0 (by decide)]
          · simp only [cel, h419 30 0 (by decide)]
        rw [ec]
        exact h9
end PUTO
