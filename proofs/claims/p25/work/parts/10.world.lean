/-! The world: one family of cells, read off a memory of whole numbers and a map of addresses. t: kind of cell, c: which coast (0, 1: the class's; 2: the one by hand), i: which one. Which cells there are stands in the map itself: ad 40 t 0 (1: there is one of kind t), ad 41 t 0 (how long it is), ad 42 0 0. Memory 4: arrays of the law's own. -/
abbrev St : Type := Nat → Int → Int
abbrev Mem : Type := Nat → Nat → Int → Int
def i32 (x : Int) : Int32 := Int32.ofInt x
def u2 (S : St) (k : Nat) (i v : Int) : St := fun k' i' => if k' = k ∧ i' = i then v else S k' i'
def setc (M : Mem) (c : Nat) (S : St) : Mem := fun c' => if c' = c then S else M c'
theorem setc_at (M : Mem) (c : Nat) (S : St) : setc M c S c = S := if_pos rfl
theorem setc_ne (M : Mem) {c c' : Nat} (S : St) (h : c' ≠ c) : setc M c S c' = M c' := if_neg h
theorem setc_self (M : Mem) (c : Nat) : setc M c (M c) = M := by
  funext c'
  by_cases h : c' = c
  · subst h; exact setc_at _ _ _
  · exact setc_ne _ _ h
theorem setc_setc (M : Mem) (c : Nat) (S S' : St) : setc (setc M c S) c S' = setc M c S' := by
  funext c'
  by_cases h : c' = c
  · subst h; rw [setc_at, setc_at]
  · rw [setc_ne _ _ h, setc_ne _ _ h, setc_ne _ _ h]
theorem setc_comm (M : Mem) {c d : Nat} (S S' : St) (h : c ≠ d) : setc (setc M c S) d S' = setc (setc M d S') c S := by
  funext c'
  by_cases h1 : c' = d
  · subst h1; rw [setc_at, setc_ne _ _ (Ne.symm h), setc_at]
  · rw [setc_ne _ _ h1]
    by_cases h2 : c' = c
    · subst h2; rw [setc_at, setc_at]
    · rw [setc_ne _ _ h2, setc_ne _ _ h2, setc_ne _ _ h1]
def fm (v : Int) : Int := if v = 1 then 3 else if v = 2 then 4 else v
def bk (j : Nat) : Nat := match j with | 0 => 13 | 1 => 14 | 2 => 15 | 3 => 18 | 4 => 19 | 5 => 16 | _ => 17
def bv (j : Nat) (v : Int) : Int := if j = 3 then fm v else v
def lanV (M : Mem) (c : Nat) (i : Int) (j : Nat) : Int := if j = 0 then M c 4 i else if j < 11 then M c 5 (10 * i + ((j : Int) - 1)) else if j = 11 then M c 6 i else 0
def watV (M : Mem) (c : Nat) (i : Int) (j : Nat) : Int := if j < 6 then M c (7 + j) i else 0
def boaV (M : Mem) (c : Nat) (i : Int) (j : Nat) : Int := if j < 7 then bv j (M c (bk j) i) else 0
def outF (ad : Nat → Nat → Int → Nat) (M : Mem) (j : Nat) : Option Nat := if (j : Int) < M 4 20 0 then some (ad (21 + ad 42 0 0) 2 (j : Int)) else if (j : Int) = M 4 20 0 ∧ M 4 20 1 = 1 then some (ad 31 2 0) else none
/-- what the cell of a key holds -/
def cel (cy : Nat → ClassId) (ad : Nat → Nat → Int → Nat) (M : Mem) (t c : Nat) (i : Int) : va_E := match t with
  | 0 => .inr (4, [.ref (ad 1 0 0), .ref (ad 1 1 0)])
  | 1 => .inr (1, [.ref (ad 2 c 0), .ref (ad 3 c 0), .ref (ad 4 c 0), .ref (ad 5 c 0), .ref (ad 6 c 0), .ref (ad 7 c 0), .ref (ad 8 c 0), .int (i32 (M c 20 1)), .int (i32 (M c 20 2)), .int (i32 (M c 20 3)), .int (i32 (M c 20 0)), .int (i32 (M c 20 4)), .int (i32 (M c 20 5))])
  | 2 => .inl (cy 0, 16, .inl (fun j => i32 (M c 0 (j : Int))))
  | 3 => .inl (cy 0, 16, .inl (fun j => i32 (M c 1 (j : Int))))
  | 4 => .inl (cy 0, 8, .inl (fun j => i32 (M c 2 (j : Int))))
  | 5 => .inl (cy 0, 8, .inl (fun j => i32 (M c 3 (j : Int))))
  | 6 => .inl (cy 2, 5, .inr (.inr (.inr (.inr (fun j => some (ad 9 c (j : Int)))))))
  | 7 => .inl (cy 3, 4, .inr (.inr (.inr (.inr (fun j => some (ad 11 c (j : Int)))))))
  | 8 => .inl (cy 4, 6, .inr (.inr (.inr (.inr (fun j => some (ad 12 c (j : Int)))))))
  | 9 => .inr (2, [.ref (ad 10 c i), .int (i32 (M c 4 i)), .int (i32 (M c 6 i))])
  | 10 => .inl (cy 0, 10, .inl (fun j => if j < 10 then i32 (M c 5 (10 * i + (j : Int))) else 0))
  | 11 => .inr (3, [.int (i32 (M c 7 i)), .int (i32 (M c 8 i)), .int (i32 (M c 9 i)), .int (i32 (M c 10 i)), .int (i32 (M c 11 i)), .int (i32 (M c 12 i))])
  | 12 => .inr (0, [.int (i32 (M c 13 i)), .int (i32 (M c 14 i)), .int (i32 (M c 15 i)), .int (i32 (M c 16 i)), .int (i32 (M c 17 i)), .int (i32 (M c 18 i)), .int (i32 (M c 19 i))])
  | 13 => .inr (5, [.int (i32 (M c 20 0)), .int (i32 (M c 20 4)), .int (i32 (M c 20 5)), .ref (ad 14 c 0), .ref (ad 15 c 0), .ref (ad 16 c 0), .ref (ad 17 c 0), .ref (ad 18 c 0), .ref (ad 19 c 0), .ref (ad 20 c 0)])
  | 14 => .inl (cy 0, 16, .inl (fun j => i32 (M c 0 (j : Int))))
  | 15 => .inl (cy 0, 16, .inl (fun j => i32 (M c 1 (j : Int))))
  | 16 => .inl (cy 0, 8, .inl (fun j => i32 (M c 2 (j : Int))))
  | 17 => .inl (cy 0, 8, .inl (fun j => i32 (M c 3 (j : Int))))
  | 18 => .inl (cy 1, ad 41 18 0, .inr (.inr (.inr (.inr (fun j => some (ad 21 c (j : Int)))))))
  | 19 => .inl (cy 1, ad 41 19 0, .inr (.inr (.inr (.inr (fun j => some (ad 22 c (j : Int)))))))
  | 20 => .inl (cy 1, ad 41 20 0, .inr (.inr (.inr (.inr (fun j => some (ad 23 c (j : Int)))))))
  | 21 => .inl (cy 0, 12, .inl (fun j => i32 (lanV M c i j)))
  | 22 => .inl (cy 0, 6, .inl (fun j => i32 (watV M c i j)))
  | 23 => .inl (cy 0, 7, .inl (fun j => i32 (boaV M c i j)))
  | 24 => .inl (cy 0, ad 41 24 0, .inl (fun j => i32 (M 4 0 (j : Int))))
  | 25 => .inl (cy 0, ad 41 25 0, .inl (fun j => i32 (M 4 1 (j : Int))))
  | 26 => .inl (cy 0, ad 41 26 0, .inl (fun j => i32 (M 4 2 (j : Int))))
  | 27 => .inl (cy 0, ad 41 27 0, .inl (fun j => i32 (M 4 3 (j : Int))))
  | 28 => .inl (cy 0, ad 41 28 0, .inl (fun j => i32 (M 4 4 (j : Int))))
  | 29 => .inl (cy 0, ad 41 29 0, .inl (fun j => i32 (M 4 5 (j : Int))))
  | 30 => .inl (cy 0, ad 41 30 0, .inl (fun j => i32 (M 4 6 (j : Int))))
  | 31 => .inl (cy 0, ad 41 31 0, .inl (fun j => i32 (M 4 7 (j : Int))))
  | _ => .inl (cy 1, ad 41 32 0, .inr (.inr (.inr (.inr (outF ad M)))))
def dmb (ad : Nat → Nat → Int → Nat) (t c : Nat) (i : Int) : Bool := match t with
  | 0 => c == 0 && i == 0
  | 1 => decide (c < 2) && i == 0
  | 2 => decide (c < 2) && i == 0
  | 3 => decide (c < 2) && i == 0
  | 4 => decide (c < 2) && i == 0
  | 5 => decide (c < 2) && i == 0
  | 6 => decide (c < 2) && i == 0
  | 7 => decide (c < 2) && i == 0
  | 8 => decide (c < 2) && i == 0
  | 9 => decide (c < 2) && (decide (0 ≤ i) && decide (i < 5))
  | 10 => decide (c < 2) && (decide (0 ≤ i) && decide (i < 5))
  | 11 => decide (c < 2) && (decide (0 ≤ i) && decide (i < 4))
  | 12 => decide (c < 2) && (decide (0 ≤ i) && decide (i < 6))
  | 13 => (c == 2 && i == 0) && ad 40 13 0 == 1
  | 14 => (c == 2 && i == 0) && ad 40 13 0 == 1
  | 15 => (c == 2 && i == 0) && ad 40 13 0 == 1
  | 16 => (c == 2 && i == 0) && ad 40 13 0 == 1
  | 17 => (c == 2 && i == 0) && ad 40 13 0 == 1
  | 18 => (c == 2 && i == 0) && ad 40 13 0 == 1
  | 19 => (c == 2 && i == 0) && ad 40 13 0 == 1
  | 20 => (c == 2 && i == 0) && ad 40 13 0 == 1
  | 21 => (c == 2 && (decide (0 ≤ i) && decide (i < 5))) && (ad 40 13 0 == 1 && decide (i < (ad 41 18 0 : Int)))
  | 22 => (c == 2 && (decide (0 ≤ i) && decide (i < 4))) && (ad 40 13 0 == 1 && decide (i < (ad 41 19 0 : Int)))
  | 23 => (c == 2 && (decide (0 ≤ i) && decide (i < 6))) && (ad 40 13 0 == 1 && decide (i < (ad 41 20 0 : Int)))
  | t => decide (t < 33) && (c == 2 && i == 0) && ad 40 t 0 == 1
def dms (t c i : Nat) : Bool := match t with
  | 0 => c == 0 && i == 0
  | 1 => decide (c < 2) && i == 0
  | 2 => decide (c < 2) && i == 0
  | 3 => decide (c < 2) && i == 0
  | 4 => decide (c < 2) && i == 0
  | 5 => decide (c < 2) && i == 0
  | 6 => decide (c < 2) && i == 0
  | 7 => decide (c < 2) && i == 0
  | 8 => decide (c < 2) && i == 0
  | 9 => decide (c < 2) && decide (i < 5)
  | 10 => decide (c < 2) && decide (i < 5)
  | 11 => decide (c < 2) && decide (i < 4)
  | 12 => decide (c < 2) && decide (i < 6)
  | 21 => c == 2 && decide (i < 5)
  | 22 => c == 2 && decide (i < 4)
  | 23 => c == 2 && decide (i < 6)
  | _ => c == 2 && i == 0
def keysN : List (Nat × Nat × Nat) := (List.range 33).flatMap fun t => (List.range 3).flatMap fun c => (List.range 6).map fun i => (t, c, i)
def keysI : List (Nat × Nat × Int) := (keysN.filter fun k => dms k.1 k.2.1 k.2.2).map fun k => (k.1, k.2.1, (k.2.2 : Int))
def keys (ad : Nat → Nat → Int → Nat) : List (Nat × Nat × Int) := keysI.filter fun k => dmb ad k.1 k.2.1 k.2.2
theorem dm_bd {ad : Nat → Nat → Int → Nat} {t c : Nat} {i : Int} (h : dmb ad t c i = true) : t < 33 ∧ c < 3 ∧ 0 ≤ i ∧ i < 6 := by
  unfold dmb at h
  split at h <;> simp at h <;> omega
theorem dm_st {ad : Nat → Nat → Int → Nat} {t c : Nat} {i : Int} (h : dmb ad t c i = true) : dms t c i.toNat = true := by
  have ht := (dm_bd h).1
  have : t = 0 ∨ t = 1 ∨ t = 2 ∨ t = 3 ∨ t = 4 ∨ t = 5 ∨ t = 6 ∨ t = 7 ∨ t = 8 ∨ t = 9 ∨ t = 10 ∨ t = 11 ∨ t = 12 ∨ t = 13 ∨ t = 14 ∨ t = 15 ∨ t = 16 ∨ t = 17 ∨ t = 18 ∨ t = 19 ∨ t = 20 ∨ t = 21 ∨ t = 22 ∨ t = 23 ∨ t = 24 ∨ t = 25 ∨ t = 26 ∨ t = 27 ∨ t = 28 ∨ t = 29 ∨ t = 30 ∨ t = 31 ∨ t = 32 := by omega
  rcases this with rfl | rfl | rfl | rfl | rfl | rfl | rfl | rfl | rfl | rfl | rfl | rfl | rfl | rfl | rfl | rfl | rfl | rfl | rfl | rfl | rfl | rfl | rfl | rfl | rfl | rfl | rfl | rfl | rfl | rfl | rfl | rfl | rfl <;> simp [dmb] at h <;> simp [dms] <;> omega
theorem mem_keys {ad : Nat → Nat → Int → Nat} {t c : Nat} {i : Int} (h : dmb ad t c i = true) : (t, c, i) ∈ keys ad := by
  obtain ⟨h1, h2, h3, h4⟩ := dm_bd h
  have e : ((i.toNat : Nat) : Int) = i := by omega
  refine List.mem_filter.mpr ⟨List.mem_map.mpr ⟨(t, c, i.toNat), List.mem_filter.mpr ⟨?_, dm_st h⟩, by rw [e]⟩, h⟩
  exact List.mem_flatMap.mpr ⟨t, List.mem_range.mpr h1, List.mem_flatMap.mpr ⟨c, List.mem_range.mpr h2, List.mem_map.mpr ⟨i.toNat, List.mem_range.mpr (by omega), rfl⟩⟩⟩
theorem of_keys {ad : Nat → Nat → Int → Nat} {k : Nat × Nat × Int} (h : k ∈ keys ad) : dmb ad k.1 k.2.1 k.2.2 = true := (List.mem_filter.mp h).2
theorem keysI_nd : keysI.Nodup := by decide +kernel
theorem keys_nd (ad : Nat → Nat → Int → Nat) : (keys ad).Nodup := keysI_nd.filter _
def wsOf (cy : Nat → ClassId) (ad : Nat → Nat → Int → Nat) (M : Mem) : va_W := (keys ad).map fun k => (ad k.1 k.2.1 k.2.2, cel cy ad M k.1 k.2.1 k.2.2)
def owner (c k : Nat) (i : Int) : Nat × Nat × Int :=
  if c < 2 then (if k < 4 then (k + 2, c, 0) else if k = 4 then (9, c, i) else if k = 5 then (10, c, i / 10) else if k = 6 then (9, c, i) else if k < 13 then (11, c, i) else if k < 20 then (12, c, i) else (1, c, 0))
  else if c < 3 then (if k < 4 then (14 + k, 2, 0) else if k = 4 then (21, 2, i) else if k = 5 then (21, 2, i / 10) else if k = 6 then (21, 2, i) else if k < 13 then (22, 2, i) else if k < 20 then (23, 2, i) else (13, 2, 0))
  else if k < 8 then (24 + k, 2, 0) else (32, 2, 0)
theorem cel_indep_0 {cy : Nat → ClassId} {ad : Nat → Nat → Int → Nat} {M M1 : Mem} {c : Nat} {i : Int} (hd : dmb ad 0 c i = true) (h : ∀ (c1 k1 : Nat) (i1 : Int), owner c1 k1 i1 = (0, c, i) → M1 c1 k1 i1 = M c1 k1 i1) : cel cy ad M1 0 c i = cel cy ad M 0 c i := by
  simp only [cel]
theorem cel_indep_1 {cy : Nat → ClassId} {ad : Nat → Nat → Int → Nat} {M M1 : Mem} {c : Nat} {i : Int} (hd : dmb ad 1 c i = true) (h : ∀ (c1 k1 : Nat) (i1 : Int), owner c1 k1 i1 = (1, c, i) → M1 c1 k1 i1 = M c1 k1 i1) : cel cy ad M1 1 c i = cel cy ad M 1 c i := by
  have hc : c < 2 := by simp [dmb] at hd; omega
  have hi : i = 0 := by simp [dmb] at hd; omega
  subst hi
  simp only [cel]
  rw [h c 20 1 (by simp [owner, hc]), h c 20 2 (by simp [owner, hc]), h c 20 3 (by simp [owner, hc]), h c 20 0 (by simp [owner, hc]), h c 20 4 (by simp [owner, hc]), h c 20 5 (by simp [owner, hc])]
theorem cel_indep_2 {cy : Nat → ClassId} {ad : Nat → Nat → Int → Nat} {M M1 : Mem} {c : Nat} {i : Int} (hd : dmb ad 2 c i = true) (h : ∀ (c1 k1 : Nat) (i1 : Int), owner c1 k1 i1 = (2, c, i) → M1 c1 k1 i1 = M c1 k1 i1) : cel cy ad M1 2 c i = cel cy ad M 2 c i := by
  have hc : c < 2 := by simp [dmb] at hd; omega
  have hi : i = 0 := by simp [dmb] at hd; omega
  subst hi
  simp only [cel]
  congr 4
  funext j
  rw [h c 0 j (by simp [owner, hc])]
theorem cel_indep_3 {cy : Nat → ClassId} {ad : Nat → Nat → Int → Nat} {M M1 : Mem} {c : Nat} {i : Int} (hd : dmb ad 3 c i = true) (h : ∀ (c1 k1 : Nat) (i1 : Int), owner c1 k1 i1 = (3, c, i) → M1 c1 k1 i1 = M c1 k1 i1) : cel cy ad M1 3 c i = cel cy ad M 3 c i := by
  have hc : c < 2 := by simp [dmb] at hd; omega
  have hi : i = 0 := by simp [dmb] at hd; omega
  subst hi
  simp only [cel]
  congr 4
  funext j
  rw [h c 1 j (by simp [owner, hc])]
theorem cel_indep_4 {cy : Nat → ClassId} {ad : Nat → Nat → Int → Nat} {M M1 : Mem} {c : Nat} {i : Int} (hd : dmb ad 4 c i = true) (h : ∀ (c1 k1 : Nat) (i1 : Int), owner c1 k1 i1 = (4, c, i) → M1 c1 k1 i1 = M c1 k1 i1) : cel cy ad M1 4 c i = cel cy ad M 4 c i := by
  have hc : c < 2 := by simp [dmb] at hd; omega
  have hi : i = 0 := by simp [dmb] at hd; omega
  subst hi
  simp only [cel]
  congr 4
  funext j
  rw [h c 2 j (by simp [owner, hc])]
theorem cel_indep_5 {cy : Nat → ClassId} {ad : Nat → Nat → Int → Nat} {M M1 : Mem} {c : Nat} {i : Int} (hd : dmb ad 5 c i = true) (h : ∀ (c1 k1 : Nat) (i1 : Int), owner c1 k1 i1 = (5, c, i) → M1 c1 k1 i1 = M c1 k1 i1) : cel cy ad M1 5 c i = cel cy ad M 5 c i := by
  have hc : c < 2 := by simp [dmb] at hd; omega
  have hi : i = 0 := by simp [dmb] at hd; omega
  subst hi
  simp only [cel]
  congr 4
  funext j
  rw [h c 3 j (by simp [owner, hc])]
theorem cel_indep_6 {cy : Nat → ClassId} {ad : Nat → Nat → Int → Nat} {M M1 : Mem} {c : Nat} {i : Int} (hd : dmb ad 6 c i = true) (h : ∀ (c1 k1 : Nat) (i1 : Int), owner c1 k1 i1 = (6, c, i) → M1 c1 k1 i1 = M c1 k1 i1) : cel cy ad M1 6 c i = cel cy ad M 6 c i := by
  simp only [cel]
theorem cel_indep_7 {cy : Nat → ClassId} {ad : Nat → Nat → Int → Nat} {M M1 : Mem} {c : Nat} {i : Int} (hd : dmb ad 7 c i = true) (h : ∀ (c1 k1 : Nat) (i1 : Int), owner c1 k1 i1 = (7, c, i) → M1 c1 k1 i1 = M c1 k1 i1) : cel cy ad M1 7 c i = cel cy ad M 7 c i := by
  simp only [cel]
theorem cel_indep_8 {cy : Nat → ClassId} {ad : Nat → Nat → Int → Nat} {M M1 : Mem} {c : Nat} {i : Int} (hd : dmb ad 8 c i = true) (h : ∀ (c1 k1 : Nat) (i1 : Int), owner c1 k1 i1 = (8, c, i) → M1 c1 k1 i1 = M c1 k1 i1) : cel cy ad M1 8 c i = cel cy ad M 8 c i := by
  simp only [cel]
theorem cel_indep_9 {cy : Nat → ClassId} {ad : Nat → Nat → Int → Nat} {M M1 : Mem} {c : Nat} {i : Int} (hd : dmb ad 9 c i = true) (h : ∀ (c1 k1 : Nat) (i1 : Int), owner c1 k1 i1 = (9, c, i) → M1 c1 k1 i1 = M c1 k1 i1) : cel cy ad M1 9 c i = cel cy ad M 9 c i := by
  have hc : c < 2 := by simp [dmb] at hd; omega
  simp only [cel]
  rw [h c 4 i (by simp [owner, hc]), h c 6 i (by simp [owner, hc])]
theorem cel_indep_10 {cy : Nat → ClassId} {ad : Nat → Nat → Int → Nat} {M M1 : Mem} {c : Nat} {i : Int} (hd : dmb ad 10 c i = true) (h : ∀ (c1 k1 : Nat) (i1 : Int), owner c1 k1 i1 = (10, c, i) → M1 c1 k1 i1 = M c1 k1 i1) : cel cy ad M1 10 c i = cel cy ad M 10 c i := by
  have hc : c < 2 := by simp [dmb] at hd; omega
  simp only [cel]
  congr 4
  funext j
  by_cases hj : j < 10
  · rw [if_pos hj, if_pos hj, h c 5 (10 * i + j) (by simp [owner, hc]; omega)]
  · rw [if_neg hj, if_neg hj]
theorem cel_indep_11 {cy : Nat → ClassId} {ad : Nat → Nat → Int → Nat} {M M1 : Mem} {c : Nat} {i : Int} (hd : dmb ad 11 c i = true) (h : ∀ (c1 k1 : Nat) (i1 : Int), owner c1 k1 i1 = (11, c, i) → M1 c1 k1 i1 = M c1 k1 i1) : cel cy ad M1 11 c i = cel cy ad M 11 c i := by
  have hc : c < 2 := by simp [dmb] at hd; omega
  simp only [cel]
  rw [h c 7 i (by simp [owner, hc]), h c 8 i (by simp [owner, hc]), h c 9 i (by simp [owner, hc]), h c 10 i (by simp [owner, hc]), h c 11 i (by simp [owner, hc]), h c 12 i (by simp [owner, hc])]
theorem cel_indep_12 {cy : Nat → ClassId} {ad : Nat → Nat → Int → Nat} {M M1 : Mem} {c : Nat} {i : Int} (hd : dmb ad 12 c i = true) (h : ∀ (c1 k1 : Nat) (i1 : Int), owner c1 k1 i1 = (12, c, i) → M1 c1 k1 i1 = M c1 k1 i1) : cel cy ad M1 12 c i = cel cy ad M 12 c i := by
  have hc : c < 2 := by simp [dmb] at hd; omega
  simp only [cel]
  rw [h c 13 i (by simp [owner, hc]), h c 14 i (by simp [owner, hc]), h c 15 i (by simp [owner, hc]), h c 16 i (by simp [owner, hc]), h c 17 i (by simp [owner, hc]), h c 18 i (by simp [owner, hc]), h c 19 i (by simp [owner, hc])]
theorem cel_indep_13 {cy : Nat → ClassId} {ad : Nat → Nat → Int → Nat} {M M1 : Mem} {c : Nat} {i : Int} (hd : dmb ad 13 c i = true) (h : ∀ (c1 k1 : Nat) (i1 : Int), owner c1 k1 i1 = (13, c, i) → M1 c1 k1 i1 = M c1 k1 i1) : cel cy ad M1 13 c i = cel cy ad M 13 c i := by
  have hc : c = 2 := by simp [dmb] at hd; omega
  have hi : i = 0 := by simp [dmb] at hd; omega
  subst hc; subst hi
  simp only [cel]
  rw [h 2 20 0 rfl, h 2 20 4 rfl, h 2 20 5 rfl]
theorem cel_indep_14 {cy : Nat → ClassId} {ad : Nat → Nat → Int → Nat} {M M1 : Mem} {c : Nat} {i : Int} (hd : dmb ad 14 c i = true) (h : ∀ (c1 k1 : Nat) (i1 : Int), owner c1 k1 i1 = (14, c, i) → M1 c1 k1 i1 = M c1 k1 i1) : cel cy ad M1 14 c i = cel cy ad M 14 c i := by
  have hc : c = 2 := by simp [dmb] at hd; omega
  have hi : i = 0 := by simp [dmb] at hd; omega
  subst hc; subst hi
  simp only [cel]
  congr 4
  funext j
  rw [h 2 0 j rfl]
theorem cel_indep_15 {cy : Nat → ClassId} {ad : Nat → Nat → Int → Nat} {M M1 : Mem} {c : Nat} {i : Int} (hd : dmb ad 15 c i = true) (h : ∀ (c1 k1 : Nat) (i1 : Int), owner c1 k1 i1 = (15, c, i) → M1 c1 k1 i1 = M c1 k1 i1) : cel cy ad M1 15 c i = cel cy ad M 15 c i := by
  have hc : c = 2 := by simp [dmb] at hd; omega
  have hi : i = 0 := by simp [dmb] at hd; omega
  subst hc; subst hi
  simp only [cel]
  congr 4
  funext j
  rw [h 2 1 j rfl]
theorem cel_indep_16 {cy : Nat → ClassId} {ad : Nat → Nat → Int → Nat} {M M1 : Mem} {c : Nat} {i : Int} (hd : dmb ad 16 c i = true) (h : ∀ (c1 k1 : Nat) (i1 : Int), owner c1 k1 i1 = (16, c, i) → M1 c1 k1 i1 = M c1 k1 i1) : cel cy ad M1 16 c i = cel cy ad M 16 c i := by
  have hc : c = 2 := by simp [dmb] at hd; omega
  have hi : i = 0 := by simp [dmb] at hd; omega
  subst hc; subst hi
  simp only [cel]
  congr 4
  funext j
  rw [h 2 2 j rfl]
theorem cel_indep_17 {cy : Nat → ClassId} {ad : Nat → Nat → Int → Nat} {M M1 : Mem} {c : Nat} {i : Int} (hd : dmb ad 17 c i = true) (h : ∀ (c1 k1 : Nat) (i1 : Int), owner c1 k1 i1 = (17, c, i) → M1 c1 k1 i1 = M c1 k1 i1) : cel cy ad M1 17 c i = cel cy ad M 17 c i := by
  have hc : c = 2 := by simp [dmb] at hd; omega
  have hi : i = 0 := by simp [dmb] at hd; omega
  subst hc; subst hi
  simp only [cel]
  congr 4
  funext j
  rw [h 2 3 j rfl]
theorem cel_indep_18 {cy : Nat → ClassId} {ad : Nat → Nat → Int → Nat} {M M1 : Mem} {c : Nat} {i : Int} (hd : dmb ad 18 c i = true) (h : ∀ (c1 k1 : Nat) (i1 : Int), owner c1 k1 i1 = (18, c, i) → M1 c1 k1 i1 = M c1 k1 i1) : cel cy ad M1 18 c i = cel cy ad M 18 c i := by
  have hc : c = 2 := by simp [dmb] at hd; omega
  have hi : i = 0 := by simp [dmb] at hd; omega
  subst hc; subst hi
  simp only [cel]
theorem cel_indep_19 {cy : Nat → ClassId} {ad : Nat → Nat → Int → Nat} {M M1 : Mem} {c : Nat} {i : Int} (hd : dmb ad 19 c i = true) (h : ∀ (c1 k1 : Nat) (i1 : Int), owner c1 k1 i1 = (19, c, i) → M1 c1 k1 i1 = M c1 k1 i1) : cel cy ad M1 19 c i = cel cy ad M 19 c i := by
  have hc : c = 2 := by simp [dmb] at hd; omega
  have hi : i = 0 := by simp [dmb] at hd; omega
  subst hc; subst hi
  simp only [cel]
theorem cel_indep_20 {cy : Nat → ClassId} {ad : Nat → Nat → Int → Nat} {M M1 : Mem} {c : Nat} {i : Int} (hd : dmb ad 20 c i = true) (h : ∀ (c1 k1 : Nat) (i1 : Int), owner c1 k1 i1 = (20, c, i) → M1 c1 k1 i1 = M c1 k1 i1) : cel cy ad M1 20 c i = cel cy ad M 20 c i := by
  have hc : c = 2 := by simp [dmb] at hd; omega
  have hi : i = 0 := by simp [dmb] at hd; omega
  subst hc; subst hi
  simp only [cel]
theorem cel_indep_21 {cy : Nat → ClassId} {ad : Nat → Nat → Int → Nat} {M M1 : Mem} {c : Nat} {i : Int} (hd : dmb ad 21 c i = true) (h : ∀ (c1 k1 : Nat) (i1 : Int), owner c1 k1 i1 = (21, c, i) → M1 c1 k1 i1 = M c1 k1 i1) : cel cy ad M1 21 c i = cel cy ad M 21 c i := by
  have hc : c = 2 := by simp [dmb] at hd; omega
  subst hc
  simp only [cel]
  congr 4
  funext j
  unfold lanV
  by_cases h0 : j = 0
  · rw [if_pos h0, if_pos h0, h 2 4 i rfl]
  · rw [if_neg h0, if_neg h0]
    by_cases h1 : j < 11
    · rw [if_pos h1, if_pos h1, h 2 5 (10 * i + ((j : Int) - 1)) (by show (21, 2, (10 * i + ((j : Int) - 1)) / 10) = _; rw [show (10 * i + ((j : Int) - 1)) / 10 = i by omega])]
    · rw [if_neg h1, if_neg h1, h 2 6 i rfl]
theorem cel_indep_22 {cy : Nat → ClassId} {ad : Nat → Nat → Int → Nat} {M M1 : Mem} {c : Nat} {i : Int} (hd : dmb ad 22 c i = true) (h : ∀ (c1 k1 : Nat) (i1 : Int), owner c1 k1 i1 = (22, c, i) → M1 c1 k1 i1 = M c1 k1 i1) : cel cy ad M1 22 c i = cel cy ad M 22 c i := by
  have hc : c = 2 := by simp [dmb] at hd; omega
  subst hc
  simp only [cel]
  congr 4
  funext j
  unfold watV
  by_cases h0 : j < 6
  · rw [if_pos h0, if_pos h0, h 2 (7 + j) i (by unfold owner; rw [if_neg (by decide), if_pos (by decide), if_neg (by omega), if_neg (by omega), if_neg (by omega), if_neg (by omega), if_pos (by omega)])]
  · rw [if_neg h0, if_neg h0]
theorem cel_indep_23 {cy : Nat → ClassId} {ad : Nat → Nat → Int → Nat} {M M1 : Mem} {c : Nat} {i : Int} (hd : dmb ad 23 c i = true) (h : ∀ (c1 k1 : Nat) (i1 : Int), owner c1 k1 i1 = (23, c, i) → M1 c1 k1 i1 = M c1 k1 i1) : cel cy ad M1 23 c i = cel cy ad M 23 c i := by
  have hc : c = 2 := by simp [dmb] at hd; omega
  subst hc
  simp only [cel]
  congr 4
  funext j
  unfold boaV
  by_cases h0 : j < 7
  · rw [if_pos h0, if_pos h0]
    have hb : 13 ≤ bk j ∧ bk j < 20 := by unfold bk; split <;> omega
    rw [h 2 (bk j) i (by unfold owner; rw [if_neg (by decide), if_pos (by decide), if_neg (by omega), if_neg (by omega), if_neg (by omega), if_neg (by omega), if_neg (by omega), if_pos (by omega)])]
  · rw [if_neg h0, if_neg h0]
theorem cel_indep_24 {cy : Nat → ClassId} {ad : Nat → Nat → Int → Nat} {M M1 : Mem} {c : Nat} {i : Int} (hd : dmb ad 24 c i = true) (h : ∀ (c1 k1 : Nat) (i1 : Int), owner c1 k1 i1 = (24, c, i) → M1 c1 k1 i1 = M c1 k1 i1) : cel cy ad M1 24 c i = cel cy ad M 24 c i := by
  have hc : c = 2 := by simp [dmb] at hd; omega
  have hi : i = 0 := by simp [dmb] at hd; omega
  subst hc; subst hi
  simp only [cel]
  congr 4
  funext j
  rw [h 4 0 j rfl]
theorem cel_indep_25 {cy : Nat → ClassId} {ad : Nat → Nat → Int → Nat} {M M1 : Mem} {c : Nat} {i : Int} (hd : dmb ad 25 c i = true) (h : ∀ (c1 k1 : Nat) (i1 : Int), owner c1 k1 i1 = (25, c, i) → M1 c1 k1 i1 = M c1 k1 i1) : cel cy ad M1 25 c i = cel cy ad M 25 c i := by
  have hc : c = 2 := by simp [dmb] at hd; omega
  have hi : i = 0 := by simp [dmb] at hd; omega
  subst hc; subst hi
  simp only [cel]
  congr 4
  funext j
  rw [h 4 1 j rfl]
theorem cel_indep_26 {cy : Nat → ClassId} {ad : Nat → Nat → Int → Nat} {M M1 : Mem} {c : Nat} {i : Int} (hd : dmb ad 26 c i = true) (h : ∀ (c1 k1 : Nat) (i1 : Int), owner c1 k1 i1 = (26, c, i) → M1 c1 k1 i1 = M c1 k1 i1) : cel cy ad M1 26 c i = cel cy ad M 26 c i := by
  have hc : c = 2 := by simp [dmb] at hd; omega
  have hi : i = 0 := by simp [dmb] at hd; omega
  subst hc; subst hi
  simp only [cel]
  congr 4
  funext j
  rw [h 4 2 j rfl]
theorem cel_indep_27 {cy : Nat → ClassId} {ad : Nat → Nat → Int → Nat} {M M1 : Mem} {c : Nat} {i : Int} (hd : dmb ad 27 c i = true) (h : ∀ (c1 k1 : Nat) (i1 : Int), owner c1 k1 i1 = (27, c, i) → M1 c1 k1 i1 = M c1 k1 i1) : cel cy ad M1 27 c i = cel cy ad M 27 c i := by
  have hc : c = 2 := by simp [dmb] at hd; omega
  have hi : i = 0 := by simp [dmb] at hd; omega
  subst hc; subst hi
  simp only [cel]
  congr 4
  funext j
  rw [h 4 3 j rfl]
theorem cel_indep_28 {cy : Nat → ClassId} {ad : Nat → Nat → Int → Nat} {M M1 : Mem} {c : Nat} {i : Int} (hd : dmb ad 28 c i = true) (h : ∀ (c1 k1 : Nat) (i1 : Int), owner c1 k1 i1 = (28, c, i) → M1 c1 k1 i1 = M c1 k1 i1) : cel cy ad M1 28 c i = cel cy ad M 28 c i := by
  have hc : c = 2 := by simp [dmb] at hd; omega
  have hi : i = 0 := by simp [dmb] at hd; omega
  subst hc; subst hi
  simp only [cel]
  congr 4
  funext j
  rw [h 4 4 j rfl]
theorem cel_indep_29 {cy : Nat → ClassId} {ad : Nat → Nat → Int → Nat} {M M1 : Mem} {c : Nat} {i : Int} (hd : dmb ad 29 c i = true) (h : ∀ (c1 k1 : Nat) (i1 : Int), owner c1 k1 i1 = (29, c, i) → M1 c1 k1 i1 = M c1 k1 i1) : cel cy ad M1 29 c i = cel cy ad M 29 c i := by
  have hc : c = 2 := by simp [dmb] at hd; omega
  have hi : i = 0 := by simp [dmb] at hd; omega
  subst hc; subst hi
  simp only [cel]
  congr 4
  funext j
  rw [h 4 5 j rfl]
theorem cel_indep_30 {cy : Nat → ClassId} {ad : Nat → Nat → Int → Nat} {M M1 : Mem} {c : Nat} {i : Int} (hd : dmb ad 30 c i = true) (h : ∀ (c1 k1 : Nat) (i1 : Int), owner c1 k1 i1 = (30, c, i) → M1 c1 k1 i1 = M c1 k1 i1) : cel cy ad M1 30 c i = cel cy ad M 30 c i := by
  have hc : c = 2 := by simp [dmb] at hd; omega
  have hi : i = 0 := by simp [dmb] at hd; omega
  subst hc; subst hi
  simp only [cel]
  congr 4
  funext j
  rw [h 4 6 j rfl]
theorem cel_indep_31 {cy : Nat → ClassId} {ad : Nat → Nat → Int → Nat} {M M1 : Mem} {c : Nat} {i : Int} (hd : dmb ad 31 c i = true) (h : ∀ (c1 k1 : Nat) (i1 : Int), owner c1 k1 i1 = (31, c, i) → M1 c1 k1 i1 = M c1 k1 i1) : cel cy ad M1 31 c i = cel cy ad M 31 c i := by
  have hc : c = 2 := by simp [dmb] at hd; omega
  have hi : i = 0 := by simp [dmb] at hd; omega
  subst hc; subst hi
  simp only [cel]
  congr 4
  funext j
  rw [h 4 7 j rfl]
theorem cel_indep_32 {cy : Nat → ClassId} {ad : Nat → Nat → Int → Nat} {M M1 : Mem} {c : Nat} {i : Int} (hd : dmb ad 32 c i = true) (h : ∀ (c1 k1 : Nat) (i1 : Int), owner c1 k1 i1 = (32, c, i) → M1 c1 k1 i1 = M c1 k1 i1) : cel cy ad M1 32 c i = cel cy ad M 32 c i := by
  have hc : c = 2 := by simp [dmb] at hd; omega
  have hi : i = 0 := by simp [dmb] at hd; omega
  subst hc; subst hi
  simp only [cel]
  congr 7
  funext j
  unfold outF
  rw [h 4 20 0 rfl, h 4 20 1 rfl]
theorem cel_indep {cy : Nat → ClassId} {ad : Nat → Nat → Int → Nat} {M M1 : Mem} {t c : Nat} {i : Int} (hd : dmb ad t c i = true) (h : ∀ (c1 k1 : Nat) (i1 : Int), owner c1 k1 i1 = (t, c, i) → M1 c1 k1 i1 = M c1 k1 i1) : cel cy ad M1 t c i = cel cy ad M t c i := by
  have ht := (dm_bd hd).1
  have : t = 0 ∨ t = 1 ∨ t = 2 ∨ t = 3 ∨ t = 4 ∨ t = 5 ∨ t = 6 ∨ t = 7 ∨ t = 8 ∨ t = 9 ∨ t = 10 ∨ t = 11 ∨ t = 12 ∨ t = 13 ∨ t = 14 ∨ t = 15 ∨ t = 16 ∨ t = 17 ∨ t = 18 ∨ t = 19 ∨ t = 20 ∨ t = 21 ∨ t = 22 ∨ t = 23 ∨ t = 24 ∨ t = 25 ∨ t = 26 ∨ t = 27 ∨ t = 28 ∨ t = 29 ∨ t = 30 ∨ t = 31 ∨ t = 32 := by omega
  rcases this with rfl | rfl | rfl | rfl | rfl | rfl | rfl | rfl | rfl | rfl | rfl | rfl | rfl | rfl | rfl | rfl | rfl | rfl | rfl | rfl | rfl | rfl | rfl | rfl | rfl | rfl | rfl | rfl | rfl | rfl | rfl | rfl | rfl
  · exact cel_indep_0 hd h
  · exact cel_indep_1 hd h
  · exact cel_indep_2 hd h
  · exact cel_indep_3 hd h
  · exact cel_indep_4 hd h
  · exact cel_indep_5 hd h
  · exact cel_indep_6 hd h
  · exact cel_indep_7 hd h
  · exact cel_indep_8 hd h
  · exact cel_indep_9 hd h
  · exact cel_indep_10 hd h
  · exact cel_indep_11 hd h
  · exact cel_indep_12 hd h
  · exact cel_indep_13 hd h
  · exact cel_indep_14 hd h
  · exact cel_indep_15 hd h
  · exact cel_indep_16 hd h
  · exact cel_indep_17 hd h
  · exact cel_indep_18 hd h
  · exact cel_indep_19 hd h
  · exact cel_indep_20 hd h
  · exact cel_indep_21 hd h
  · exact cel_indep_22 hd h
  · exact cel_indep_23 hd h
  · exact cel_indep_24 hd h
  · exact cel_indep_25 hd h
  · exact cel_indep_26 hd h
  · exact cel_indep_27 hd h
  · exact cel_indep_28 hd h
  · exact cel_indep_29 hd h
  · exact cel_indep_30 hd h
  · exact cel_indep_31 hd h
  · exact cel_indep_32 hd h
theorem ws_at {cy : Nat → ClassId} {ad : Nat → Nat → Int → Nat} (M : Mem) {t c : Nat} {i : Int} (h : dmb ad t c i = true) : ∃ q0 : Nat, (keys ad)[q0]? = some (t, c, i) ∧ (wsOf cy ad M)[q0]? = some (ad t c i, cel cy ad M t c i) := by
  obtain ⟨q0, hq⟩ := List.getElem?_of_mem (mem_keys h)
  exact ⟨q0, hq, by unfold wsOf; rw [List.getElem?_map, hq]; rfl⟩
theorem map_set_nd {α β : Type} {f g : α → β} : ∀ {l : List α}, l.Nodup → ∀ {j : Nat} {a : α}, l[j]? = some a → (∀ b ∈ l, b ≠ a → g b = f b) → (l.map f).set j (g a) = l.map g
  | [], _, j, a, h, _ => by simp at h
  | x :: l, hn, j, a, h, hf => by
    have hn2 := List.nodup_cons.mp hn
    cases j with
    | zero =>
      rw [List.getElem?_cons_zero] at h
      cases h
      simp only [List.map_cons, List.set_cons_zero]
      congr 1
      exact List.map_congr_left fun b hb => (hf b (List.mem_cons_of_mem _ hb) (fun e => hn2.1 (e ▸ hb))).symm
    | succ j =>
      rw [List.getElem?_cons_succ] at h
      have hne : x ≠ a := fun e => hn2.1 (e ▸ List.mem_of_getElem? h)
      simp only [List.map_cons, List.set_cons_succ]
      rw [map_set_nd hn2.2 h (fun b hb hne => hf b (List.mem_cons_of_mem _ hb) hne), hf x List.mem_cons_self hne]
/-- a store: the world of the new memory is the old one with one cell set -/
theorem ws_set {cy : Nat → ClassId} {ad : Nat → Nat → Int → Nat} {M M1 : Mem} {t c : Nat} {i : Int} {q0 : Nat} {e : va_E} (hq : (keys ad)[q0]? = some (t, c, i)) (he : cel cy ad M1 t c i = e)
    (h : ∀ (c1 k1 : Nat) (i1 : Int), owner c1 k1 i1 ≠ (t, c, i) → M1 c1 k1 i1 = M c1 k1 i1) : (wsOf cy ad M).set q0 (ad t c i, e) = wsOf cy ad M1 := by
  subst he
  refine map_set_nd (f := fun k : Nat × Nat × Int => (ad k.1 k.2.1 k.2.2, cel cy ad M k.1 k.2.1 k.2.2)) (g := fun k : Nat × Nat × Int => (ad k.1 k.2.1 k.2.2, cel cy ad M1 k.1 k.2.1 k.2.2)) (keys_nd ad) (a := (t, c, i)) hq fun b hb hne => ?_
  obtain ⟨t2, c2, i2⟩ := b
  show (_, _) = (_, _)
  rw [cel_indep (of_keys hb) fun c1 k1 i1 ho => h c1 k1 i1 (fun e => hne (by rw [← ho, e]))]
/-- memories that agree where cells are have one world -/
theorem ws_congr {cy : Nat → ClassId} {ad : Nat → Nat → Int → Nat} {M M1 : Mem} (h : ∀ (c1 k1 : Nat) (i1 : Int), owner c1 k1 i1 ∈ keys ad → M1 c1 k1 i1 = M c1 k1 i1) : wsOf cy ad M1 = wsOf cy ad M := by
  unfold wsOf
  refine List.map_congr_left fun b hb => ?_
  obtain ⟨t2, c2, i2⟩ := b
  show (_, _) = (_, _)
  rw [cel_indep (of_keys hb) fun c1 k1 i1 ho => h c1 k1 i1 (by rw [ho]; exact hb)]
def Inj (ad : Nat → Nat → Int → Nat) : Prop := ∀ (t c : Nat) (i : Int) (t' c' : Nat) (i' : Int), dmb ad t c i = true → dmb ad t' c' i' = true → ad t c i = ad t' c' i' → (t, c, i) = (t', c', i')
theorem nd_inj {α : Type} : ∀ {l : List α}, l.Nodup → ∀ {i j : Nat} {a : α}, l[i]? = some a → l[j]? = some a → i = j
  | [], _, i, j, a, h, _ => by simp at h
  | x :: l, hn, i, j, a, h1, h2 => by
    have hn2 := List.nodup_cons.mp hn
    match i, j, h1, h2 with
    | 0, 0, _, _ => rfl
    | 0, j + 1, h1, h2 =>
      rw [List.getElem?_cons_zero] at h1
      rw [List.getElem?_cons_succ] at h2
      cases h1
      exact absurd (List.mem_of_getElem? h2) hn2.1
    | i + 1, 0, h1, h2 =>
      rw [List.getElem?_cons_zero] at h2
      rw [List.getElem?_cons_succ] at h1
      cases h2
      exact absurd (List.mem_of_getElem? h1) hn2.1
    | i + 1, j + 1, h1, h2 =>
      rw [List.getElem?_cons_succ] at h1 h2
      rw [nd_inj hn2.2 h1 h2]
theorem wsD {cy : Nat → ClassId} {ad : Nat → Nat → Int → Nat} {A : Nat → Prop} (hI : Inj ad) (hA : ∀ (t c : Nat) (i : Int), dmb ad t c i = true → A (ad t c i)) (M : Mem) : va_D A (wsOf cy ad M) := by
  have key : ∀ (k : Nat) (q : Nat × va_E), (wsOf cy ad M)[k]? = some q → ∃ t c i, (keys ad)[k]? = some (t, c, i) ∧ q.1 = ad t c i ∧ dmb ad t c i = true := by
    intro k q h
    unfold wsOf at h
    rw [List.getElem?_map] at h
    cases hk : (keys ad)[k]? with
    | none => rw [hk] at h; cases h
    | some b =>
      rw [hk] at h
      obtain ⟨t, c, i⟩ := b
      cases h
      exact ⟨t, c, i, rfl, rfl, of_keys (List.mem_of_getElem? hk)⟩
  refine ⟨fun i j p q hi hj hpq => ?_, fun k q hk => ?_⟩
  · obtain ⟨t, c, x, h1, h2, h3⟩ := key i p hi
    obtain ⟨t', c', x', g1, g2, g3⟩ := key j q hj
    have e := hI t c x t' c' x' h3 g3 (by rw [← h2, ← g2, hpq])
    rw [← e] at g1
    exact nd_inj (keys_nd ad) h1 g1
  · obtain ⟨t, c, x, h1, h2, h3⟩ := key k q hk
    rw [h2]
    exact hA t c x h3
/-- the array classes -/
abbrev tyl (cy : Nat → ClassId) : List (ClassId × FieldType) := [(cy 0, .int), (cy 1, .array .int), (cy 2, .object "CoveSignals$Lantern"), (cy 3, .object "CoveSignals$Watchman"), (cy 4, .object "CoveSignals$Boat")]
