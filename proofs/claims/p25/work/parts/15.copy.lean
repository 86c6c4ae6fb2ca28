/-! Memories that agree where the heap has a place; whole arrays copied. -/
def lenK (k : Nat) : Int := if k < 2 then 16 else if k < 4 then 8 else if k = 4 then 5 else if k = 5 then 50 else if k = 6 then 5 else if k < 13 then 4 else 6
def rep (k : Nat) (i : Int) : Prop := k ≤ 20 ∧ 0 ≤ i ∧ i < lenK k
def agree (M M1 : Mem) : Prop := (∀ (c k : Nat) (i : Int), c < 2 → rep k i → M1 c k i = M c k i) ∧ M1 2 = M 2 ∧ M1 4 = M 4
theorem arrV_congr {cI : ClassId} {N : Nat} {f g : Nat → Value} (h : ∀ j, j < N → f j = g j) : arrV cI N f = arrV cI N g := by
  unfold arrV
  congr 1
  apply Array.ext
  · simp
  · intro j h1 h2
    simp
    exact h j (by simpa using h1)
theorem cell_congr {cA : ClassId} {N : Nat} {f g : Nat → Int32} (h : ∀ j, j < N → f j = g j) : vp_cell cA (N, .inl f) = vp_cell cA (N, .inl g) := by
  show arrV cA N (fun j => .int (f j)) = arrV cA N (fun j => .int (g j))
  exact arrV_congr (fun j hj => by rw [h j hj])

theorem at_congr_0 {cy : Nat → ClassId} {D : va_G} {ad : Nat → Nat → Int → Nat} {M M1 : Mem} {c : Nat} {i : Int} {H : Heap} (hd : dmb ad 0 c i = true) (ha : agree M M1) (h : va_at D vwCl (ad 0 c i, cel cy ad M 0 c i) H) : va_at D vwCl (ad 0 c i, cel cy ad M1 0 c i) H := by
  have e : cel cy ad M1 0 c i = cel cy ad M 0 c i := by simp only [cel]
  rw [e]; exact h
theorem at_congr_1 {cy : Nat → ClassId} {D : va_G} {ad : Nat → Nat → Int → Nat} {M M1 : Mem} {c : Nat} {i : Int} {H : Heap} (hd : dmb ad 1 c i = true) (ha : agree M M1) (h : va_at D vwCl (ad 1 c i, cel cy ad M 1 c i) H) : va_at D vwCl (ad 1 c i, cel cy ad M1 1 c i) H := by
  have hc : c < 2 := by simp [dmb] at hd; omega
  have e : cel cy ad M1 1 c i = cel cy ad M 1 c i := by
    simp only [cel]
    rw [ha.1 c 20 1 hc ⟨by decide, by decide, by simp [lenK]⟩, ha.1 c 20 2 hc ⟨by decide, by decide, by simp [lenK]⟩, ha.1 c 20 3 hc ⟨by decide, by decide, by simp [lenK]⟩, ha.1 c 20 0 hc ⟨by decide, by decide, by simp [lenK]⟩, ha.1 c 20 4 hc ⟨by decide, by decide, by simp [lenK]⟩, ha.1 c 20 5 hc ⟨by decide, by decide, by simp [lenK]⟩]
  rw [e]; exact h
theorem at_congr_2 {cy : Nat → ClassId} {D : va_G} {ad : Nat → Nat → Int → Nat} {M M1 : Mem} {c : Nat} {i : Int} {H : Heap} (hd : dmb ad 2 c i = true) (ha : agree M M1) (h : va_at D vwCl (ad 2 c i, cel cy ad M 2 c i) H) : va_at D vwCl (ad 2 c i, cel cy ad M1 2 c i) H := by
  have hc : c < 2 := by simp [dmb] at hd; omega
  show H[ad 2 c i]? = some (vp_cell (cy 0) (16, .inl (fun j => i32 (M1 c 0 (j : Int)))))
  have h1 : H[ad 2 c i]? = some (vp_cell (cy 0) (16, .inl (fun j => i32 (M c 0 (j : Int))))) := h
  rw [h1, cell_congr]
  intro j hj
  rw [ha.1 c 0 j hc ⟨by decide, by omega, by simp [lenK]; omega⟩]
theorem at_congr_3 {cy : Nat → ClassId} {D : va_G} {ad : Nat → Nat → Int → Nat} {M M1 : Mem} {c : Nat} {i : Int} {H : Heap} (hd : dmb ad 3 c i = true) (ha : agree M M1) (h : va_at D vwCl (ad 3 c i, cel cy ad M 3 c i) H) : va_at D vwCl (ad 3 c i, cel cy ad M1 3 c i) H := by
  have hc : c < 2 := by simp [dmb] at hd; omega
  show H[ad 3 c i]? = some (vp_cell (cy 0) (16, .inl (fun j => i32 (M1 c 1 (j : Int)))))
  have h1 : H[ad 3 c i]? = some (vp_cell (cy 0) (16, .inl (fun j => i32 (M c 1 (j : Int))))) := h
  rw [h1, cell_congr]
  intro j hj
  rw [ha.1 c 1 j hc ⟨by decide, by omega, by simp [lenK]; omega⟩]
theorem at_congr_4 {cy : Nat → ClassId} {D : va_G} {ad : Nat → Nat → Int → Nat} {M M1 : Mem} {c : Nat} {i : Int} {H : Heap} (hd : dmb ad 4 c i = true) (ha : agree M M1) (h : va_at D vwCl (ad 4 c i, cel cy ad M 4 c i) H) : va_at D vwCl (ad 4 c i, cel cy ad M1 4 c i) H := by
  have hc : c < 2 := by simp [dmb] at hd; omega
  show H[ad 4 c i]? = some (vp_cell (cy 0) (8, .inl (fun j => i32 (M1 c 2 (j : Int)))))
  have h1 : H[ad 4 c i]? = some (vp_cell (cy 0) (8, .inl (fun j => i32 (M c 2 (j : Int))))) := h
  rw [h1, cell_congr]
  intro j hj
  rw [ha.1 c 2 j hc ⟨by decide, by omega, by simp [lenK]; omega⟩]
theorem at_congr_5 {cy : Nat → ClassId} {D : va_G} {ad : Nat → Nat → Int → Nat} {M M1 : Mem} {c : Nat} {i : Int} {H : Heap} (hd : dmb ad 5 c i = true) (ha : agree M M1) (h : va_at D vwCl (ad 5 c i, cel cy ad M 5 c i) H) : va_at D vwCl (ad 5 c i, cel cy ad M1 5 c i) H := by
  have hc : c < 2 := by simp [dmb] at hd; omega
  show H[ad 5 c i]? = some (vp_cell (cy 0) (8, .inl (fun j => i32 (M1 c 3 (j : Int)))))
  have h1 : H[ad 5 c i]? = some (vp_cell (cy 0) (8, .inl (fun j => i32 (M c 3 (j : Int))))) := h
  rw [h1, cell_congr]
  intro j hj
  rw [ha.1 c 3 j hc ⟨by decide, by omega, by simp [lenK]; omega⟩]
theorem at_congr_6 {cy : Nat → ClassId} {D : va_G} {ad : Nat → Nat → Int → Nat} {M M1 : Mem} {c : Nat} {i : Int} {H : Heap} (hd : dmb ad 6 c i = true) (ha : agree M M1) (h : va_at D vwCl (ad 6 c i, cel cy ad M 6 c i) H) : va_at D vwCl (ad 6 c i, cel cy ad M1 6 c i) H := by
  have e : cel cy ad M1 6 c i = cel cy ad M 6 c i := by simp only [cel]
  rw [e]; exact h
theorem at_congr_7 {cy : Nat → ClassId} {D : va_G} {ad : Nat → Nat → Int → Nat} {M M1 : Mem} {c : Nat} {i : Int} {H : Heap} (hd : dmb ad 7 c i = true) (ha : agree M M1) (h : va_at D vwCl (ad 7 c i, cel cy ad M 7 c i) H) : va_at D vwCl (ad 7 c i, cel cy ad M1 7 c i) H := by
  have e : cel cy ad M1 7 c i = cel cy ad M 7 c i := by simp only [cel]
  rw [e]; exact h
theorem at_congr_8 {cy : Nat → ClassId} {D : va_G} {ad : Nat → Nat → Int → Nat} {M M1 : Mem} {c : Nat} {i : Int} {H : Heap} (hd : dmb ad 8 c i = true) (ha : agree M M1) (h : va_at D vwCl (ad 8 c i, cel cy ad M 8 c i) H) : va_at D vwCl (ad 8 c i, cel cy ad M1 8 c i) H := by
  have e : cel cy ad M1 8 c i = cel cy ad M 8 c i := by simp only [cel]
  rw [e]; exact h
theorem at_congr_9 {cy : Nat → ClassId} {D : va_G} {ad : Nat → Nat → Int → Nat} {M M1 : Mem} {c : Nat} {i : Int} {H : Heap} (hd : dmb ad 9 c i = true) (ha : agree M M1) (h : va_at D vwCl (ad 9 c i, cel cy ad M 9 c i) H) : va_at D vwCl (ad 9 c i, cel cy ad M1 9 c i) H := by
  have hc : c < 2 := by simp [dmb] at hd; omega
  have hi : 0 ≤ i ∧ i < 5 := by simp [dmb] at hd; omega
  have e : cel cy ad M1 9 c i = cel cy ad M 9 c i := by
    simp only [cel]
    rw [ha.1 c 4 i hc ⟨by decide, by omega, by simp [lenK]; omega⟩, ha.1 c 6 i hc ⟨by decide, by omega, by simp [lenK]; omega⟩]
  rw [e]; exact h
theorem at_congr_10 {cy : Nat → ClassId} {D : va_G} {ad : Nat → Nat → Int → Nat} {M M1 : Mem} {c : Nat} {i : Int} {H : Heap} (hd : dmb ad 10 c i = true) (ha : agree M M1) (h : va_at D vwCl (ad 10 c i, cel cy ad M 10 c i) H) : va_at D vwCl (ad 10 c i, cel cy ad M1 10 c i) H := by
  have hc : c < 2 := by simp [dmb] at hd; omega
  have hi : 0 ≤ i ∧ i < 5 := by simp [dmb] at hd; omega
  show H[ad 10 c i]? = some (vp_cell (cy 0) (10, .inl (fun j => if j < 10 then i32 (M1 c 5 (10 * i + (j : Int))) else 0)))
  have h1 : H[ad 10 c i]? = some (vp_cell (cy 0) (10, .inl (fun j => if j < 10 then i32 (M c 5 (10 * i + (j : Int))) else 0))) := h
  rw [h1, cell_congr]
  intro j hj
  rw [if_pos hj, if_pos hj, ha.1 c 5 (10 * i + (j : Int)) hc ⟨by decide, by omega, by simp [lenK]; omega⟩]
theorem at_congr_11 {cy : Nat → ClassId} {D : va_G} {ad : Nat → Nat → Int → Nat} {M M1 : Mem} {c : Nat} {i : Int} {H : Heap} (hd : dmb ad 11 c i = true) (ha : agree M M1) (h : va_at D vwCl (ad 11 c i, cel cy ad M 11 c i) H) : va_at D vwCl (ad 11 c i, cel cy ad M1 11 c i) H := by
  have hc : c < 2 := by simp [dmb] at hd; omega
  have hi : 0 ≤ i ∧ i < 4 := by simp [dmb] at hd; omega
  have e : cel cy ad M1 11 c i = cel cy ad M 11 c i := by
    simp only [cel]
    rw [ha.1 c 7 i hc ⟨by decide, by omega, by simp [lenK]; omega⟩, ha.1 c 8 i hc ⟨by decide, by omega, by simp [lenK]; omega⟩, ha.1 c 9 i hc ⟨by decide, by omega, by simp [lenK]; omega⟩, ha.1 c 10 i hc ⟨by decide, by omega, by simp [lenK]; omega⟩, ha.1 c 11 i hc ⟨by decide, by omega, by simp [lenK]; omega⟩, ha.1 c 12 i hc ⟨by decide, by omega, by simp [lenK]; omega⟩]
  rw [e]; exact h
theorem at_congr_12 {cy : Nat → ClassId} {D : va_G} {ad : Nat → Nat → Int → Nat} {M M1 : Mem} {c : Nat} {i : Int} {H : Heap} (hd : dmb ad 12 c i = true) (ha : agree M M1) (h : va_at D vwCl (ad 12 c i, cel cy ad M 12 c i) H) : va_at D vwCl (ad 12 c i, cel cy ad M1 12 c i) H := by
  have hc : c < 2 := by simp [dmb] at hd; omega
  have hi : 0 ≤ i ∧ i < 6 := by simp [dmb] at hd; omega
  have e : cel cy ad M1 12 c i = cel cy ad M 12 c i := by
    simp only [cel]
    rw [ha.1 c 13 i hc ⟨by decide, by omega, by simp [lenK]; omega⟩, ha.1 c 14 i hc ⟨by decide, by omega, by simp [lenK]; omega⟩, ha.1 c 15 i hc ⟨by decide, by omega, by simp [lenK]; omega⟩, ha.1 c 16 i hc ⟨by decide, by omega, by simp [lenK]; omega⟩, ha.1 c 17 i hc ⟨by decide, by omega, by simp [lenK]; omega⟩, ha.1 c 18 i hc ⟨by decide, by omega, by simp [lenK]; omega⟩, ha.1 c 19 i hc ⟨by decide, by omega, by simp [lenK]; omega⟩]
  rw [e]; exact h
theorem at_congr_13 {cy : Nat → ClassId} {D : va_G} {ad : Nat → Nat → Int → Nat} {M M1 : Mem} {c : Nat} {i : Int} {H : Heap} (hd : dmb ad 13 c i = true) (ha : agree M M1) (h : va_at D vwCl (ad 13 c i, cel cy ad M 13 c i) H) : va_at D vwCl (ad 13 c i, cel cy ad M1 13 c i) H := by
  have hc : c = 2 := by simp [dmb] at hd; omega
  subst hc
  have e0 : outF ad M1 = outF ad M := by funext j; simp only [outF, ha.2.2]
  have e : cel cy ad M1 13 2 i = cel cy ad M 13 2 i := by simp only [cel, lanV, watV, boaV, e0, ha.2.1, ha.2.2]
  rw [e]; exact h
theorem at_congr_14 {cy : Nat → ClassId} {D : va_G} {ad : Nat → Nat → Int → Nat} {M M1 : Mem} {c : Nat} {i : Int} {H : Heap} (hd : dmb ad 14 c i = true) (ha : agree M M1) (h : va_at D vwCl (ad 14 c i, cel cy ad M 14 c i) H) : va_at D vwCl (ad 14 c i, cel cy ad M1 14 c i) H := by
  have hc : c = 2 := by simp [dmb] at hd; omega
  subst hc
  have e0 : outF ad M1 = outF ad M := by funext j; simp only [outF, ha.2.2]
  have e : cel cy ad M1 14 2 i = cel cy ad M 14 2 i := by simp only [cel, lanV, watV, boaV, e0, ha.2.1, ha.2.2]
  rw [e]; exact h
theorem at_congr_15 {cy : Nat → ClassId} {D : va_G} {ad : Nat → Nat → Int → Nat} {M M1 : Mem} {c : Nat} {i : Int} {H : Heap} (hd : dmb ad 15 c i = true) (ha : agree M M1) (h : va_at D vwCl (ad 15 c i, cel cy ad M 15 c i) H) : va_at D vwCl (ad 15 c i, cel cy ad M1 15 c i) H := by
  have hc : c = 2 := by simp [dmb] at hd; omega
  subst hc
  have e0 : outF ad M1 = outF ad M := by funext j; simp only [outF, ha.2.2]
  have e : cel cy ad M1 15 2 i = cel cy ad M 15 2 i := by simp only [cel, lanV, watV, boaV, e0, ha.2.1, ha.2.2]
  rw [e]; exact h
theorem at_congr_16 {cy : Nat → ClassId} {D : va_G} {ad : Nat → Nat → Int → Nat} {M M1 : Mem} {c : Nat} {i : Int} {H : Heap} (hd : dmb ad 16 c i = true) (ha : agree M M1) (h : va_at D vwCl (ad 16 c i, cel cy ad M 16 c i) H) : va_at D vwCl (ad 16 c i, cel cy ad M1 16 c i) H := by
  have hc : c = 2 := by simp [dmb] at hd; omega
  subst hc
  have e0 : outF ad M1 = outF ad M := by funext j; simp only [outF, ha.2.2]
  have e : cel cy ad M1 16 2 i = cel cy ad M 16 2 i := by simp only [cel, lanV, watV, boaV, e0, ha.2.1, ha.2.2]
  rw [e]; exact h
theorem at_congr_17 {cy : Nat → ClassId} {D : va_G} {ad : Nat → Nat → Int → Nat} {M M1 : Mem} {c : Nat} {i : Int} {H : Heap} (hd : dmb ad 17 c i = true) (ha : agree M M1) (h : va_at D vwCl (ad 17 c i, cel cy ad M 17 c i) H) : va_at D vwCl (ad 17 c i, cel cy ad M1 17 c i) H := by
  have hc : c = 2 := by simp [dmb] at hd; omega
  subst hc
  have e0 : outF ad M1 = outF ad M := by funext j; simp only [outF, ha.2.2]
  have e : cel cy ad M1 17 2 i = cel cy ad M 17 2 i := by simp only [cel, lanV, watV, boaV, e0, ha.2.1, ha.2.2]
  rw [e]; exact h
theorem at_congr_18 {cy : Nat → ClassId} {D : va_G} {ad : Nat → Nat → Int → Nat} {M M1 : Mem} {c : Nat} {i : Int} {H : Heap} (hd : dmb ad 18 c i = true) (ha : agree M M1) (h : va_at D vwCl (ad 18 c i, cel cy ad M 18 c i) H) : va_at D vwCl (ad 18 c i, cel cy ad M1 18 c i) H := by
  have hc : c = 2 := by simp [dmb] at hd; omega
  subst hc
  have e0 : outF ad M1 = outF ad M := by funext j; simp only [outF, ha.2.2]
  have e : cel cy ad M1 18 2 i = cel cy ad M 18 2 i := by simp only [cel, lanV, watV, boaV, e0, ha.2.1, ha.2.2]
  rw [e]; exact h
theorem at_congr_19 {cy : Nat → ClassId} {D : va_G} {ad : Nat → Nat → Int → Nat} {M M1 : Mem} {c : Nat} {i : Int} {H : Heap} (hd : dmb ad 19 c i = true) (ha : agree M M1) (h : va_at D vwCl (ad 19 c i, cel cy ad M 19 c i) H) : va_at D vwCl (ad 19 c i, cel cy ad M1 19 c i) H := by
  have hc : c = 2 := by simp [dmb] at hd; omega
  subst hc
  have e0 : outF ad M1 = outF ad M := by funext j; simp only [outF, ha.2.2]
  have e : cel cy ad M1 19 2 i = cel cy ad M 19 2 i := by simp only [cel, lanV, watV, boaV, e0, ha.2.1, ha.2.2]
  rw [e]; exact h
theorem at_congr_20 {cy : Nat → ClassId} {D : va_G} {ad : Nat → Nat → Int → Nat} {M M1 : Mem} {c : Nat} {i : Int} {H : Heap} (hd : dmb ad 20 c i = true) (ha : agree M M1) (h : va_at D vwCl (ad 20 c i, cel cy ad M 20 c i) H) : va_at D vwCl (ad 20 c i, cel cy ad M1 20 c i) H := by
  have hc : c = 2 := by simp [dmb] at hd; omega
  subst hc
  have e0 : outF ad M1 = outF ad M := by funext j; simp only [outF, ha.2.2]
  have e : cel cy ad M1 20 2 i = cel cy ad M 20 2 i := by simp only [cel, lanV, watV, boaV, e0, ha.2.1, ha.2.2]
  rw [e]; exact h
theorem at_congr_21 {cy : Nat → ClassId} {D : va_G} {ad : Nat → Nat → Int → Nat} {M M1 : Mem} {c : Nat} {i : Int} {H : Heap} (hd : dmb ad 21 c i = true) (ha : agree M M1) (h : va_at D vwCl (ad 21 c i, cel cy ad M 21 c i) H) : va_at D vwCl (ad 21 c i, cel cy ad M1 21 c i) H := by
  have hc : c = 2 := by simp [dmb] at hd; omega
  subst hc
  have e0 : outF ad M1 = outF ad M := by funext j; simp only [outF, ha.2.2]
  have e : cel cy ad M1 21 2 i = cel cy ad M 21 2 i := by simp only [cel, lanV, watV, boaV, e0, ha.2.1, ha.2.2]
  rw [e]; exact h
theorem at_congr_22 {cy : Nat → ClassId} {D : va_G} {ad : Nat → Nat → Int → Nat} {M M1 : Mem} {c : Nat} {i : Int} {H : Heap} (hd : dmb ad 22 c i = true) (ha : agree M M1) (h : va_at D vwCl (ad 22 c i, cel cy ad M 22 c i) H) : va_at D vwCl (ad 22 c i, cel cy ad M1 22 c i) H := by
  have hc : c = 2 := by simp [dmb] at hd; omega
  subst hc
  have e0 : outF ad M1 = outF ad M := by funext j; simp only [outF, ha.2.2]
  have e : cel cy ad M1 22 2 i = cel cy ad M 22 2 i := by simp only [cel, lanV, watV, boaV, e0, ha.2.1, ha.2.2]
  rw [e]; exact h
theorem at_congr_23 {cy : Nat → ClassId} {D : va_G} {ad : Nat → Nat → Int → Nat} {M M1 : Mem} {c : Nat} {i : Int} {H : Heap} (hd : dmb ad 23 c i = true) (ha : agree M M1) (h : va_at D vwCl (ad 23 c i, cel cy ad M 23 c i) H) : va_at D vwCl (ad 23 c i, cel cy ad M1 23 c i) H := by
  have hc : c = 2 := by simp [dmb] at hd; omega
  subst hc
  have e0 : outF ad M1 = outF ad M := by funext j; simp only [outF, ha.2.2]
  have e : cel cy ad M1 23 2 i = cel cy ad M 23 2 i := by simp only [cel, lanV, watV, boaV, e0, ha.2.1, ha.2.2]
  rw [e]; exact h
theorem at_congr_24 {cy : Nat → ClassId} {D : va_G} {ad : Nat → Nat → Int → Nat} {M M1 : Mem} {c : Nat} {i : Int} {H : Heap} (hd : dmb ad 24 c i = true) (ha : agree M M1) (h : va_at D vwCl (ad 24 c i, cel cy ad M 24 c i) H) : va_at D vwCl (ad 24 c i, cel cy ad M1 24 c i) H := by
  have hc : c = 2 := by simp [dmb] at hd; omega
  subst hc
  have e0 : outF ad M1 = outF ad M := by funext j; simp only [outF, ha.2.2]
  have e : cel cy ad M1 24 2 i = cel cy ad M 24 2 i := by simp only [cel, lanV, watV, boaV, e0, ha.2.1, ha.2.2]
  rw [e]; exact h
theorem at_congr_25 {cy : Nat → ClassId} {D : va_G} {ad : Nat → Nat → Int → Nat} {M M1 : Mem} {c : Nat} {i : Int} {H : Heap} (hd : dmb ad 25 c i = true) (ha : agree M M1) (h : va_at D vwCl (ad 25 c i, cel cy ad M 25 c i) H) : va_at D vwCl (ad 25 c i, cel cy ad M1 25 c i) H := by
  have hc : c = 2 := by simp [dmb] at hd; omega
  subst hc
  have e0 : outF ad M1 = outF ad M := by funext j; simp only [outF, ha.2.2]
  have e : cel cy ad M1 25 2 i = cel cy ad M 25 2 i := by simp only [cel, lanV, watV, boaV, e0, ha.2.1, ha.2.2]
  rw [e]; exact h
theorem at_congr_26 {cy : Nat → ClassId} {D : va_G} {ad : Nat → Nat → Int → Nat} {M M1 : Mem} {c : Nat} {i : Int} {H : Heap} (hd : dmb ad 26 c i = true) (ha : agree M M1) (h : va_at D vwCl (ad 26 c i, cel cy ad M 26 c i) H) : va_at D vwCl (ad 26 c i, cel cy ad M1 26 c i) H := by
  have hc : c = 2 := by simp [dmb] at hd; omega
  subst hc
  have e0 : outF ad M1 = outF ad M := by funext j; simp only [outF, ha.2.2]
  have e : cel cy ad M1 26 2 i = cel cy ad M 26 2 i := by simp only [cel, lanV, watV, boaV, e0, ha.2.1, ha.2.2]
  rw [e]; exact h
theorem at_congr_27 {cy : Nat → ClassId} {D : va_G} {ad : Nat → Nat → Int → Nat} {M M1 : Mem} {c : Nat} {i : Int} {H : Heap} (hd : dmb ad 27 c i = true) (ha : agree M M1) (h : va_at D vwCl (ad 27 c i, cel cy ad M 27 c i) H) : va_at D vwCl (ad 27 c i, cel cy ad M1 27 c i) H := by
  have hc : c = 2 := by simp [dmb] at hd; omega
  subst hc
  have e0 : outF ad M1 = outF ad M := by funext j; simp only [outF, ha.2.2]
  have e : cel cy ad M1 27 2 i = cel cy ad M 27 2 i := by simp only [cel, lanV, watV, boaV, e0, ha.2.1, ha.2.2]
  rw [e]; exact h
theorem at_congr_28 {cy : Nat → ClassId} {D : va_G} {ad : Nat → Nat → Int → Nat} {M M1 : Mem} {c : Nat} {i : Int} {H : Heap} (hd : dmb ad 28 c i = true) (ha : agree M M1) (h : va_at D vwCl (ad 28 c i, cel cy ad M 28 c i) H) : va_at D vwCl (ad 28 c i, cel cy ad M1 28 c i) H := by
  have hc : c = 2 := by simp [dmb] at hd; omega
  subst hc
  have e0 : outF ad M1 = outF ad M := by funext j; simp only [outF, ha.2.2]
  have e : cel cy ad M1 28 2 i = cel cy ad M 28 2 i := by simp only [cel, lanV, watV, boaV, e0, ha.2.1, ha.2.2]
  rw [e]; exact h
theorem at_congr_29 {cy : Nat → ClassId} {D : va_G} {ad : Nat → Nat → Int → Nat} {M M1 : Mem} {c : Nat} {i : Int} {H : Heap} (hd : dmb ad 29 c i = true) (ha : agree M M1) (h : va_at D vwCl (ad 29 c i, cel cy ad M 29 c i) H) : va_at D vwCl (ad 29 c i, cel cy ad M1 29 c i) H := by
  have hc : c = 2 := by simp [dmb] at hd; omega
  subst hc
  have e0 : outF ad M1 = outF ad M := by funext j; simp only [outF, ha.2.2]
  have e : cel cy ad M1 29 2 i = cel cy ad M 29 2 i := by simp only [cel, lanV, watV, boaV, e0, ha.2.1, ha.2.2]
  rw [e]; exact h
theorem at_congr_30 {cy : Nat → ClassId} {D : va_G} {ad : Nat → Nat → Int → Nat} {M M1 : Mem} {c : Nat} {i : Int} {H : Heap} (hd : dmb ad 30 c i = true) (ha : agree M M1) (h : va_at D vwCl (ad 30 c i, cel cy ad M 30 c i) H) : va_at D vwCl (ad 30 c i, cel cy ad M1 30 c i) H := by
  have hc : c = 2 := by simp [dmb] at hd; omega
  subst hc
  have e0 : outF ad M1 = outF ad M := by funext j; simp only [outF, ha.2.2]
  have e : cel cy ad M1 30 2 i = cel cy ad M 30 2 i := by simp only [cel, lanV, watV, boaV, e0, ha.2.1, ha.2.2]
  rw [e]; exact h
theorem at_congr_31 {cy : Nat → ClassId} {D : va_G} {ad : Nat → Nat → Int → Nat} {M M1 : Mem} {c : Nat} {i : Int} {H : Heap} (hd : dmb ad 31 c i = true) (ha : agree M M1) (h : va_at D vwCl (ad 31 c i, cel cy ad M 31 c i) H) : va_at D vwCl (ad 31 c i, cel cy ad M1 31 c i) H := by
  have hc : c = 2 := by simp [dmb] at hd; omega
  subst hc
  have e0 : outF ad M1 = outF ad M := by funext j; simp only [outF, ha.2.2]
  have e : cel cy ad M1 31 2 i = cel cy ad M 31 2 i := by simp only [cel, lanV, watV, boaV, e0, ha.2.1, ha.2.2]
  rw [e]; exact h
theorem at_congr_32 {cy : Nat → ClassId} {D : va_G} {ad : Nat → Nat → Int → Nat} {M M1 : Mem} {c : Nat} {i : Int} {H : Heap} (hd : dmb ad 32 c i = true) (ha : agree M M1) (h : va_at D vwCl (ad 32 c i, cel cy ad M 32 c i) H) : va_at D vwCl (ad 32 c i, cel cy ad M1 32 c i) H := by
  have hc : c = 2 := by simp [dmb] at hd; omega
  subst hc
  have e0 : outF ad M1 = outF ad M := by funext j; simp only [outF, ha.2.2]
  have e : cel cy ad M1 32 2 i = cel cy ad M 32 2 i := by simp only [cel, lanV, watV, boaV, e0, ha.2.1, ha.2.2]
  rw [e]; exact h
theorem at_congr {cy : Nat → ClassId} {D : va_G} {ad : Nat → Nat → Int → Nat} {M M1 : Mem} {t c : Nat} {i : Int} {H : Heap} (hd : dmb ad t c i = true) (ha : agree M M1) (h : va_at D vwCl (ad t c i, cel cy ad M t c i) H) : va_at D vwCl (ad t c i, cel cy ad M1 t c i) H := by
  have ht := (dm_bd hd).1
  have : t = 0 ∨ t = 1 ∨ t = 2 ∨ t = 3 ∨ t = 4 ∨ t = 5 ∨ t = 6 ∨ t = 7 ∨ t = 8 ∨ t = 9 ∨ t = 10 ∨ t = 11 ∨ t = 12 ∨ t = 13 ∨ t = 14 ∨ t = 15 ∨ t = 16 ∨ t = 17 ∨ t = 18 ∨ t = 19 ∨ t = 20 ∨ t = 21 ∨ t = 22 ∨ t = 23 ∨ t = 24 ∨ t = 25 ∨ t = 26 ∨ t = 27 ∨ t = 28 ∨ t = 29 ∨ t = 30 ∨ t = 31 ∨ t = 32 := by omega
  rcases this with rfl | rfl | rfl | rfl | rfl | rfl | rfl | rfl | rfl | rfl | rfl | rfl | rfl | rfl | rfl | rfl | rfl | rfl | rfl | rfl | rfl | rfl | rfl | rfl | rfl | rfl | rfl | rfl | rfl | rfl | rfl | rfl | rfl
  · exact at_congr_0 hd ha h
  · exact at_congr_1 hd ha h
  · exact at_congr_2 hd ha h
  · exact at_congr_3 hd ha h
  · exact at_congr_4 hd ha h
  · exact at_congr_5 hd ha h
  · exact at_congr_6 hd ha h
  · exact at_congr_7 hd ha h
  · exact at_congr_8 hd ha h
  · exact at_congr_9 hd ha h
  · exact at_congr_10 hd ha h
  · exact at_congr_11 hd ha h
  · exact at_congr_12 hd ha h
  · exact at_congr_13 hd ha h
  · exact at_congr_14 hd ha h
  · exact at_congr_15 hd ha h
  · exact at_congr_16 hd ha h
  · exact at_congr_17 hd ha h
  · exact at_congr_18 hd ha h
  · exact at_congr_19 hd ha h
  · exact at_congr_20 hd ha h
  · exact at_congr_21 hd ha h
  · exact at_congr_22 hd ha h
  · exact at_congr_23 hd ha h
  · exact at_congr_24 hd ha h
  · exact at_congr_25 hd ha h
  · exact at_congr_26 hd ha h
  · exact at_congr_27 hd ha h
  · exact at_congr_28 hd ha h
  · exact at_congr_29 hd ha h
  · exact at_congr_30 hd ha h
  · exact at_congr_31 hd ha h
  · exact at_congr_32 hd ha h
theorem world_congr {cy : Nat → ClassId} {D : va_G} {ad : Nat → Nat → Int → Nat} {M M1 : Mem} {H : Heap} (ha : agree M M1) (h : va_P D vwCl (wsOf cy ad M) H) : va_P D vwCl (wsOf cy ad M1) H := by
  intro k q hk
  unfold wsOf at hk
  rw [List.getElem?_map] at hk
  cases hb : (keys ad)[k]? with
  | none => rw [hb] at hk; cases hk
  | some b =>
    rw [hb] at hk
    obtain ⟨t, c, i⟩ := b
    cases hk
    have h2 := h k (ad t c i, cel cy ad M t c i) (by unfold wsOf; rw [List.getElem?_map, hb]; rfl)
    exact at_congr (of_keys (List.mem_of_getElem? hb)) ha h2
section COPY
variable {p : Program} {l : Launch} {e : Env} {R : Room} {s : State} {m : MethodId} {args : Array Value} {below : List Frame} {meth : Method} {c : Code} {nL : Nat} {cy : Nat → ClassId} {D : va_G} {ad : Nat → Nat → Int → Nat} {A : Nat → Prop} {kc ks : Nat} {Q : State → Prop} {pc : Nat} {lv : List (Option Value)} {st : List Value} {M : Mem} {cc : ByteArray} {ret : Option FieldType} {own : String}
theorem V.agree {M1 : Mem} (h : agree M M1) (k : V p l e R s m args below meth c nL cy D ad A kc ks Q pc lv st M1) : V p l e R s m args below meth c nL cy D ad A kc ks Q pc lv st M := fun H locs ls hP hS hl => k H locs ls (world_congr h hP) hS hl
theorem r_copy (F : Fx p s m args meth c own cc nL ret cy D ad A) {t c1 t2 c2 n index : Nat} {i i2 z : Int} {f g : Nat → Int32} {M1 : Mem} (d : decode cc pc = .ok (.invokestatic index, 3)) (l1 : Cond.methodLink own index arraycopyName ∈ TB) (l2 : Cond.native arraycopyName ∈ TB) (l3 : Cond.static arraycopyName ∈ TB) (l4 : Cond.initialized "java/lang/System" ∈ TB)
    (hk : dmb ad t c1 i = true) (hk2 : dmb ad t2 c2 i2 = true) (hcel : cel cy ad M t c1 i = .inl (cy 0, n, .inl f)) (hcel2 : cel cy ad M t2 c2 i2 = .inl (cy 0, n, .inl g)) (hn : n < 2147483648) (hz : z = (n : Int))
    (hcel1 : cel cy ad M1 t2 c2 i2 = .inl (cy 0, n, .inl (va_cpy f g 0 0 n))) (hoth : ∀ (c1 k1 : Nat) (i1 : Int), owner c1 k1 i1 ≠ (t2, c2, i2) → M1 c1 k1 i1 = M c1 k1 i1) (hfr : 1 ≤ R.frames) (hlo : (st.map fun v => v.category).sum + (nativeFrameWords "java/lang/System" "arraycopy" 5 + 11) ≤ R.locals)
    (kk : V p l e R s m args below meth c nL cy D ad A kc ks Q (pc + 3) lv st M1) : V p l e R s m args below meth c nL cy D ad A kc ks Q pc lv (.int (i32 z) :: .int (i32 0) :: .ref (ad t2 c2 i2) :: .int (i32 0) :: .ref (ad t c1 i) :: st) M := by
  obtain ⟨hx, hb, hml, hown, hr, hlk, hts, hK, hI, hA1, hA2⟩ := F
  subst hz
  intro H locs ls hP hS hl
  obtain ⟨q0, hq, hw⟩ := ws_at (cy := cy) (ad := ad) M hk
  obtain ⟨q1, hq1, hw1⟩ := ws_at (cy := cy) (ad := ad) M hk2
  have e0 : (i32 0).toNatClampNeg = 0 := by decide
  have en : (i32 (n : Int)).toNatClampNeg = n := by rw [i32_cl (by omega) (by omega)]; omega
  have h0 : ¬ (i32 0 < 0) := by decide
  have hn0 : ¬ (i32 (n : Int) < 0) := fun h => by have := (i32_lt0 ⟨by omega, by omega⟩).mp h; omega
  refine va_copyi hx hb (hml.trans hl.1.symm) hown (hts _ l1) (hts _ l2) (hts _ l3) (hts _ l4) hK.1 hP (wsD hI hA1 M) hS q0 q1 0 0 (by rw [hw, hcel]) (by rw [hw1, hcel2]) rfl rfl rfl h0 h0 hn0 (by rw [e0, en]; omega) (by rw [e0, en]; omega) (fun _ _ => rfl) hfr hlo d (fun H1 locs1 hP1 hD1 hS1 => ?_)
  rw [e0, en, ws_set hq1 hcel1 hoth] at hP1
  exact kk H1 locs1 ls hP1 hS1 hl
end COPY
/-- a stretch of a kind, copied -/
def cpK (S : St) (kd : Nat) (lo n : Int) (src : Int → Int) : St := fun k i => if k = kd ∧ lo ≤ i ∧ i < lo + n then src i else S k i
theorem cpK_oth {M0 : Mem} {cc1 : Nat} {S : St} {kd t c2 : Nat} {i2 lo n : Int} {src : Int → Int} (ho : ∀ i, lo ≤ i → i < lo + n → owner cc1 kd i = (t, c2, i2)) : ∀ (c1 k1 : Nat) (i1 : Int), owner c1 k1 i1 ≠ (t, c2, i2) → setc M0 cc1 (cpK S kd lo n src) c1 k1 i1 = setc M0 cc1 S c1 k1 i1 := by
  intro c1 k1 i1 h
  unfold setc
  by_cases h1 : c1 = cc1
  · rw [if_pos h1, if_pos h1]
    unfold cpK
    rw [if_neg]
    rintro ⟨rfl, h2, h3⟩
    exact h (by rw [h1, ho i1 h2 h3])
  · rw [if_neg h1, if_neg h1]
theorem cpK_fun {S : St} {kd n : Nat} {src : Int → Int} : (fun j : Nat => i32 (cpK S kd 0 n src kd (j : Int))) = va_cpy (fun j : Nat => i32 (src (j : Int))) (fun j : Nat => i32 (S kd (j : Int))) 0 0 n := by
  funext j
  unfold cpK va_cpy
  by_cases h : j < n
  · rw [if_pos ⟨rfl, by omega, by omega⟩, if_pos ⟨by omega, by omega⟩]
    simp
  · rw [if_neg (fun h2 => h (by omega)), if_neg (fun h2 => h (by omega))]
theorem ac_n : Cond.native arraycopyName ∈ TB := tb_of 460 (by decide +kernel) (by decide +kernel)
theorem ac_s : Cond.static arraycopyName ∈ TB := tb_of 459 (by decide +kernel) (by decide +kernel)
theorem ac_i : Cond.initialized "java/lang/System" ∈ TB := tb_of 22 (by decide +kernel) (by decide +kernel)
theorem ac_X1_45 : Cond.methodLink RX1 45 arraycopyName ∈ TB := tb_of 458 (by decide +kernel) (by decide +kernel)
theorem ac_X2_15 : Cond.methodLink RX2 15 arraycopyName ∈ TB := tb_of 465 (by decide +kernel) (by decide +kernel)
theorem agree_k {M : Mem} {k : Nat} {S S1 : St} (h4 : k < 2) (h : ∀ (kd : Nat) (i : Int), rep kd i → S1 kd i = S kd i) : agree (setc M k S) (setc M k S1) := by
  refine ⟨fun c1 k1 i1 h1 h2 => ?_, by rw [setc_ne _ _ (by omega), setc_ne _ _ (by omega)], by rw [setc_ne _ _ (by omega), setc_ne _ _ (by omega)]⟩
  by_cases e : c1 = k
  · subst e; rw [setc_at, setc_at]; exact h _ _ h2
  · rw [setc_ne _ _ e, setc_ne _ _ e]
