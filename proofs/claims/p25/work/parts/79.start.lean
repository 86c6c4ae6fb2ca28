/-! The world at the law's beginning: the class alone. -/
def M00 : Mem := fun _ => S0
theorem mm_00 : mm S0 S0 S0 M00 = M00 := by
  funext k
  unfold mm
  split
  · rfl
  · split
    · rfl
    · split <;> rfl
def adF (x b1 : Nat) (g1 : Nat → Nat) (b2 : Nat) (g2 : Nat → Nat) : Nat → Nat → Int → Nat := fun t c i => match t with
  | 0 => x
  | 1 => if c = 0 then b1 else b2
  | 2 => (if c = 0 then g1 else g2) 0
  | 3 => (if c = 0 then g1 else g2) 1
  | 4 => (if c = 0 then g1 else g2) 2
  | 5 => (if c = 0 then g1 else g2) 3
  | 6 => (if c = 0 then g1 else g2) 4
  | 7 => (if c = 0 then g1 else g2) 5
  | 8 => (if c = 0 then g1 else g2) 6
  | 9 => (if c = 0 then g1 else g2) (7 + 2 * i.toNat)
  | 10 => (if c = 0 then g1 else g2) (8 + 2 * i.toNat)
  | 11 => (if c = 0 then g1 else g2) (17 + i.toNat)
  | 12 => (if c = 0 then g1 else g2) (21 + i.toNat)
  | _ => 0
def posF (t c : Nat) (i : Int) : Nat := match t with
  | 0 => 0
  | 1 => if c = 0 then 1 else 29
  | 2 => (if c = 0 then 1 else 29) + 1
  | 3 => (if c = 0 then 1 else 29) + 2
  | 4 => (if c = 0 then 1 else 29) + 3
  | 5 => (if c = 0 then 1 else 29) + 4
  | 6 => (if c = 0 then 1 else 29) + 5
  | 7 => (if c = 0 then 1 else 29) + 6
  | 8 => (if c = 0 then 1 else 29) + 7
  | 9 => (if c = 0 then 1 else 29) + 8 + 2 * i.toNat
  | 10 => (if c = 0 then 1 else 29) + 9 + 2 * i.toNat
  | 11 => (if c = 0 then 1 else 29) + 18 + i.toNat
  | 12 => (if c = 0 then 1 else 29) + 22 + i.toNat
  | _ => 0
def w4 (cy : Nat → ClassId) (x b1 : Nat) (g1 : Nat → Nat) (b2 : Nat) (g2 : Nat → Nat) : va_W := ((x, .inr (4, [.ref b1, .ref b2])) :: coastW cy b1 g1) ++ coastW cy b2 g2
theorem at_tab {D : va_G} {a : Nat} {cT : ClassId} {H : Heap} (h : va_at D vwCl (a, .inl (cT, 10, .inl (fun _ => 0))) H) : va_at D vwCl (a, .inl (cT, 10, .inl (fun j => if j < 10 then i32 0 else 0))) H := by
  have e : (fun j : Nat => if j < 10 then i32 0 else 0) = fun _ => 0 := by funext j; split <;> rfl
  rw [e]
  exact h
set_option maxHeartbeats 2000000 in
theorem s0_at_0 {cy : Nat → ClassId} {D : va_G} {H : Heap} {x b1 : Nat} {g1 : Nat → Nat} {b2 : Nat} {g2 : Nat → Nat} (hP : va_P D vwCl (w4 cy x b1 g1 b2 g2) H) {c : Nat} {i : Int} (hd : dmb (adF x b1 g1 b2 g2) 0 c i = true) : va_at D vwCl (adF x b1 g1 b2 g2 0 c i, cel cy (adF x b1 g1 b2 g2) M00 0 c i) H := by
  have hk9 : (c = 0 ∧ i = 0) := by simp [dmb] at hd; omega
  obtain ⟨rfl, rfl⟩ := hk9
  exact hP 0 _ rfl
theorem s0_pos_0 {cy : Nat → ClassId} {x b1 : Nat} {g1 : Nat → Nat} {b2 : Nat} {g2 : Nat → Nat} {c : Nat} {i : Int} (hd : dmb (adF x b1 g1 b2 g2) 0 c i = true) : ∃ e9 : va_E, (w4 cy x b1 g1 b2 g2)[posF 0 c i]? = some (adF x b1 g1 b2 g2 0 c i, e9) := by
  have hk9 : (c = 0 ∧ i = 0) := by simp [dmb] at hd; omega
  obtain ⟨rfl, rfl⟩ := hk9
  exact ⟨_, rfl⟩
set_option maxHeartbeats 2000000 in
theorem s0_at_1 {cy : Nat → ClassId} {D : va_G} {H : Heap} {x b1 : Nat} {g1 : Nat → Nat} {b2 : Nat} {g2 : Nat → Nat} (hP : va_P D vwCl (w4 cy x b1 g1 b2 g2) H) {c : Nat} {i : Int} (hd : dmb (adF x b1 g1 b2 g2) 1 c i = true) : va_at D vwCl (adF x b1 g1 b2 g2 1 c i, cel cy (adF x b1 g1 b2 g2) M00 1 c i) H := by
  have hk9 : (c = 0 ∧ i = 0) ∨ (c = 1 ∧ i = 0) := by simp [dmb] at hd; omega
  rcases hk9 with ⟨rfl, rfl⟩ | ⟨rfl, rfl⟩
  · exact hP 1 _ rfl
  · exact hP 29 _ rfl
theorem s0_pos_1 {cy : Nat → ClassId} {x b1 : Nat} {g1 : Nat → Nat} {b2 : Nat} {g2 : Nat → Nat} {c : Nat} {i : Int} (hd : dmb (adF x b1 g1 b2 g2) 1 c i = true) : ∃ e9 : va_E, (w4 cy x b1 g1 b2 g2)[posF 1 c i]? = some (adF x b1 g1 b2 g2 1 c i, e9) := by
  have hk9 : (c = 0 ∧ i = 0) ∨ (c = 1 ∧ i = 0) := by simp [dmb] at hd; omega
  rcases hk9 with ⟨rfl, rfl⟩ | ⟨rfl, rfl⟩
  · exact ⟨_, rfl⟩
  · exact ⟨_, rfl⟩
set_option maxHeartbeats 2000000 in
theorem s0_at_2 {cy : Nat → ClassId} {D : va_G} {H : Heap} {x b1 : Nat} {g1 : Nat → Nat} {b2 : Nat} {g2 : Nat → Nat} (hP : va_P D vwCl (w4 cy x b1 g1 b2 g2) H) {c : Nat} {i : Int} (hd : dmb (adF x b1 g1 b2 g2) 2 c i = true) : va_at D vwCl (adF x b1 g1 b2 g2 2 c i, cel cy (adF x b1 g1 b2 g2) M00 2 c i) H := by
  have hk9 : (c = 0 ∧ i = 0) ∨ (c = 1 ∧ i = 0) := by simp [dmb] at hd; omega
  rcases hk9 with ⟨rfl, rfl⟩ | ⟨rfl, rfl⟩
  · exact hP 2 _ rfl
  · exact hP 30 _ rfl
theorem s0_pos_2 {cy : Nat → ClassId} {x b1 : Nat} {g1 : Nat → Nat} {b2 : Nat} {g2 : Nat → Nat} {c : Nat} {i : Int} (hd : dmb (adF x b1 g1 b2 g2) 2 c i = true) : ∃ e9 : va_E, (w4 cy x b1 g1 b2 g2)[posF 2 c i]? = some (adF x b1 g1 b2 g2 2 c i, e9) := by
  have hk9 : (c = 0 ∧ i = 0) ∨ (c = 1 ∧ i = 0) := by simp [dmb] at hd; omega
  rcases hk9 with ⟨rfl, rfl⟩ | ⟨rfl, rfl⟩
  · exact ⟨_, rfl⟩
  · exact ⟨_, rfl⟩
set_option maxHeartbeats 2000000 in
theorem s0_at_3 {cy : Nat → ClassId} {D : va_G} {H : Heap} {x b1 : Nat} {g1 : Nat → Nat} {b2 : Nat} {g2 : Nat → Nat} (hP : va_P D vwCl (w4 cy x b1 g1 b2 g2) H) {c : Nat} {i : Int} (hd : dmb (adF x b1 g1 b2 g2) 3 c i = true) : va_at D vwCl (adF x b1 g1 b2 g2 3 c i, cel cy (adF x b1 g1 b2 g2) M00 3 c i) H := by
  have hk9 : (c = 0 ∧ i = 0) ∨ (c = 1 ∧ i = 0) := by simp [dmb] at hd; omega
  rcases hk9 with ⟨rfl, rfl⟩ | ⟨rfl, rfl⟩
  · exact hP 3 _ rfl
  · exact hP 31 _ rfl
theorem s0_pos_3 {cy : Nat → ClassId} {x b1 : Nat} {g1 : Nat → Nat} {b2 : Nat} {g2 : Nat → Nat} {c : Nat} {i : Int} (hd : dmb (adF x b1 g1 b2 g2) 3 c i = true) : ∃ e9 : va_E, (w4 cy x b1 g1 b2 g2)[posF 3 c i]? = some (adF x b1 g1 b2 g2 3 c i, e9) := by
  have hk9 : (c = 0 ∧ i = 0) ∨ (c = 1 ∧ i = 0) := by simp [dmb] at hd; omega
  rcases hk9 with ⟨rfl, rfl⟩ | ⟨rfl, rfl⟩
  · exact ⟨_, rfl⟩
  · exact ⟨_, rfl⟩
set_option maxHeartbeats 2000000 in
theorem s0_at_4 {cy : Nat → ClassId} {D : va_G} {H : Heap} {x b1 : Nat} {g1 : Nat → Nat} {b2 : Nat} {g2 : Nat → Nat} (hP : va_P D vwCl (w4 cy x b1 g1 b2 g2) H) {c : Nat} {i : Int} (hd : dmb (adF x b1 g1 b2 g2) 4 c i = true) : va_at D vwCl (adF x b1 g1 b2 g2 4 c i, cel cy (adF x b1 g1 b2 g2) M00 4 c i) H := by
  have hk9 : (c = 0 ∧ i = 0) ∨ (c = 1 ∧ i = 0) := by simp [dmb] at hd; omega
  rcases hk9 with ⟨rfl, rfl⟩ | ⟨rfl, rfl⟩
  · exact hP 4 _ rfl
  · exact hP 32 _ rfl
theorem s0_pos_4 {cy : Nat → ClassId} {x b1 : Nat} {g1 : Nat → Nat} {b2 : Nat} {g2 : Nat → Nat} {c : Nat} {i : Int} (hd : dmb (adF x b1 g1 b2 g2) 4 c i = true) : ∃ e9 : va_E, (w4 cy x b1 g1 b2 g2)[posF 4 c i]? = some (adF x b1 g1 b2 g2 4 c i, e9) := by
  have hk9 : (c = 0 ∧ i = 0) ∨ (c = 1 ∧ i = 0) := by simp [dmb] at hd; omega
  rcases hk9 with ⟨rfl, rfl⟩ | ⟨rfl, rfl⟩
  · exact ⟨_, rfl⟩
  · exact ⟨_, rfl⟩
set_option maxHeartbeats 2000000 in
theorem s0_at_5 {cy : Nat → ClassId} {D : va_G} {H : Heap} {x b1 : Nat} {g1 : Nat → Nat} {b2 : Nat} {g2 : Nat → Nat} (hP : va_P D vwCl (w4 cy x b1 g1 b2 g2) H) {c : Nat} {i : Int} (hd : dmb (adF x b1 g1 b2 g2) 5 c i = true) : va_at D vwCl (adF x b1 g1 b2 g2 5 c i, cel cy (adF x b1 g1 b2 g2) M00 5 c i) H := by
  have hk9 : (c = 0 ∧ i = 0) ∨ (c = 1 ∧ i = 0) := by simp [dmb] at hd; omega
  rcases hk9 with ⟨rfl, rfl⟩ | ⟨rfl, rfl⟩
  · exact hP 5 _ rfl
  · exact hP 33 _ rfl
theorem s0_pos_5 {cy : Nat → ClassId} {x b1 : Nat} {g1 : Nat → Nat} {b2 : Nat} {g2 : Nat → Nat} {c : Nat} {i : Int} (hd : dmb (adF x b1 g1 b2 g2) 5 c i = true) : ∃ e9 : va_E, (w4 cy x b1 g1 b2 g2)[posF 5 c i]? = some (adF x b1 g1 b2 g2 5 c i, e9) := by
  have hk9 : (c = 0 ∧ i = 0) ∨ (c = 1 ∧ i = 0) := by simp [dmb] at hd; omega
  rcases hk9 with ⟨rfl, rfl⟩ | ⟨rfl, rfl⟩
  · exact ⟨_, rfl⟩
  · exact ⟨_, rfl⟩
set_option maxHeartbeats 2000000 in
theorem s0_at_6 {cy : Nat → ClassId} {D : va_G} {H : Heap} {x b1 : Nat} {g1 : Nat → Nat} {b2 : Nat} {g2 : Nat → Nat} (hP : va_P D vwCl (w4 cy x b1 g1 b2 g2) H) {c : Nat} {i : Int} (hd : dmb (adF x b1 g1 b2 g2) 6 c i = true) : va_at D vwCl (adF x b1 g1 b2 g2 6 c i, cel cy (adF x b1 g1 b2 g2) M00 6 c i) H := by
  have hk9 : (c = 0 ∧ i = 0) ∨ (c = 1 ∧ i = 0) := by simp [dmb] at hd; omega
  rcases hk9 with ⟨rfl, rfl⟩ | ⟨rfl, rfl⟩
  · exact hP 6 _ rfl
  · exact hP 34 _ rfl
theorem s0_pos_6 {cy : Nat → ClassId} {x b1 : Nat} {g1 : Nat → Nat} {b2 : Nat} {g2 : Nat → Nat} {c : Nat} {i : Int} (hd : dmb (adF x b1 g1 b2 g2) 6 c i = true) : ∃ e9 : va_E, (w4 cy x b1 g1 b2 g2)[posF 6 c i]? = some (adF x b1 g1 b2 g2 6 c i, e9) := by
  have hk9 : (c = 0 ∧ i = 0) ∨ (c = 1 ∧ i = 0) := by simp [dmb] at hd; omega
  rcases hk9 with ⟨rfl, rfl⟩ | ⟨rfl, rfl⟩
  · exact ⟨_, rfl⟩
  · exact ⟨_, rfl⟩
set_option maxHeartbeats 2000000 in
theorem s0_at_7 {cy : Nat → ClassId} {D : va_G} {H : Heap} {x b1 : Nat} {g1 : Nat → Nat} {b2 : Nat} {g2 : Nat → Nat} (hP : va_P D vwCl (w4 cy x b1 g1 b2 g2) H) {c : Nat} {i : Int} (hd : dmb (adF x b1 g1 b2 g2) 7 c i = true) : va_at D vwCl (adF x b1 g1 b2 g2 7 c i, cel cy (adF x b1 g1 b2 g2) M00 7 c i) H := by
  have hk9 : (c = 0 ∧ i = 0) ∨ (c = 1 ∧ i = 0) := by simp [dmb] at hd; omega
  rcases hk9 with ⟨rfl, rfl⟩ | ⟨rfl, rfl⟩
  · exact hP 7 _ rfl
  · exact hP 35 _ rfl
theorem s0_pos_7 {cy : Nat → ClassId} {x b1 : Nat} {g1 : Nat → Nat} {b2 : Nat} {g2 : Nat → Nat} {c : Nat} {i : Int} (hd : dmb (adF x b1 g1 b2 g2) 7 c i = true) : ∃ e9 : va_E, (w4 cy x b1 g1 b2 g2)[posF 7 c i]? = some (adF x b1 g1 b2 g2 7 c i, e9) := by
  have hk9 : (c = 0 ∧ i = 0) ∨ (c = 1 ∧ i = 0) := by simp [dmb] at hd; omega
  rcases hk9 with ⟨rfl, rfl⟩ | ⟨rfl, rfl⟩
  · exact ⟨_, rfl⟩
  · exact ⟨_, rfl⟩
set_option maxHeartbeats 2000000 in
theorem s0_at_8 {cy : Nat → ClassId} {D : va_G} {H : Heap} {x b1 : Nat} {g1 : Nat → Nat} {b2 : Nat} {g2 : Nat → Nat} (hP : va_P D vwCl (w4 cy x b1 g1 b2 g2) H) {c : Nat} {i : Int} (hd : dmb (adF x b1 g1 b2 g2) 8 c i = true) : va_at D vwCl (adF x b1 g1 b2 g2 8 c i, cel cy (adF x b1 g1 b2 g2) M00 8 c i) H := by
  have hk9 : (c = 0 ∧ i = 0) ∨ (c = 1 ∧ i = 0) := by simp [dmb] at hd; omega
  rcases hk9 with ⟨rfl, rfl⟩ | ⟨rfl, rfl⟩
  · exact hP 8 _ rfl
  · exact hP 36 _ rfl
theorem s0_pos_8 {cy : Nat → ClassId} {x b1 : Nat} {g1 : Nat → Nat} {b2 : Nat} {g2 : Nat → Nat} {c : Nat} {i : Int} (hd : dmb (adF x b1 g1 b2 g2) 8 c i = true) : ∃ e9 : va_E, (w4 cy x b1 g1 b2 g2)[posF 8 c i]? = some (adF x b1 g1 b2 g2 8 c i, e9) := by
  have hk9 : (c = 0 ∧ i = 0) ∨ (c = 1 ∧ i = 0) := by simp [dmb] at hd; omega
  rcases hk9 with ⟨rfl, rfl⟩ | ⟨rfl, rfl⟩
  · exact ⟨_, rfl⟩
  · exact ⟨_, rfl⟩
set_option maxHeartbeats 2000000 in
theorem s0_at_9 {cy : Nat → ClassId} {D : va_G} {H : Heap} {x b1 : Nat} {g1 : Nat → Nat} {b2 : Nat} {g2 : Nat → Nat} (hP : va_P D vwCl (w4 cy x b1 g1 b2 g2) H) {c : Nat} {i : Int} (hd : dmb (adF x b1 g1 b2 g2) 9 c i = true) : va_at D vwCl (adF x b1 g1 b2 g2 9 c i, cel cy (adF x b1 g1 b2 g2) M00 9 c i) H := by
  have hk9 : (c = 0 ∧ i = 0) ∨ (c = 0 ∧ i = 1) ∨ (c = 0 ∧ i = 2) ∨ (c = 0 ∧ i = 3) ∨ (c = 0 ∧ i = 4) ∨ (c = 1 ∧ i = 0) ∨ (c = 1 ∧ i = 1) ∨ (c = 1 ∧ i = 2) ∨ (c = 1 ∧ i = 3) ∨ (c = 1 ∧ i = 4) := by simp [dmb] at hd; omega
  rcases hk9 with ⟨rfl, rfl⟩ | ⟨rfl, rfl⟩ | ⟨rfl, rfl⟩ | ⟨rfl, rfl⟩ | ⟨rfl, rfl⟩ | ⟨rfl, rfl⟩ | ⟨rfl, rfl⟩ | ⟨rfl, rfl⟩ | ⟨rfl, rfl⟩ | ⟨rfl, rfl⟩
  · exact hP 9 _ rfl
  · exact hP 11 _ rfl
  · exact hP 13 _ rfl
  · exact hP 15 _ rfl
  · exact hP 17 _ rfl
  · exact hP 37 _ rfl
  · exact hP 39 _ rfl
  · exact hP 41 _ rfl
  · exact hP 43 _ rfl
  · exact hP 45 _ rfl
theorem s0_pos_9 {cy : Nat → ClassId} {x b1 : Nat} {g1 : Nat → Nat} {b2 : Nat} {g2 : Nat → Nat} {c : Nat} {i : Int} (hd : dmb (adF x b1 g1 b2 g2) 9 c i = true) : ∃ e9 : va_E, (w4 cy x b1 g1 b2 g2)[posF 9 c i]? = some (adF x b1 g1 b2 g2 9 c i, e9) := by
  have hk9 : (c = 0 ∧ i = 0) ∨ (c = 0 ∧ i = 1) ∨ (c = 0 ∧ i = 2) ∨ (c = 0 ∧ i = 3) ∨ (c = 0 ∧ i = 4) ∨ (c = 1 ∧ i = 0) ∨ (c = 1 ∧ i = 1) ∨ (c = 1 ∧ i = 2) ∨ (c = 1 ∧ i = 3) ∨ (c = 1 ∧ i = 4) := by simp [dmb] at hd; omega
  rcases hk9 with ⟨rfl, rfl⟩ | ⟨rfl, rfl⟩ | ⟨rfl, rfl⟩ | ⟨rfl, rfl⟩ | ⟨rfl, rfl⟩ | ⟨rfl, rfl⟩ | ⟨rfl, rfl⟩ | ⟨rfl, rfl⟩ | ⟨rfl, rfl⟩ | ⟨rfl, rfl⟩
  · exact ⟨_, rfl⟩
  · exact ⟨_, rfl⟩
  · exact ⟨_, rfl⟩
  · exact ⟨_, rfl⟩
  · exact ⟨_, rfl⟩
  · exact ⟨_, rfl⟩
  · exact ⟨_, rfl⟩
  · exact ⟨_, rfl⟩
  · exact ⟨_, rfl⟩
  · exact ⟨_, rfl⟩
set_option maxHeartbeats 2000000 in
theorem s0_at_10 {cy : Nat → ClassId} {D : va_G} {H : Heap} {x b1 : Nat} {g1 : Nat → Nat} {b2 : Nat} {g2 : Nat → Nat} (hP : va_P D vwCl (w4 cy x b1 g1 b2 g2) H) {c : Nat} {i : Int} (hd : dmb (adF x b1 g1 b2 g2) 10 c i = true) : va_at D vwCl (adF x b1 g1 b2 g2 10 c i, cel cy (adF x b1 g1 b2 g2) M00 10 c i) H := by
  have hk9 : (c = 0 ∧ i = 0) ∨ (c = 0 ∧ i = 1) ∨ (c = 0 ∧ i = 2) ∨ (c = 0 ∧ i = 3) ∨ (c = 0 ∧ i = 4) ∨ (c = 1 ∧ i = 0) ∨ (c = 1 ∧ i = 1) ∨ (c = 1 ∧ i = 2) ∨ (c = 1 ∧ i = 3) ∨ (c = 1 ∧ i = 4) := by simp [dmb] at hd; omega
  rcases hk9 with ⟨rfl, rfl⟩ | ⟨rfl, rfl⟩ | ⟨rfl, rfl⟩ | ⟨rfl, rfl⟩ | ⟨rfl, rfl⟩ | ⟨rfl, rfl⟩ | ⟨rfl, rfl⟩ | ⟨rfl, rfl⟩ | ⟨rfl, rfl⟩ | ⟨rfl, rfl⟩
  · exact at_tab (hP 10 _ rfl)
  · exact at_tab (hP 12 _ rfl)
  · exact at_tab (hP 14 _ rfl)
  · exact at_tab (hP 16 _ rfl)
  · exact at_tab (hP 18 _ rfl)
  · exact at_tab (hP 38 _ rfl)
  · exact at_tab (hP 40 _ rfl)
  · exact at_tab (hP 42 _ rfl)
  · exact at_tab (hP 44 _ rfl)
  · exact at_tab (hP 46 _ rfl)
theorem s0_pos_10 {cy : Nat → ClassId} {x b1 : Nat} {g1 : Nat → Nat} {b2 : Nat} {g2 : Nat → Nat} {c : Nat} {i : Int} (hd : dmb (adF x b1 g1 b2 g2) 10 c i = true) : ∃ e9 : va_E, (w4 cy x b1 g1 b2 g2)[posF 10 c i]? = some (adF x b1 g1 b2 g2 10 c i, e9) := by
  have hk9 : (c = 0 ∧ i = 0) ∨ (c = 0 ∧ i = 1) ∨ (c = 0 ∧ i = 2) ∨ (c = 0 ∧ i = 3) ∨ (c = 0 ∧ i = 4) ∨ (c = 1 ∧ i = 0) ∨ (c = 1 ∧ i = 1) ∨ (c = 1 ∧ i = 2) ∨ (c = 1 ∧ i = 3) ∨ (c = 1 ∧ i = 4) := by simp [dmb] at hd; omega
  rcases hk9 with ⟨rfl, rfl⟩ | ⟨rfl, rfl⟩ | ⟨rfl, rfl⟩ | ⟨rfl, rfl⟩ | ⟨rfl, rfl⟩ | ⟨rfl, rfl⟩ | ⟨rfl, rfl⟩ | ⟨rfl, rfl⟩ | ⟨rfl, rfl⟩ | ⟨rfl, rfl⟩
  · exact ⟨_, rfl⟩
  · exact ⟨_, rfl⟩
  · exact ⟨_, rfl⟩
  · exact ⟨_, rfl⟩
  · exact ⟨_, rfl⟩
  · exact ⟨_, rfl⟩
  · exact ⟨_, rfl⟩
  · exact ⟨_, rfl⟩
  · exact ⟨_, rfl⟩
  · exact ⟨_, rfl⟩
set_option maxHeartbeats 2000000 in
theorem s0_at_11 {cy : Nat → ClassId} {D : va_G} {H : Heap} {x b1 : Nat} {g1 : Nat → Nat} {b2 : Nat} {g2 : Nat → Nat} (hP : va_P D vwCl (w4 cy x b1 g1 b2 g2) H) {c : Nat} {i : Int} (hd : dmb (adF x b1 g1 b2 g2) 11 c i = true) : va_at D vwCl (adF x b1 g1 b2 g2 11 c i, cel cy (adF x b1 g1 b2 g2) M00 11 c i) H := by
  have hk9 : (c = 0 ∧ i = 0) ∨ (c = 0 ∧ i = 1) ∨ (c = 0 ∧ i = 2) ∨ (c = 0 ∧ i = 3) ∨ (c = 1 ∧ i = 0) ∨ (c = 1 ∧ i = 1) ∨ (c = 1 ∧ i = 2) ∨ (c = 1 ∧ i = 3) := by simp [dmb] at hd; omega
  rcases hk9 with ⟨rfl, rfl⟩ | ⟨rfl, rfl⟩ | ⟨rfl, rfl⟩ | ⟨rfl, rfl⟩ | ⟨rfl, rfl⟩ | ⟨rfl, rfl⟩ | ⟨rfl, rfl⟩ | ⟨rfl, rfl⟩
  · exact hP 19 _ rfl
  · exact hP 20 _ rfl
  · exact hP 21 _ rfl
  · exact hP 22 _ rfl
  · exact hP 47 _ rfl
  · exact hP 48 _ rfl
  · exact hP 49 _ rfl
  · exact hP 50 _ rfl
theorem s0_pos_11 {cy : Nat → ClassId} {x b1 : Nat} {g1 : Nat → Nat} {b2 : Nat} {g2 : Nat → Nat} {c : Nat} {i : Int} (hd : dmb (adF x b1 g1 b2 g2) 11 c i = true) : ∃ e9 : va_E, (w4 cy x b1 g1 b2 g2)[posF 11 c i]? = some (adF x b1 g1 b2 g2 11 c i, e9) := by
  have hk9 : (c = 0 ∧ i = 0) ∨ (c = 0 ∧ i = 1) ∨ (c = 0 ∧ i = 2) ∨ (c = 0 ∧ i = 3) ∨ (c = 1 ∧ i = 0) ∨ (c = 1 ∧ i = 1) ∨ (c = 1 ∧ i = 2) ∨ (c = 1 ∧ i = 3) := by simp [dmb] at hd; omega
  rcases hk9 with ⟨rfl, rfl⟩ | ⟨rfl, rfl⟩ | ⟨rfl, rfl⟩ | ⟨rfl, rfl⟩ | ⟨rfl, rfl⟩ | ⟨rfl, rfl⟩ | ⟨rfl, rfl⟩ | ⟨rfl, rfl⟩
  · exact ⟨_, rfl⟩
  · exact ⟨_, rfl⟩
  · exact ⟨_, rfl⟩
  · exact ⟨_, rfl⟩
  · exact ⟨_, rfl⟩
  · exact ⟨_, rfl⟩
  · exact ⟨_, rfl⟩
  · exact ⟨_, rfl⟩
set_option maxHeartbeats 2000000 in
theorem s0_at_12 {cy : Nat → ClassId} {D : va_G} {H : Heap} {x b1 : Nat} {g1 : Nat → Nat} {b2 : Nat} {g2 : Nat → Nat} (hP : va_P D vwCl (w4 cy x b1 g1 b2 g2) H) {c : Nat} {i : Int} (hd : dmb (adF x b1 g1 b2 g2) 12 c i = true) : va_at D vwCl (adF x b1 g1 b2 g2 12 c i, cel cy (adF x b1 g1 b2 g2) M00 12 c i) H := by
  have hk9 : (c = 0 ∧ i = 0) ∨ (c = 0 ∧ i = 1) ∨ (c = 0 ∧ i = 2) ∨ (c = 0 ∧ i = 3) ∨ (c = 0 ∧ i = 4) ∨ (c = 0 ∧ i = 5) ∨ (c = 1 ∧ i = 0) ∨ (c = 1 ∧ i = 1) ∨ (c = 1 ∧ i = 2) ∨ (c = 1 ∧ i = 3) ∨ (c = 1 ∧ i = 4) ∨ (c = 1 ∧ i = 5) := by simp [dmb] at hd; omega
  rcases hk9 with ⟨rfl, rfl⟩ | ⟨rfl, rfl⟩ | ⟨rfl, rfl⟩ | ⟨rfl, rfl⟩ | ⟨rfl, rfl⟩ | ⟨rfl, rfl⟩ | ⟨rfl, rfl⟩ | ⟨rfl, rfl⟩ | ⟨rfl, rfl⟩ | ⟨rfl, rfl⟩ | ⟨rfl, rfl⟩ | ⟨rfl, rfl⟩
  · exact hP 23 _ rfl
  · exact hP 24 _ rfl
  · exact hP 25 _ rfl
  · exact hP 26 _ rfl
  · exact hP 27 _ rfl
  · exact hP 28 _ rfl
  · exact hP 51 _ rfl
  · exact hP 52 _ rfl
  · exact hP 53 _ rfl
  · exact hP 54 _ rfl
  · exact hP 55 _ rfl
  · exact hP 56 _ rfl
theorem s0_pos_12 {cy : Nat → ClassId} {x b1 : Nat} {g1 : Nat → Nat} {b2 : Nat} {g2 : Nat → Nat} {c : Nat} {i : Int} (hd : dmb (adF x b1 g1 b2 g2) 12 c i = true) : ∃ e9 : va_E, (w4 cy x b1 g1 b2 g2)[posF 12 c i]? = some (adF x b1 g1 b2 g2 12 c i, e9) := by
  have hk9 : (c = 0 ∧ i = 0) ∨ (c = 0 ∧ i = 1) ∨ (c = 0 ∧ i = 2) ∨ (c = 0 ∧ i = 3) ∨ (c = 0 ∧ i = 4) ∨ (c = 0 ∧ i = 5) ∨ (c = 1 ∧ i = 0) ∨ (c = 1 ∧ i = 1) ∨ (c = 1 ∧ i = 2) ∨ (c = 1 ∧ i = 3) ∨ (c = 1 ∧ i = 4) ∨ (c = 1 ∧ i = 5) := by simp [dmb] at hd; omega
  rcases hk9 with ⟨rfl, rfl⟩ | ⟨rfl, rfl⟩ | ⟨rfl, rfl⟩ | ⟨rfl, rfl⟩ | ⟨rfl, rfl⟩ | ⟨rfl, rfl⟩ | ⟨rfl, rfl⟩ | ⟨rfl, rfl⟩ | ⟨rfl, rfl⟩ | ⟨rfl, rfl⟩ | ⟨rfl, rfl⟩ | ⟨rfl, rfl⟩
  · exact ⟨_, rfl⟩
  · exact ⟨_, rfl⟩
  · exact ⟨_, rfl⟩
  · exact ⟨_, rfl⟩
  · exact ⟨_, rfl⟩
  · exact ⟨_, rfl⟩
  · exact ⟨_, rfl⟩
  · exact ⟨_, rfl⟩
  · exact ⟨_, rfl⟩
  · exact ⟨_, rfl⟩
  · exact ⟨_, rfl⟩
  · exact ⟨_, rfl⟩
theorem adF_t {x b1 : Nat} {g1 : Nat → Nat} {b2 : Nat} {g2 : Nat → Nat} {t c : Nat} {i : Int} (hd : dmb (adF x b1 g1 b2 g2) t c i = true) : t < 13 := by
  have ht := (dm_bd hd).1
  by_cases h : t < 13
  · exact h
  · exfalso
    have hq : t = 13 ∨ t = 14 ∨ t = 15 ∨ t = 16 ∨ t = 17 ∨ t = 18 ∨ t = 19 ∨ t = 20 ∨ t = 21 ∨ t = 22 ∨ t = 23 ∨ t = 24 ∨ t = 25 ∨ t = 26 ∨ t = 27 ∨ t = 28 ∨ t = 29 ∨ t = 30 ∨ t = 31 ∨ t = 32 := by omega
    rcases hq with rfl | rfl | rfl | rfl | rfl | rfl | rfl | rfl | rfl | rfl | rfl | rfl | rfl | rfl | rfl | rfl | rfl | rfl | rfl | rfl <;> (simp [dmb, adF] at hd)
theorem s0_at {cy : Nat → ClassId} {D : va_G} {H : Heap} {x b1 : Nat} {g1 : Nat → Nat} {b2 : Nat} {g2 : Nat → Nat} (hP : va_P D vwCl (w4 cy x b1 g1 b2 g2) H) {t c : Nat} {i : Int} (hd : dmb (adF x b1 g1 b2 g2) t c i = true) : va_at D vwCl (adF x b1 g1 b2 g2 t c i, cel cy (adF x b1 g1 b2 g2) M00 t c i) H := by
  have ht := adF_t hd
  have hq : t = 0 ∨ t = 1 ∨ t = 2 ∨ t = 3 ∨ t = 4 ∨ t = 5 ∨ t = 6 ∨ t = 7 ∨ t = 8 ∨ t = 9 ∨ t = 10 ∨ t = 11 ∨ t = 12 := by omega
  rcases hq with rfl | rfl | rfl | rfl | rfl | rfl | rfl | rfl | rfl | rfl | rfl | rfl | rfl
  · exact s0_at_0 hP hd
  · exact s0_at_1 hP hd
  · exact s0_at_2 hP hd
  · exact s0_at_3 hP hd
  · exact s0_at_4 hP hd
  · exact s0_at_5 hP hd
  · exact s0_at_6 hP hd
  · exact s0_at_7 hP hd
  · exact s0_at_8 hP hd
  · exact s0_at_9 hP hd
  · exact s0_at_10 hP hd
  · exact s0_at_11 hP hd
  · exact s0_at_12 hP hd
theorem s0_pos {cy : Nat → ClassId} {x b1 : Nat} {g1 : Nat → Nat} {b2 : Nat} {g2 : Nat → Nat} {t c : Nat} {i : Int} (hd : dmb (adF x b1 g1 b2 g2) t c i = true) : ∃ e9 : va_E, (w4 cy x b1 g1 b2 g2)[posF t c i]? = some (adF x b1 g1 b2 g2 t c i, e9) := by
  have ht := adF_t hd
  have hq : t = 0 ∨ t = 1 ∨ t = 2 ∨ t = 3 ∨ t = 4 ∨ t = 5 ∨ t = 6 ∨ t = 7 ∨ t = 8 ∨ t = 9 ∨ t = 10 ∨ t = 11 ∨ t = 12 := by omega
  rcases hq with rfl | rfl | rfl | rfl | rfl | rfl | rfl | rfl | rfl | rfl | rfl | rfl | rfl
  · exact s0_pos_0 hd
  · exact s0_pos_1 hd
  · exact s0_pos_2 hd
  · exact s0_pos_3 hd
  · exact s0_pos_4 hd
  · exact s0_pos_5 hd
  · exact s0_pos_6 hd
  · exact s0_pos_7 hd
  · exact s0_pos_8 hd
  · exact s0_pos_9 hd
  · exact s0_pos_10 hd
  · exact s0_pos_11 hd
  · exact s0_pos_12 hd
theorem s0_world {cy : Nat → ClassId} {D : va_G} {H : Heap} {x b1 : Nat} {g1 : Nat → Nat} {b2 : Nat} {g2 : Nat → Nat} (hP : va_P D vwCl (w4 cy x b1 g1 b2 g2) H) : va_P D vwCl (wsOf cy (adF x b1 g1 b2 g2) M00) H := ws_of fun t c i hd => s0_at hP hd
def keysC : List (Nat × Nat × Int) := keysI.filter fun k => decide (k.1 < 13)
theorem pos_nd : (keysC.map fun k => posF k.1 k.2.1 k.2.2).Nodup := by decide +kernel
theorem pos_inj {x b1 : Nat} {g1 : Nat → Nat} {b2 : Nat} {g2 : Nat → Nat} {t c t1 c1 : Nat} {i i1 : Int} (h : dmb (adF x b1 g1 b2 g2) t c i = true) (h1 : dmb (adF x b1 g1 b2 g2) t1 c1 i1 = true) (he : posF t c i = posF t1 c1 i1) : (t, c, i) = (t1, c1, i1) := by
  obtain ⟨k, hk⟩ := List.getElem?_of_mem (show (t, c, i) ∈ keysC from List.mem_filter.mpr ⟨(List.mem_filter.mp (mem_keys h)).1, decide_eq_true (adF_t h)⟩)
  obtain ⟨k1, hk1⟩ := List.getElem?_of_mem (show (t1, c1, i1) ∈ keysC from List.mem_filter.mpr ⟨(List.mem_filter.mp (mem_keys h1)).1, decide_eq_true (adF_t h1)⟩)
  have e1 : (keysC.map fun k => posF k.1 k.2.1 k.2.2)[k]? = some (posF t c i) := by rw [List.getElem?_map, hk]; rfl
  have e2 : (keysC.map fun k => posF k.1 k.2.1 k.2.2)[k1]? = some (posF t c i) := by rw [List.getElem?_map, hk1, he]; rfl
  have e3 := nd_inj pos_nd e1 e2
  subst e3
  exact Option.some.inj (hk.symm.trans hk1)
theorem s0_inj {cy : Nat → ClassId} {A : Nat → Prop} {x b1 : Nat} {g1 : Nat → Nat} {b2 : Nat} {g2 : Nat → Nat} (hD : va_D A (w4 cy x b1 g1 b2 g2)) : Inj (adF x b1 g1 b2 g2) ∧ ∀ (t c : Nat) (i : Int), dmb (adF x b1 g1 b2 g2) t c i = true → A (adF x b1 g1 b2 g2 t c i) := by
  refine ⟨fun t c i t1 c1 i1 z1 z2 he => ?_, fun t c i h => ?_⟩
  · obtain ⟨e8, q1⟩ := s0_pos (cy := cy) (x := x) (b1 := b1) (g1 := g1) (b2 := b2) (g2 := g2) z1
    obtain ⟨e9, q2⟩ := s0_pos (cy := cy) (x := x) (b1 := b1) (g1 := g1) (b2 := b2) (g2 := g2) z2
    exact pos_inj z1 z2 (hD.1 _ _ _ _ q1 q2 he)
  · obtain ⟨e9, q1⟩ := s0_pos (cy := cy) (x := x) (b1 := b1) (g1 := g1) (b2 := b2) (g2 := g2) h
    exact hD.2 _ _ q1
theorem s0_cl {x b1 : Nat} {g1 : Nat → Nat} {b2 : Nat} {g2 : Nat → Nat} : Cl (adF x b1 g1 b2 g2) := fun t a b => by
  show (0 : Nat) ≠ 1
  decide
