/-! The world at the loop's first head. -/
def S0 : St := fun k i => if k = 2 then (if i < 8 then -1 else 0) else 0
def M00 : Mem := fun _ => S0
def adF (x b1 : Nat) (g1 : Nat → Nat) (b2 : Nat) (g2 : Nat → Nat) (mo a1 : Nat) (h1 : Nat → Nat) (a2 : Nat) (h2 : Nat → Nat) (ou : Nat) : Nat → Nat → Int → Nat := fun t c i => match t with
  | 0 => x
  | 1 => if c = 0 then b1 else b2
  | 2 => (if c = 0 then g1 else g2) 0
  | 3 => (if c = 0 then g1 else g2) 1
  | 4 => (if c = 0 then g1 else g2) 2
  | 5 => (if c = 0 then g1 else g2) 3
  | 6 => (if c = 0 then g1 else g2) 4
  | 7 => (if c = 0 then g1 else g2) 5
  | 8 => (if c = 0 then g1 else g2) 6
  | 9 => (if c = 0 then g1 else g2) (7 + 2 * i.toNat)
  | 10 => (if c = 0 then g1 else g2) (8 + 2 * i.toNat)
  | 11 => (if c = 0 then g1 else g2) (17 + i.toNat)
  | 12 => (if c = 0 then g1 else g2) (21 + i.toNat)
  | 13 => mo
  | 14 => if c = 2 then a1 else a2
  | 15 => (if c = 2 then h1 else h2) 0
  | 16 => (if c = 2 then h1 else h2) 1
  | 17 => (if c = 2 then h1 else h2) 2
  | 18 => (if c = 2 then h1 else h2) 3
  | 19 => (if c = 2 then h1 else h2) 4
  | 20 => (if c = 2 then h1 else h2) 5
  | 21 => (if c = 2 then h1 else h2) 6
  | 22 => (if c = 2 then h1 else h2) 7
  | 23 => (if c = 2 then h1 else h2) 8
  | 24 => (if c = 2 then h1 else h2) 9
  | 25 => (if c = 2 then h1 else h2) 10
  | 26 => (if c = 2 then h1 else h2) 11
  | 27 => (if c = 2 then h1 else h2) 12
  | 28 => (if c = 2 then h1 else h2) 13
  | 29 => (if c = 2 then h1 else h2) 14
  | 30 => (if c = 2 then h1 else h2) 15
  | 31 => (if c = 2 then h1 else h2) 16
  | 32 => (if c = 2 then h1 else h2) 17
  | 33 => (if c = 2 then h1 else h2) 18
  | 34 => (if c = 2 then h1 else h2) 19
  | _ => ou
def posF (t c : Nat) (i : Int) : Nat := match t with
  | 0 => 0
  | 1 => if c = 0 then 1 else 29
  | 2 => (if c = 0 then 1 else 29) + 1
  | 3 => (if c = 0 then 1 else 29) + 2
  | 4 => (if c = 0 then 1 else 29) + 3
  | 5 => (if c = 0 then 1 else 29) + 4
  | 6 => (if c = 0 then 1 else 29) + 5
  | 7 => (if c = 0 then 1 else 29) + 6
  | 8 => (if c = 0 then 1 else 29) + 7
  | 9 => (if c = 0 then 1 else 29) + 8 + 2 * i.toNat
  | 10 => (if c = 0 then 1 else 29) + 9 + 2 * i.toNat
  | 11 => (if c = 0 then 1 else 29) + 18 + i.toNat
  | 12 => (if c = 0 then 1 else 29) + 22 + i.toNat
  | 13 => 57
  | 14 => if c = 2 then 58 else 79
  | 15 => (if c = 2 then 59 else 80) + 0
  | 16 => (if c = 2 then 59 else 80) + 1
  | 17 => (if c = 2 then 59 else 80) + 2
  | 18 => (if c = 2 then 59 else 80) + 3
  | 19 => (if c = 2 then 59 else 80) + 4
  | 20 => (if c = 2 then 59 else 80) + 5
  | 21 => (if c = 2 then 59 else 80) + 6
  | 22 => (if c = 2 then 59 else 80) + 7
  | 23 => (if c = 2 then 59 else 80) + 8
  | 24 => (if c = 2 then 59 else 80) + 9
  | 25 => (if c = 2 then 59 else 80) + 10
  | 26 => (if c = 2 then 59 else 80) + 11
  | 27 => (if c = 2 then 59 else 80) + 12
  | 28 => (if c = 2 then 59 else 80) + 13
  | 29 => (if c = 2 then 59 else 80) + 14
  | 30 => (if c = 2 then 59 else 80) + 15
  | 31 => (if c = 2 then 59 else 80) + 16
  | 32 => (if c = 2 then 59 else 80) + 17
  | 33 => (if c = 2 then 59 else 80) + 18
  | 34 => (if c = 2 then 59 else 80) + 19
  | _ => 100
def w4 (cy : Nat → ClassId) (x b1 : Nat) (g1 : Nat → Nat) (b2 : Nat) (g2 : Nat → Nat) : va_W := ((x, .inr (4, [.ref b1, .ref b2])) :: coastW cy b1 g1) ++ coastW cy b2 g2
def w6 (cy : Nat → ClassId) (mo a1 : Nat) (h1 : Nat → Nat) (a2 : Nat) (h2 : Nat → Nat) : va_W := ((mo, .inr (6, [.int 0, .ref a1, .ref a2])) :: stateW cy a1 h1) ++ stateW cy a2 h2
def wAll (cy : Nat → ClassId) (x b1 : Nat) (g1 : Nat → Nat) (b2 : Nat) (g2 : Nat → Nat) (mo a1 : Nat) (h1 : Nat → Nat) (a2 : Nat) (h2 : Nat → Nat) (ou : Nat) : va_W := (w4 cy x b1 g1 b2 g2 ++ w6 cy mo a1 h1 a2 h2) ++ [(ou, .inl (cy 1, 1, .inr (.inl (fun _ => 0))))]
theorem at_tab {D : va_G} {a : Nat} {cT : ClassId} {H : Heap} (h : va_at D vwCl (a, .inl (cT, 10, .inl (fun _ => 0))) H) : va_at D vwCl (a, .inl (cT, 10, .inl (fun j => if j < 10 then i32 0 else 0))) H := by
  have e : (fun j : Nat => if j < 10 then i32 0 else 0) = fun _ => 0 := by funext j; split <;> rfl
  rw [e]
  exact h
theorem at_out {D : va_G} {a : Nat} {cT : ClassId} {H : Heap} (h : va_at D vwCl (a, .inl (cT, 1, .inr (.inl (fun _ => 0)))) H) : va_at D vwCl (a, .inl (cT, 1, .inr (.inl (fun _ => (i32 0).toInt64)))) H := by
  have e : (fun _ : Nat => (i32 0).toInt64) = fun _ => 0 := by funext j; decide
  rw [e]
  exact h
set_option maxHeartbeats 2000000 in
theorem s0_at_0 {cy : Nat → ClassId} {D : va_G} {H : Heap} {x b1 : Nat} {g1 : Nat → Nat} {b2 : Nat} {g2 : Nat → Nat} {mo a1 : Nat} {h1 : Nat → Nat} {a2 : Nat} {h2 : Nat → Nat} {ou : Nat} (hP : va_P D vwCl (wAll cy x b1 g1 b2 g2 mo a1 h1 a2 h2 ou) H) {c : Nat} {i : Int} (hd : dmb 0 c i = true) : va_at D vwCl (adF x b1 g1 b2 g2 mo a1 h1 a2 h2 ou 0 c i, cel cy (adF x b1 g1 b2 g2 mo a1 h1 a2 h2 ou) M00 0 c i) H := by
  have hk9 : (c = 0 ∧ i = 0) := by simp [dmb] at hd; omega
  obtain ⟨rfl, rfl⟩ := hk9
  exact hP 0 _ rfl
theorem s0_pos_0 {cy : Nat → ClassId} {x b1 : Nat} {g1 : Nat → Nat} {b2 : Nat} {g2 : Nat → Nat} {mo a1 : Nat} {h1 : Nat → Nat} {a2 : Nat} {h2 : Nat → Nat} {ou : Nat} {c : Nat} {i : Int} (hd : dmb 0 c i = true) : ∃ e9 : va_E, (wAll cy x b1 g1 b2 g2 mo a1 h1 a2 h2 ou)[posF 0 c i]? = some (adF x b1 g1 b2 g2 mo a1 h1 a2 h2 ou 0 c i, e9) := by
  have hk9 : (c = 0 ∧ i = 0) := by simp [dmb] at hd; omega
  obtain ⟨rfl, rfl⟩ := hk9
  exact ⟨_, rfl⟩
set_option maxHeartbeats 2000000 in
theorem s0_at_1 {cy : Nat → ClassId} {D : va_G} {H : Heap} {x b1 : Nat} {g1 : Nat → Nat} {b2 : Nat} {g2 : Nat → Nat} {mo a1 : Nat} {h1 : Nat → Nat} {a2 : Nat} {h2 : Nat → Nat} {ou : Nat} (hP : va_P D vwCl (wAll cy x b1 g1 b2 g2 mo a1 h1 a2 h2 ou) H) {c : Nat} {i : Int} (hd : dmb 1 c i = true) : va_at D vwCl (adF x b1 g1 b2 g2 mo a1 h1 a2 h2 ou 1 c i, cel cy (adF x b1 g1 b2 g2 mo a1 h1 a2 h2 ou) M00 1 c i) H := by
  have hk9 : (c = 0 ∧ i = 0) ∨ (c = 1 ∧ i = 0) := by simp [dmb] at hd; omega
  rcases hk9 with ⟨rfl, rfl⟩ | ⟨rfl, rfl⟩
  · exact hP 1 _ rfl
  · exact hP 29 _ rfl
theorem s0_pos_1 {cy : Nat → ClassId} {x b1 : Nat} {g1 : Nat → Nat} {b2 : Nat} {g2 : Nat → Nat} {mo a1 : Nat} {h1 : Nat → Nat} {a2 : Nat} {h2 : Nat → Nat} {ou : Nat} {c : Nat} {i : Int} (hd : dmb 1 c i = true) : ∃ e9 : va_E, (wAll cy x b1 g1 b2 g2 mo a1 h1 a2 h2 ou)[posF 1 c i]? = some (adF x b1 g1 b2 g2 mo a1 h1 a2 h2 ou 1 c i, e9) := by
  have hk9 : (c = 0 ∧ i = 0) ∨ (c = 1 ∧ i = 0) := by simp [dmb] at hd; omega
  rcases hk9 with ⟨rfl, rfl⟩ | ⟨rfl, rfl⟩
  · exact ⟨_, rfl⟩
  · exact ⟨_, rfl⟩
set_option maxHeartbeats 2000000 in
theorem s0_at_2 {cy : Nat → ClassId} {D : va_G} {H : Heap} {x b1 : Nat} {g1 : Nat → Nat} {b2 : Nat} {g2 : Nat → Nat} {mo a1 : Nat} {h1 : Nat → Nat} {a2 : Nat} {h2 : Nat → Nat} {ou : Nat} (hP : va_P D vwCl (wAll cy x b1 g1 b2 g2 mo a1 h1 a2 h2 ou) H) {c : Nat} {i : Int} (hd : dmb 2 c i = true) : va_at D vwCl (adF x b1 g1 b2 g2 mo a1 h1 a2 h2 ou 2 c i, cel cy (adF x b1 g1 b2 g2 mo a1 h1 a2 h2 ou) M00 2 c i) H := by
  have hk9 : (c = 0 ∧ i = 0) ∨ (c = 1 ∧ i = 0) := by simp [dmb] at hd; omega
  rcases hk9 with ⟨rfl, rfl⟩ | ⟨rfl, rfl⟩
  · exact hP 2 _ rfl
  · exact hP 30 _ rfl
theorem s0_pos_2 {cy : Nat → ClassId} {x b1 : Nat} {g1 : Nat → Nat} {b2 : Nat} {g2 : Nat → Nat} {mo a1 : Nat} {h1 : Nat → Nat} {a2 : Nat} {h2 : Nat → Nat} {ou : Nat} {c : Nat} {i : Int} (hd : dmb 2 c i = true) : ∃ e9 : va_E, (wAll cy x b1 g1 b2 g2 mo a1 h1 a2 h2 ou)[posF 2 c i]? = some (adF x b1 g1 b2 g2 mo a1 h1 a2 h2 ou 2 c i, e9) := by
  have hk9 : (c = 0 ∧ i = 0) ∨ (c = 1 ∧ i = 0) := by simp [dmb] at hd; omega
  rcases hk9 with ⟨rfl, rfl⟩ | ⟨rfl, rfl⟩
  · exact ⟨_, rfl⟩
  · exact ⟨_, rfl⟩
set_option maxHeartbeats 2000000 in
theorem s0_at_3 {cy : Nat → ClassId} {D : va_G} {H : Heap} {x b1 : Nat} {g1 : Nat → Nat} {b2 : Nat} {g2 : Nat → Nat} {mo a1 : Nat} {h1 : Nat → Nat} {a2 : Nat} {h2 : Nat → Nat} {ou : Nat} (hP : va_P D vwCl (wAll cy x b1 g1 b2 g2 mo a1 h1 a2 h2 ou) H) {c : Nat} {i : Int} (hd : dmb 3 c i = true) : va_at D vwCl (adF x b1 g1 b2 g2 mo a1 h1 a2 h2 ou 3 c i, cel cy (adF x b1 g1 b2 g2 mo a1 h1 a2 h2 ou) M00 3 c i) H := by
  have hk9 : (c = 0 ∧ i = 0) ∨ (c = 1 ∧ i = 0) := by simp [dmb] at hd; omega
  rcases hk9 with ⟨rfl, rfl⟩ | ⟨rfl, rfl⟩
  · exact hP 3 _ rfl
  · exact hP 31 _ rfl
theorem s0_pos_3 {cy : Nat → ClassId} {x b1 : Nat} {g1 : Nat → Nat} {b2 : Nat} {g2 : Nat → Nat} {mo a1 : Nat} {h1 : Nat → Nat} {a2 : Nat} {h2 : Nat → Nat} {ou : Nat} {c : Nat} {i : Int} (hd : dmb 3 c i = true) : ∃ e9 : va_E, (wAll cy x b1 g1 b2 g2 mo a1 h1 a2 h2 ou)[posF 3 c i]? = some (adF x b1 g1 b2 g2 mo a1 h1 a2 h2 ou 3 c i, e9) := by
  have hk9 : (c = 0 ∧ i = 0) ∨ (c = 1 ∧ i = 0) := by simp [dmb] at hd; omega
  rcases hk9 with ⟨rfl, rfl⟩ | ⟨rfl, rfl⟩
  · exact ⟨_, rfl⟩
  · exact ⟨_, rfl⟩
set_option maxHeartbeats 2000000 in
theorem s0_at_4 {cy : Nat → ClassId} {D : va_G} {H : Heap} {x b1 : Nat} {g1 : Nat → Nat} {b2 : Nat} {g2 : Nat → Nat} {mo a1 : Nat} {h1 : Nat → Nat} {a2 : Nat} {h2 : Nat → Nat} {ou : Nat} (hP : va_P D vwCl (wAll cy x b1 g1 b2 g2 mo a1 h1 a2 h2 ou) H) {c : Nat} {i : Int} (hd : dmb 4 c i = true) : va_at D vwCl (adF x b1 g1 b2 g2 mo a1 h1 a2 h2 ou 4 c i, cel cy (adF x b1 g1 b2 g2 mo a1 h1 a2 h2 ou) M00 4 c i) H := by
  have hk9 : (c = 0 ∧ i = 0) ∨ (c = 1 ∧ i = 0) := by simp [dmb] at hd; omega
  rcases hk9 with ⟨rfl, rfl⟩ | ⟨rfl, rfl⟩
  · exact hP 4 _ rfl
  · exact hP 32 _ rfl
theorem s0_pos_4 {cy : Nat → ClassId} {x b1 : Nat} {g1 : Nat → Nat} {b2 : Nat} {g2 : Nat → Nat} {mo a1 : Nat} {h1 : Nat → Nat} {a2 : Nat} {h2 : Nat → Nat} {ou : Nat} {c : Nat} {i : Int} (hd : dmb 4 c i = true) : ∃ e9 : va_E, (wAll cy x b1 g1 b2 g2 mo a1 h1 a2 h2 ou)[posF 4 c i]? = some (adF x b1 g1 b2 g2 mo a1 h1 a2 h2 ou 4 c i, e9) := by
  have hk9 : (c = 0 ∧ i = 0) ∨ (c = 1 ∧ i = 0) := by simp [dmb] at hd; omega
  rcases hk9 with ⟨rfl, rfl⟩ | ⟨rfl, rfl⟩
  · exact ⟨_, rfl⟩
  · exact ⟨_, rfl⟩
set_option maxHeartbeats 2000000 in
theorem s0_at_5 {cy : Nat → ClassId} {D : va_G} {H : Heap} {x b1 : Nat} {g1 : Nat → Nat} {b2 : Nat} {g2 : Nat → Nat} {mo a1 : Nat} {h1 : Nat → Nat} {a2 : Nat} {h2 : Nat → Nat} {ou : Nat} (hP : va_P D vwCl (wAll cy x b1 g1 b2 g2 mo a1 h1 a2 h2 ou) H) {c : Nat} {i : Int} (hd : dmb 5 c i = true) : va_at D vwCl (adF x b1 g1 b2 g2 mo a1 h1 a2 h2 ou 5 c i, cel cy (adF x b1 g1 b2 g2 mo a1 h1 a2 h2 ou) M00 5 c i) H := by
  have hk9 : (c = 0 ∧ i = 0) ∨ (c = 1 ∧ i = 0) := by simp [dmb] at hd; omega
  rcases hk9 with ⟨rfl, rfl⟩ | ⟨rfl, rfl⟩
  · exact hP 5 _ rfl
  · exact hP 33 _ rfl
theorem s0_pos_5 {cy : Nat → ClassId} {x b1 : Nat} {g1 : Nat → Nat} {b2 : Nat} {g2 : Nat → Nat} {mo a1 : Nat} {h1 : Nat → Nat} {a2 : Nat} {h2 : Nat → Nat} {ou : Nat} {c : Nat} {i : Int} (hd : dmb 5 c i = true) : ∃ e9 : va_E, (wAll cy x b1 g1 b2 g2 mo a1 h1 a2 h2 ou)[posF 5 c i]? = some (adF x b1 g1 b2 g2 mo a1 h1 a2 h2 ou 5 c i, e9) := by
  have hk9 : (c = 0 ∧ i = 0) ∨ (c = 1 ∧ i = 0) := by simp [dmb] at hd; omega
  rcases hk9 with ⟨rfl, rfl⟩ | ⟨rfl, rfl⟩
  · exact ⟨_, rfl⟩
  · exact ⟨_, rfl⟩
set_option maxHeartbeats 2000000 in
theorem s0_at_6 {cy : Nat → ClassId} {D : va_G} {H : Heap} {x b1 : Nat} {g1 : Nat → Nat} {b2 : Nat} {g2 : Nat → Nat} {mo a1 : Nat} {h1 : Nat → Nat} {a2 : Nat} {h2 : Nat → Nat} {ou : Nat} (hP : va_P D vwCl (wAll cy x b1 g1 b2 g2 mo a1 h1 a2 h2 ou) H) {c : Nat} {i : Int} (hd : dmb 6 c i = true) : va_at D vwCl (adF x b1 g1 b2 g2 mo a1 h1 a2 h2 ou 6 c i, cel cy (adF x b1 g1 b2 g2 mo a1 h1 a2 h2 ou) M00 6 c i) H := by
  have hk9 : (c = 0 ∧ i = 0) ∨ (c = 1 ∧ i = 0) := by simp [dmb] at hd; omega
  rcases hk9 with ⟨rfl, rfl⟩ | ⟨rfl, rfl⟩
  · exact hP 6 _ rfl
  · exact hP 34 _ rfl
theorem s0_pos_6 {cy : Nat → ClassId} {x b1 : Nat} {g1 : Nat → Nat} {b2 : Nat} {g2 : Nat → Nat} {mo a1 : Nat} {h1 : Nat → Nat} {a2 : Nat} {h2 : Nat → Nat} {ou : Nat} {c : Nat} {i : Int} (hd : dmb 6 c i = true) : ∃ e9 : va_E, (wAll cy x b1 g1 b2 g2 mo a1 h1 a2 h2 ou)[posF 6 c i]? = some (adF x b1 g1 b2 g2 mo a1 h1 a2 h2 ou 6 c i, e9) := by
  have hk9 : (c = 0 ∧ i = 0) ∨ (c = 1 ∧ i = 0) := by simp [dmb] at hd; omega
  rcases hk9 with ⟨rfl, rfl⟩ | ⟨rfl, rfl⟩
  · exact ⟨_, rfl⟩
  · exact ⟨_, rfl⟩
set_option maxHeartbeats 2000000 in
theorem s0_at_7 {cy : Nat → ClassId} {D : va_G} {H : Heap} {x b1 : Nat} {g1 : Nat → Nat} {b2 : Nat} {g2 : Nat → Nat} {mo a1 : Nat} {h1 : Nat → Nat} {a2 : Nat} {h2 : Nat → Nat} {ou : Nat} (hP : va_P D vwCl (wAll cy x b1 g1 b2 g2 mo a1 h1 a2 h2 ou) H) {c : Nat} {i : Int} (hd : dmb 7 c i = true) : va_at D vwCl (adF x b1 g1 b2 g2 mo a1 h1 a2 h2 ou 7 c i, cel cy (adF x b1 g1 b2 g2 mo a1 h1 a2 h2 ou) M00 7 c i) H := by
  have hk9 : (c = 0 ∧ i = 0) ∨ (c = 1 ∧ i = 0) := by simp [dmb] at hd; omega
  rcases hk9 with ⟨rfl, rfl⟩ | ⟨rfl, rfl⟩
  · exact hP 7 _ rfl
  · exact hP 35 _ rfl
theorem s0_pos_7 {cy : Nat → ClassId} {x b1 : Nat} {g1 : Nat → Nat} {b2 : Nat} {g2 : Nat → Nat} {mo a1 : Nat} {h1 : Nat → Nat} {a2 : Nat} {h2 : Nat → Nat} {ou : Nat} {c : Nat} {i : Int} (hd : dmb 7 c i = true) : ∃ e9 : va_E, (wAll cy x b1 g1 b2 g2 mo a1 h1 a2 h2 ou)[posF 7 c i]? = some (adF x b1 g1 b2 g2 mo a1 h1 a2 h2 ou 7 c i, e9) := by
  have hk9 : (c = 0 ∧ i = 0) ∨ (c = 1 ∧ i = 0) := by simp [dmb] at hd; omega
  rcases hk9 with ⟨rfl, rfl⟩ | ⟨rfl, rfl⟩
  · exact ⟨_, rfl⟩
  · exact ⟨_, rfl⟩
set_option maxHeartbeats 2000000 in
theorem s0_at_8 {cy : Nat → ClassId} {D : va_G} {H : Heap} {x b1 : Nat} {g1 : Nat → Nat} {b2 : Nat} {g2 : Nat → Nat} {mo a1 : Nat} {h1 : Nat → Nat} {a2 : Nat} {h2 : Nat → Nat} {ou : Nat} (hP : va_P D vwCl (wAll cy x b1 g1 b2 g2 mo a1 h1 a2 h2 ou) H) {c : Nat} {i : Int} (hd : dmb 8 c i = true) : va_at D vwCl (adF x b1 g1 b2 g2 mo a1 h1 a2 h2 ou 8 c i, cel cy (adF x b1 g1 b2 g2 mo a1 h1 a2 h2 ou) M00 8 c i) H := by
  have hk9 : (c = 0 ∧ i = 0) ∨ (c = 1 ∧ i = 0) := by simp [dmb] at hd; omega
  rcases hk9 with ⟨rfl, rfl⟩ | ⟨rfl, rfl⟩
  · exact hP 8 _ rfl
  · exact hP 36 _ rfl
theorem s0_pos_8 {cy : Nat → ClassId} {x b1 : Nat} {g1 : Nat → Nat} {b2 : Nat} {g2 : Nat → Nat} {mo a1 : Nat} {h1 : Nat → Nat} {a2 : Nat} {h2 : Nat → Nat} {ou : Nat} {c : Nat} {i : Int} (hd : dmb 8 c i = true) : ∃ e9 : va_E, (wAll cy x b1 g1 b2 g2 mo a1 h1 a2 h2 ou)[posF 8 c i]? = some (adF x b1 g1 b2 g2 mo a1 h1 a2 h2 ou 8 c i, e9) := by
  have hk9 : (c = 0 ∧ i = 0) ∨ (c = 1 ∧ i = 0) := by simp [dmb] at hd; omega
  rcases hk9 with ⟨rfl, rfl⟩ | ⟨rfl, rfl⟩
  · exact ⟨_, rfl⟩
  · exact ⟨_, rfl⟩
set_option maxHeartbeats 2000000 in
theorem s0_at_9 {cy : Nat → ClassId} {D : va_G} {H : Heap} {x b1 : Nat} {g1 : Nat → Nat} {b2 : Nat} {g2 : Nat → Nat} {mo a1 : Nat} {h1 : Nat → Nat} {a2 : Nat} {h2 : Nat → Nat} {ou : Nat} (hP : va_P D vwCl (wAll cy x b1 g1 b2 g2 mo a1 h1 a2 h2 ou) H) {c : Nat} {i : Int} (hd : dmb 9 c i = true) : va_at D vwCl (adF x b1 g1 b2 g2 mo a1 h1 a2 h2 ou 9 c i, cel cy (adF x b1 g1 b2 g2 mo a1 h1 a2 h2 ou) M00 9 c i) H := by
  have hk9 : (c = 0 ∧ i = 0) ∨ (c = 0 ∧ i = 1) ∨ (c = 0 ∧ i = 2) ∨ (c = 0 ∧ i = 3) ∨ (c = 0 ∧ i = 4) ∨ (c = 1 ∧ i = 0) ∨ (c = 1 ∧ i = 1) ∨ (c = 1 ∧ i = 2) ∨ (c = 1 ∧ i = 3) ∨ (c = 1 ∧ i = 4) := by simp [dmb] at hd; omega
  rcases hk9 with ⟨rfl, rfl⟩ | ⟨rfl, rfl⟩ | ⟨rfl, rfl⟩ | ⟨rfl, rfl⟩ | ⟨rfl, rfl⟩ | ⟨rfl, rfl⟩ | ⟨rfl, rfl⟩ | ⟨rfl, rfl⟩ | ⟨rfl, rfl⟩ | ⟨rfl, rfl⟩
  · exact hP 9 _ rfl
  · exact hP 11 _ rfl
  · exact hP 13 _ rfl
  · exact hP 15 _ rfl
  · exact hP 17 _ rfl
  · exact hP 37 _ rfl
  · exact hP 39 _ rfl
  · exact hP 41 _ rfl
  · exact hP 43 _ rfl
  · exact hP 45 _ rfl
theorem s0_pos_9 {cy : Nat → ClassId} {x b1 : Nat} {g1 : Nat → Nat} {b2 : Nat} {g2 : Nat → Nat} {mo a1 : Nat} {h1 : Nat → Nat} {a2 : Nat} {h2 : Nat → Nat} {ou : Nat} {c : Nat} {i : Int} (hd : dmb 9 c i = true) : ∃ e9 : va_E, (wAll cy x b1 g1 b2 g2 mo a1 h1 a2 h2 ou)[posF 9 c i]? = some (adF x b1 g1 b2 g2 mo a1 h1 a2 h2 ou 9 c i, e9) := by
  have hk9 : (c = 0 ∧ i = 0) ∨ (c = 0 ∧ i = 1) ∨ (c = 0 ∧ i = 2) ∨ (c = 0 ∧ i = 3) ∨ (c = 0 ∧ i = 4) ∨ (c = 1 ∧ i = 0) ∨ (c = 1 ∧ i = 1) ∨ (c = 1 ∧ i = 2) ∨ (c = 1 ∧ i = 3) ∨ (c = 1 ∧ i = 4) := by simp [dmb] at hd; omega
  rcases hk9 with ⟨rfl, rfl⟩ | ⟨rfl, rfl⟩ | ⟨rfl, rfl⟩ | ⟨rfl, rfl⟩ | ⟨rfl, rfl⟩ | ⟨rfl, rfl⟩ | ⟨rfl, rfl⟩ | ⟨rfl, rfl⟩ | ⟨rfl, rfl⟩ | ⟨rfl, rfl⟩
  · exact ⟨_, rfl⟩
  · exact ⟨_, rfl⟩
  · exact ⟨_, rfl⟩
  · exact ⟨_, rfl⟩
  · exact ⟨_, rfl⟩
  · exact ⟨_, rfl⟩
  · exact ⟨_, rfl⟩
  · exact ⟨_, rfl⟩
  · exact ⟨_, rfl⟩
  · exact ⟨_, rfl⟩
set_option maxHeartbeats 2000000 in
theorem s0_at_10 {cy : Nat → ClassId} {D : va_G} {H : Heap} {x b1 : Nat} {g1 : Nat → Nat} {b2 : Nat} {g2 : Nat → Nat} {mo a1 : Nat} {h1 : Nat → Nat} {a2 : Nat} {h2 : Nat → Nat} {ou : Nat} (hP : va_P D vwCl (wAll cy x b1 g1 b2 g2 mo a1 h1 a2 h2 ou) H) {c : Nat} {i : Int} (hd : dmb 10 c i = true) : va_at D vwCl (adF x b1 g1 b2 g2 mo a1 h1 a2 h2 ou 10 c i, cel cy (adF x b1 g1 b2 g2 mo a1 h1 a2 h2 ou) M00 10 c i) H := by
  have hk9 : (c = 0 ∧ i = 0) ∨ (c = 0 ∧ i = 1) ∨ (c = 0 ∧ i = 2) ∨ (c = 0 ∧ i = 3) ∨ (c = 0 ∧ i = 4) ∨ (c = 1 ∧ i = 0) ∨ (c = 1 ∧ i = 1) ∨ (c = 1 ∧ i = 2) ∨ (c = 1 ∧ i = 3) ∨ (c = 1 ∧ i = 4) := by simp [dmb] at hd; omega
  rcases hk9 with ⟨rfl, rfl⟩ | ⟨rfl, rfl⟩ | ⟨rfl, rfl⟩ | ⟨rfl, rfl⟩ | ⟨rfl, rfl⟩ | ⟨rfl, rfl⟩ | ⟨rfl, rfl⟩ | ⟨rfl, rfl⟩ | ⟨rfl, rfl⟩ | ⟨rfl, rfl⟩
  · exact at_tab (hP 10 _ rfl)
  · exact at_tab (hP 12 _ rfl)
  · exact at_tab (hP 14 _ rfl)
  · exact at_tab (hP 16 _ rfl)
  · exact at_tab (hP 18 _ rfl)
  · exact at_tab (hP 38 _ rfl)
  · exact at_tab (hP 40 _ rfl)
  · exact at_tab (hP 42 _ rfl)
  · exact at_tab (hP 44 _ rfl)
  · exact at_tab (hP 46 _ rfl)
theorem s0_pos_10 {cy : Nat → ClassId} {x b1 : Nat} {g1 : Nat → Nat} {b2 : Nat} {g2 : Nat → Nat} {mo a1 : Nat} {h1 : Nat → Nat} {a2 : Nat} {h2 : Nat → Nat} {ou : Nat} {c : Nat} {i : Int} (hd : dmb 10 c i = true) : ∃ e9 : va_E, (wAll cy x b1 g1 b2 g2 mo a1 h1 a2 h2 ou)[posF 10 c i]? = some (adF x b1 g1 b2 g2 mo a1 h1 a2 h2 ou 10 c i, e9) := by
  have hk9 : (c = 0 ∧ i = 0) ∨ (c = 0 ∧ i = 1) ∨ (c = 0 ∧ i = 2) ∨ (c = 0 ∧ i = 3) ∨ (c = 0 ∧ i = 4) ∨ (c = 1 ∧ i = 0) ∨ (c = 1 ∧ i = 1) ∨ (c = 1 ∧ i = 2) ∨ (c = 1 ∧ i = 3) ∨ (c = 1 ∧ i = 4) := by simp [dmb] at hd; omega
  rcases hk9 with ⟨rfl, rfl⟩ | ⟨rfl, rfl⟩ | ⟨rfl, rfl⟩ | ⟨rfl, rfl⟩ | ⟨rfl, rfl⟩ | ⟨rfl, rfl⟩ | ⟨rfl, rfl⟩ | ⟨rfl, rfl⟩ | ⟨rfl, rfl⟩ | ⟨rfl, rfl⟩
  · exact ⟨_, rfl⟩
  · exact ⟨_, rfl⟩
  · exact ⟨_, rfl⟩
  · exact ⟨_, rfl⟩
  · exact ⟨_, rfl⟩
  · exact ⟨_, rfl⟩
  · exact ⟨_, rfl⟩
  · exact ⟨_, rfl⟩
  · exact ⟨_, rfl⟩
  · exact ⟨_, rfl⟩
set_option maxHeartbeats 2000000 in
theorem s0_at_11 {cy : Nat → ClassId} {D : va_G} {H : Heap} {x b1 : Nat} {g1 : Nat → Nat} {b2 : Nat} {g2 : Nat → Nat} {mo a1 : Nat} {h1 : Nat → Nat} {a2 : Nat} {h2 : Nat → Nat} {ou : Nat} (hP : va_P D vwCl (wAll cy x b1 g1 b2 g2 mo a1 h1 a2 h2 ou) H) {c : Nat} {i : Int} (hd : dmb 11 c i = true) : va_at D vwCl (adF x b1 g1 b2 g2 mo a1 h1 a2 h2 ou 11 c i, cel cy (adF x b1 g1 b2 g2 mo a1 h1 a2 h2 ou) M00 11 c i) H := by
  have hk9 : (c = 0 ∧ i = 0) ∨ (c = 0 ∧ i = 1) ∨ (c = 0 ∧ i = 2) ∨ (c = 0 ∧ i = 3) ∨ (c = 1 ∧ i = 0) ∨ (c = 1 ∧ i = 1) ∨ (c = 1 ∧ i = 2) ∨ (c = 1 ∧ i = 3) := by simp [dmb] at hd; omega
  rcases hk9 with ⟨rfl, rfl⟩ | ⟨rfl, rfl⟩ | ⟨rfl, rfl⟩ | ⟨rfl, rfl⟩ | ⟨rfl, rfl⟩ | ⟨rfl, rfl⟩ | ⟨rfl, rfl⟩ | ⟨rfl, rfl⟩
  · exact hP 19 _ rfl
  · exact hP 20 _ rfl
  · exact hP 21 _ rfl
  · exact hP 22 _ rfl
  · exact hP 47 _ rfl
  · exact hP 48 _ rfl
  · exact hP 49 _ rfl
  · exact hP 50 _ rfl
theorem s0_pos_11 {cy : Nat → ClassId} {x b1 : Nat} {g1 : Nat → Nat} {b2 : Nat} {g2 : Nat → Nat} {mo a1 : Nat} {h1 : Nat → Nat} {a2 : Nat} {h2 : Nat → Nat} {ou : Nat} {c : Nat} {i : Int} (hd : dmb 11 c i = true) : ∃ e9 : va_E, (wAll cy x b1 g1 b2 g2 mo a1 h1 a2 h2 ou)[posF 11 c i]? = some (adF x b1 g1 b2 g2 mo a1 h1 a2 h2 ou 11 c i, e9) := by
  have hk9 : (c = 0 ∧ i = 0) ∨ (c = 0 ∧ i = 1) ∨ (c = 0 ∧ i = 2) ∨ (c = 0 ∧ i = 3) ∨ (c = 1 ∧ i = 0) ∨ (c = 1 ∧ i = 1) ∨ (c = 1 ∧ i = 2) ∨ (c = 1 ∧ i = 3) := by simp [dmb] at hd; omega
  rcases hk9 with ⟨rfl, rfl⟩ | ⟨rfl, rfl⟩ | ⟨rfl, rfl⟩ | ⟨rfl, rfl⟩ | ⟨rfl, rfl⟩ | ⟨rfl, rfl⟩ | ⟨rfl, rfl⟩ | ⟨rfl, rfl⟩
  · exact ⟨_, rfl⟩
  · exact ⟨_, rfl⟩
  · exact ⟨_, rfl⟩
  · exact ⟨_, rfl⟩
  · exact ⟨_, rfl⟩
  · exact ⟨_, rfl⟩
  · exact ⟨_, rfl⟩
  · exact ⟨_, rfl⟩
set_option maxHeartbeats 2000000 in
theorem s0_at_12 {cy : Nat → ClassId} {D : va_G} {H : Heap} {x b1 : Nat} {g1 : Nat → Nat} {b2 : Nat} {g2 : Nat → Nat} {mo a1 : Nat} {h1 : Nat → Nat} {a2 : Nat} {h2 : Nat → Nat} {ou : Nat} (hP : va_P D vwCl (wAll cy x b1 g1 b2 g2 mo a1 h1 a2 h2 ou) H) {c : Nat} {i : Int} (hd : dmb 12 c i = true) : va_at D vwCl (adF x b1 g1 b2 g2 mo a1 h1 a2 h2 ou 12 c i, cel cy (adF x b1 g1 b2 g2 mo a1 h1 a2 h2 ou) M00 12 c i) H := by
  have hk9 : (c = 0 ∧ i = 0) ∨ (c = 0 ∧ i = 1) ∨ (c = 0 ∧ i = 2) ∨ (c = 0 ∧ i = 3) ∨ (c = 0 ∧ i = 4) ∨ (c = 0 ∧ i = 5) ∨ (c = 1 ∧ i = 0) ∨ (c = 1 ∧ i = 1) ∨ (c = 1 ∧ i = 2) ∨ (c = 1 ∧ i = 3) ∨ (c = 1 ∧ i = 4) ∨ (c = 1 ∧ i = 5) := by simp [dmb] at hd; omega
  rcases hk9 with ⟨rfl, rfl⟩ | ⟨rfl, rfl⟩ | ⟨rfl, rfl⟩ | ⟨rfl, rfl⟩ | ⟨rfl, rfl⟩ | ⟨rfl, rfl⟩ | ⟨rfl, rfl⟩ | ⟨rfl, rfl⟩ | ⟨rfl, rfl⟩ | ⟨rfl, rfl⟩ | ⟨rfl, rfl⟩ | ⟨rfl, rfl⟩
  · exact hP 23 _ rfl
  · exact hP 24 _ rfl
  · exact hP 25 _ rfl
  · exact hP 26 _ rfl
  · exact hP 27 _ rfl
  · exact hP 28 _ rfl
  · exact hP 51 _ rfl
  · exact hP 52 _ rfl
  · exact hP 53 _ rfl
  · exact hP 54 _ rfl
  · exact hP 55 _ rfl
  · exact hP 56 _ rfl
theorem s0_pos_12 {cy : Nat → ClassId} {x b1 : Nat} {g1 : Nat → Nat} {b2 : Nat} {g2 : Nat → Nat} {mo a1 : Nat} {h1 : Nat → Nat} {a2 : Nat} {h2 : Nat → Nat} {ou : Nat} {c : Nat} {i : Int} (hd : dmb 12 c i = true) : ∃ e9 : va_E, (wAll cy x b1 g1 b2 g2 mo a1 h1 a2 h2 ou)[posF 12 c i]? = some (adF x b1 g1 b2 g2 mo a1 h1 a2 h2 ou 12 c i, e9) := by
  have hk9 : (c = 0 ∧ i = 0) ∨ (c = 0 ∧ i = 1) ∨ (c = 0 ∧ i = 2) ∨ (c = 0 ∧ i = 3) ∨ (c = 0 ∧ i = 4) ∨ (c = 0 ∧ i = 5) ∨ (c = 1 ∧ i = 0) ∨ (c = 1 ∧ i = 1) ∨ (c = 1 ∧ i = 2) ∨ (c = 1 ∧ i = 3) ∨ (c = 1 ∧ i = 4) ∨ (c = 1 ∧ i = 5) := by simp [dmb] at hd; omega
  rcases hk9 with ⟨rfl, rfl⟩ | ⟨rfl, rfl⟩ | ⟨rfl, rfl⟩ | ⟨rfl, rfl⟩ | ⟨rfl, rfl⟩ | ⟨rfl, rfl⟩ | ⟨rfl, rfl⟩ | ⟨rfl, rfl⟩ | ⟨rfl, rfl⟩ | ⟨rfl, rfl⟩ | ⟨rfl, rfl⟩ | ⟨rfl, rfl⟩
  · exact ⟨_, rfl⟩
  · exact ⟨_, rfl⟩
  · exact ⟨_, rfl⟩
  · exact ⟨_, rfl⟩
  · exact ⟨_, rfl⟩
  · exact ⟨_, rfl⟩
  · exact ⟨_, rfl⟩
  · exact ⟨_, rfl⟩
  · exact ⟨_, rfl⟩
  · exact ⟨_, rfl⟩
  · exact ⟨_, rfl⟩
  · exact ⟨_, rfl⟩
set_option maxHeartbeats 2000000 in
theorem s0_at_13 {cy : Nat → ClassId} {D : va_G} {H : Heap} {x b1 : Nat} {g1 : Nat → Nat} {b2 : Nat} {g2 : Nat → Nat} {mo a1 : Nat} {h1 : Nat → Nat} {a2 : Nat} {h2 : Nat → Nat} {ou : Nat} (hP : va_P D vwCl (wAll cy x b1 g1 b2 g2 mo a1 h1 a2 h2 ou) H) {c : Nat} {i : Int} (hd : dmb 13 c i = true) : va_at D vwCl (adF x b1 g1 b2 g2 mo a1 h1 a2 h2 ou 13 c i, cel cy (adF x b1 g1 b2 g2 mo a1 h1 a2 h2 ou) M00 13 c i) H := by
  have hk9 : (c = 0 ∧ i = 0) := by simp [dmb] at hd; omega
  obtain ⟨rfl, rfl⟩ := hk9
  exact hP 57 _ rfl
theorem s0_pos_13 {cy : Nat → ClassId} {x b1 : Nat} {g1 : Nat → Nat} {b2 : Nat} {g2 : Nat → Nat} {mo a1 : Nat} {h1 : Nat → Nat} {a2 : Nat} {h2 : Nat → Nat} {ou : Nat} {c : Nat} {i : Int} (hd : dmb 13 c i = true) : ∃ e9 : va_E, (wAll cy x b1 g1 b2 g2 mo a1 h1 a2 h2 ou)[posF 13 c i]? = some (adF x b1 g1 b2 g2 mo a1 h1 a2 h2 ou 13 c i, e9) := by
  have hk9 : (c = 0 ∧ i = 0) := by simp [dmb] at hd; omega
  obtain ⟨rfl, rfl⟩ := hk9
  exact ⟨_, rfl⟩
set_option maxHeartbeats 2000000 in
theorem s0_at_14 {cy : Nat → ClassId} {D : va_G} {H : Heap} {x b1 : Nat} {g1 : Nat → Nat} {b2 : Nat} {g2 : Nat → Nat} {mo a1 : Nat} {h1 : Nat → Nat} {a2 : Nat} {h2 : Nat → Nat} {ou : Nat} (hP : va_P D vwCl (wAll cy x b1 g1 b2 g2 mo a1 h1 a2 h2 ou) H) {c : Nat} {i : Int} (hd : dmb 14 c i = true) : va_at D vwCl (adF x b1 g1 b2 g2 mo a1 h1 a2 h2 ou 14 c i, cel cy (adF x b1 g1 b2 g2 mo a1 h1 a2 h2 ou) M00 14 c i) H := by
  have hk9 : (c = 2 ∧ i = 0) ∨ (c = 3 ∧ i = 0) := by simp [dmb] at hd; omega
  rcases hk9 with ⟨rfl, rfl⟩ | ⟨rfl, rfl⟩
  · exact hP 58 _ rfl
  · exact hP 79 _ rfl
theorem s0_pos_14 {cy : Nat → ClassId} {x b1 : Nat} {g1 : Nat → Nat} {b2 : Nat} {g2 : Nat → Nat} {mo a1 : Nat} {h1 : Nat → Nat} {a2 : Nat} {h2 : Nat → Nat} {ou : Nat} {c : Nat} {i : Int} (hd : dmb 14 c i = true) : ∃ e9 : va_E, (wAll cy x b1 g1 b2 g2 mo a1 h1 a2 h2 ou)[posF 14 c i]? = some (adF x b1 g1 b2 g2 mo a1 h1 a2 h2 ou 14 c i, e9) := by
  have hk9 : (c = 2 ∧ i = 0) ∨ (c = 3 ∧ i = 0) := by simp [dmb] at hd; omega
  rcases hk9 with ⟨rfl, rfl⟩ | ⟨rfl, rfl⟩
  · exact ⟨_, rfl⟩
  · exact ⟨_, rfl⟩
set_option maxHeartbeats 2000000 in
theorem s0_at_15 {cy : Nat → ClassId} {D : va_G} {H : Heap} {x b1 : Nat} {g1 : Nat → Nat} {b2 : Nat} {g2 : Nat → Nat} {mo a1 : Nat} {h1 : Nat → Nat} {a2 : Nat} {h2 : Nat → Nat} {ou : Nat} (hP : va_P D vwCl (wAll cy x b1 g1 b2 g2 mo a1 h1 a2 h2 ou) H) {c : Nat} {i : Int} (hd : dmb 15 c i = true) : va_at D vwCl (adF x b1 g1 b2 g2 mo a1 h1 a2 h2 ou 15 c i, cel cy (adF x b1 g1 b2 g2 mo a1 h1 a2 h2 ou) M00 15 c i) H := by
  have hk9 : (c = 2 ∧ i = 0) ∨ (c = 3 ∧ i = 0) := by simp [dmb] at hd; omega
  rcases hk9 with ⟨rfl, rfl⟩ | ⟨rfl, rfl⟩
  · exact hP 59 _ rfl
  · exact hP 80 _ rfl
theorem s0_pos_15 {cy : Nat → ClassId} {x b1 : Nat} {g1 : Nat → Nat} {b2 : Nat} {g2 : Nat → Nat} {mo a1 : Nat} {h1 : Nat → Nat} {a2 : Nat} {h2 : Nat → Nat} {ou : Nat} {c : Nat} {i : Int} (hd : dmb 15 c i = true) : ∃ e9 : va_E, (wAll cy x b1 g1 b2 g2 mo a1 h1 a2 h2 ou)[posF 15 c i]? = some (adF x b1 g1 b2 g2 mo a1 h1 a2 h2 ou 15 c i, e9) := by
  have hk9 : (c = 2 ∧ i = 0) ∨ (c = 3 ∧ i = 0) := by simp [dmb] at hd; omega
  rcases hk9 with ⟨rfl, rfl⟩ | ⟨rfl, rfl⟩
  · exact ⟨_, rfl⟩
  · exact ⟨_, rfl⟩
set_option maxHeartbeats 2000000 in
theorem s0_at_16 {cy : Nat → ClassId} {D : va_G} {H : Heap} {x b1 : Nat} {g1 : Nat → Nat} {b2 : Nat} {g2 : Nat → Nat} {mo a1 : Nat} {h1 : Nat → Nat} {a2 : Nat} {h2 : Nat → Nat} {ou : Nat} (hP : va_P D vwCl (wAll cy x b1 g1 b2 g2 mo a1 h1 a2 h2 ou) H) {c : Nat} {i : Int} (hd : dmb 16 c i = true) : va_at D vwCl (adF x b1 g1 b2 g2 mo a1 h1 a2 h2 ou 16 c i, cel cy (adF x b1 g1 b2 g2 mo a1 h1 a2 h2 ou) M00 16 c i) H := by
  have hk9 : (c = 2 ∧ i = 0) ∨ (c = 3 ∧ i = 0) := by simp [dmb] at hd; omega
  rcases hk9 with ⟨rfl, rfl⟩ | ⟨rfl, rfl⟩
  · exact hP 60 _ rfl
  · exact hP 81 _ rfl
theorem s0_pos_16 {cy : Nat → ClassId} {x b1 : Nat} {g1 : Nat → Nat} {b2 : Nat} {g2 : Nat → Nat} {mo a1 : Nat} {h1 : Nat → Nat} {a2 : Nat} {h2 : Nat → Nat} {ou : Nat} {c : Nat} {i : Int} (hd : dmb 16 c i = true) : ∃ e9 : va_E, (wAll cy x b1 g1 b2 g2 mo a1 h1 a2 h2 ou)[posF 16 c i]? = some (adF x b1 g1 b2 g2 mo a1 h1 a2 h2 ou 16 c i, e9) := by
  have hk9 : (c = 2 ∧ i = 0) ∨ (c = 3 ∧ i = 0) := by simp [dmb] at hd; omega
  rcases hk9 with ⟨rfl, rfl⟩ | ⟨rfl, rfl⟩
  · exact ⟨_, rfl⟩
  · exact ⟨_, rfl⟩
set_option maxHeartbeats 2000000 in
theorem s0_at_17 {cy : Nat → ClassId} {D : va_G} {H : Heap} {x b1 : Nat} {g1 : Nat → Nat} {b2 : Nat} {g2 : Nat → Nat} {mo a1 : Nat} {h1 : Nat → Nat} {a2 : Nat} {h2 : Nat → Nat} {ou : Nat} (hP : va_P D vwCl (wAll cy x b1 g1 b2 g2 mo a1 h1 a2 h2 ou) H) {c : Nat} {i : Int} (hd : dmb 17 c i = true) : va_at D vwCl (adF x b1 g1 b2 g2 mo a1 h1 a2 h2 ou 17 c i, cel cy (adF x b1 g1 b2 g2 mo a1 h1 a2 h2 ou) M00 17 c i) H := by
  have hk9 : (c = 2 ∧ i = 0) ∨ (c = 3 ∧ i = 0) := by simp [dmb] at hd; omega
  rcases hk9 with ⟨rfl, rfl⟩ | ⟨rfl, rfl⟩
  · exact hP 61 _ rfl
  · exact hP 82 _ rfl
theorem s0_pos_17 {cy : Nat → ClassId} {x b1 : Nat} {g1 : Nat → Nat} {b2 : Nat} {g2 : Nat → Nat} {mo a1 : Nat} {h1 : Nat → Nat} {a2 : Nat} {h2 : Nat → Nat} {ou : Nat} {c : Nat} {i : Int} (hd : dmb 17 c i = true) : ∃ e9 : va_E, (wAll cy x b1 g1 b2 g2 mo a1 h1 a2 h2 ou)[posF 17 c i]? = some (adF x b1 g1 b2 g2 mo a1 h1 a2 h2 ou 17 c i, e9) := by
  have hk9 : (c = 2 ∧ i = 0) ∨ (c = 3 ∧ i = 0) := by simp [dmb] at hd; omega
  rcases hk9 with ⟨rfl, rfl⟩ | ⟨rfl, rfl⟩
  · exact ⟨_, rfl⟩
  · exact ⟨_, rfl⟩
set_option maxHeartbeats 2000000 in
theorem s0_at_18 {cy : Nat → ClassId} {D : va_G} {H : Heap} {x b1 : Nat} {g1 : Nat → Nat} {b2 : Nat} {g2 : Nat → Nat} {mo a1 : Nat} {h1 : Nat → Nat} {a2 : Nat} {h2 : Nat → Nat} {ou : Nat} (hP : va_P D vwCl (wAll cy x b1 g1 b2 g2 mo a1 h1 a2 h2 ou) H) {c : Nat} {i : Int} (hd : dmb 18 c i = true) : va_at D vwCl (adF x b1 g1 b2 g2 mo a1 h1 a2 h2 ou 18 c i, cel cy (adF x b1 g1 b2 g2 mo a1 h1 a2 h2 ou) M00 18 c i) H := by
  have hk9 : (c = 2 ∧ i = 0) ∨ (c = 3 ∧ i = 0) := by simp [dmb] at hd; omega
  rcases hk9 with ⟨rfl, rfl⟩ | ⟨rfl, rfl⟩
  · exact hP 62 _ rfl
  · exact hP 83 _ rfl
theorem s0_pos_18 {cy : Nat → ClassId} {x b1 : Nat} {g1 : Nat → Nat} {b2 : Nat} {g2 : Nat → Nat} {mo a1 : Nat} {h1 : Nat → Nat} {a2 : Nat} {h2 : Nat → Nat} {ou : Nat} {c : Nat} {i : Int} (hd : dmb 18 c i = true) : ∃ e9 : va_E, (wAll cy x b1 g1 b2 g2 mo a1 h1 a2 h2 ou)[posF 18 c i]? = some (adF x b1 g1 b2 g2 mo a1 h1 a2 h2 ou 18 c i, e9) := by
  have hk9 : (c = 2 ∧ i = 0) ∨ (c = 3 ∧ i = 0) := by simp [dmb] at hd; omega
  rcases hk9 with ⟨rfl, rfl⟩ | ⟨rfl, rfl⟩
  · exact ⟨_, rfl⟩
  · exact ⟨_, rfl⟩
set_option maxHeartbeats 2000000 in
theorem s0_at_19 {cy : Nat → ClassId} {D : va_G} {H : Heap} {x b1 : Nat} {g1 : Nat → Nat} {b2 : Nat} {g2 : Nat → Nat} {mo a1 : Nat} {h1 : Nat → Nat} {a2 : Nat} {h2 : Nat → Nat} {ou : Nat} (hP : va_P D vwCl (wAll cy x b1 g1 b2 g2 mo a1 h1 a2 h2 ou) H) {c : Nat} {i : Int} (hd : dmb 19 c i = true) : va_at D vwCl (adF x b1 g1 b2 g2 mo a1 h1 a2 h2 ou 19 c i, cel cy (adF x b1 g1 b2 g2 mo a1 h1 a2 h2 ou) M00 19 c i) H := by
  have hk9 : (c = 2 ∧ i = 0) ∨ (c = 3 ∧ i = 0) := by simp [dmb] at hd; omega
  rcases hk9 with ⟨rfl, rfl⟩ | ⟨rfl, rfl⟩
  · exact hP 63 _ rfl
  · exact hP 84 _ rfl
theorem s0_pos_19 {cy : Nat → ClassId} {x b1 : Nat} {g1 : Nat → Nat} {b2 : Nat} {g2 : Nat → Nat} {mo a1 : Nat} {h1 : Nat → Nat} {a2 : Nat} {h2 : Nat → Nat} {ou : Nat} {c : Nat} {i : Int} (hd : dmb 19 c i = true) : ∃ e9 : va_E, (wAll cy x b1 g1 b2 g2 mo a1 h1 a2 h2 ou)[posF 19 c i]? = some (adF x b1 g1 b2 g2 mo a1 h1 a2 h2 ou 19 c i, e9) := by
  have hk9 : (c = 2 ∧ i = 0) ∨ (c = 3 ∧ i = 0) := by simp [dmb] at hd; omega
  rcases hk9 with ⟨rfl, rfl⟩ | ⟨rfl, rfl⟩
  · exact ⟨_, rfl⟩
  · exact ⟨_, rfl⟩
set_option maxHeartbeats 2000000 in
theorem s0_at_20 {cy : Nat → ClassId} {D : va_G} {H : Heap} {x b1 : Nat} {g1 : Nat → Nat} {b2 : Nat} {g2 : Nat → Nat} {mo a1 : Nat} {h1 : Nat → Nat} {a2 : Nat} {h2 : Nat → Nat} {ou : Nat} (hP : va_P D vwCl (wAll cy x b1 g1 b2 g2 mo a1 h1 a2 h2 ou) H) {c : Nat} {i : Int} (hd : dmb 20 c i = true) : va_at D vwCl (adF x b1 g1 b2 g2 mo a1 h1 a2 h2 ou 20 c i, cel cy (adF x b1 g1 b2 g2 mo a1 h1 a2 h2 ou) M00 20 c i) H := by
  have hk9 : (c = 2 ∧ i = 0) ∨ (c = 3 ∧ i = 0) := by simp [dmb] at hd; omega
  rcases hk9 with ⟨rfl, rfl⟩ | ⟨rfl, rfl⟩
  · exact hP 64 _ rfl
  · exact hP 85 _ rfl
theorem s0_pos_20 {cy : Nat → ClassId} {x b1 : Nat} {g1 : Nat → Nat} {b2 : Nat} {g2 : Nat → Nat} {mo a1 : Nat} {h1 : Nat → Nat} {a2 : Nat} {h2 : Nat → Nat} {ou : Nat} {c : Nat} {i : Int} (hd : dmb 20 c i = true) : ∃ e9 : va_E, (wAll cy x b1 g1 b2 g2 mo a1 h1 a2 h2 ou)[posF 20 c i]? = some (adF x b1 g1 b2 g2 mo a1 h1 a2 h2 ou 20 c i, e9) := by
  have hk9 : (c = 2 ∧ i = 0) ∨ (c = 3 ∧ i = 0) := by simp [dmb] at hd; omega
  rcases hk9 with ⟨rfl, rfl⟩ | ⟨rfl, rfl⟩
  · exact ⟨_, rfl⟩
  · exact ⟨_, rfl⟩
set_option maxHeartbeats 2000000 in
theorem s0_at_21 {cy : Nat → ClassId} {D : va_G} {H : Heap} {x b1 : Nat} {g1 : Nat → Nat} {b2 : Nat} {g2 : Nat → Nat} {mo a1 : Nat} {h1 : Nat → Nat} {a2 : Nat} {h2 : Nat → Nat} {ou : Nat} (hP : va_P D vwCl (wAll cy x b1 g1 b2 g2 mo a1 h1 a2 h2 ou) H) {c : Nat} {i : Int} (hd : dmb 21 c i = true) : va_at D vwCl (adF x b1 g1 b2 g2 mo a1 h1 a2 h2 ou 21 c i, cel cy (adF x b1 g1 b2 g2 mo a1 h1 a2 h2 ou) M00 21 c i) H := by
  have hk9 : (c = 2 ∧ i = 0) ∨ (c = 3 ∧ i = 0) := by simp [dmb] at hd; omega
  rcases hk9 with ⟨rfl, rfl⟩ | ⟨rfl, rfl⟩
  · exact hP 65 _ rfl
  · exact hP 86 _ rfl
theorem s0_pos_21 {cy : Nat → ClassId} {x b1 : Nat} {g1 : Nat → Nat} {b2 : Nat} {g2 : Nat → Nat} {mo a1 : Nat} {h1 : Nat → Nat} {a2 : Nat} {h2 : Nat → Nat} {ou : Nat} {c : Nat} {i : Int} (hd : dmb 21 c i = true) : ∃ e9 : va_E, (wAll cy x b1 g1 b2 g2 mo a1 h1 a2 h2 ou)[posF 21 c i]? = some (adF x b1 g1 b2 g2 mo a1 h1 a2 h2 ou 21 c i, e9) := by
  have hk9 : (c = 2 ∧ i = 0) ∨ (c = 3 ∧ i = 0) := by simp [dmb] at hd; omega
  rcases hk9 with ⟨rfl, rfl⟩ | ⟨rfl, rfl⟩
  · exact ⟨_, rfl⟩
  · exact ⟨_, rfl⟩
set_option maxHeartbeats 2000000 in
theorem s0_at_22 {cy : Nat → ClassId} {D : va_G} {H : Heap} {x b1 : Nat} {g1 : Nat → Nat} {b2 : Nat} {g2 : Nat → Nat} {mo a1 : Nat} {h1 : Nat → Nat} {a2 : Nat} {h2 : Nat → Nat} {ou : Nat} (hP : va_P D vwCl (wAll cy x b1 g1 b2 g2 mo a1 h1 a2 h2 ou) H) {c : Nat} {i : Int} (hd : dmb 22 c i = true) : va_at D vwCl (adF x b1 g1 b2 g2 mo a1 h1 a2 h2 ou 22 c i, cel cy (adF x b1 g1 b2 g2 mo a1 h1 a2 h2 ou) M00 22 c i) H := by
  have hk9 : (c = 2 ∧ i = 0) ∨ (c = 3 ∧ i = 0) := by simp [dmb] at hd; omega
  rcases hk9 with ⟨rfl, rfl⟩ | ⟨rfl, rfl⟩
  · exact hP 66 _ rfl
  · exact hP 87 _ rfl
theorem s0_pos_22 {cy : Nat → ClassId} {x b1 : Nat} {g1 : Nat → Nat} {b2 : Nat} {g2 : Nat → Nat} {mo a1 : Nat} {h1 : Nat → Nat} {a2 : Nat} {h2 : Nat → Nat} {ou : Nat} {c : Nat} {i : Int} (hd : dmb 22 c i = true) : ∃ e9 : va_E, (wAll cy x b1 g1 b2 g2 mo a1 h1 a2 h2 ou)[posF 22 c i]? = some (adF x b1 g1 b2 g2 mo a1 h1 a2 h2 ou 22 c i, e9) := by
  have hk9 : (c = 2 ∧ i = 0) ∨ (c = 3 ∧ i = 0) := by simp [dmb] at hd; omega
  rcases hk9 with ⟨rfl, rfl⟩ | ⟨rfl, rfl⟩
  · exact ⟨_, rfl⟩
  · exact ⟨_, rfl⟩
set_option maxHeartbeats 2000000 in
theorem s0_at_23 {cy : Nat → ClassId} {D : va_G} {H : Heap} {x b1 : Nat} {g1 : Nat → Nat} {b2 : Nat} {g2 : Nat → Nat} {mo a1 : Nat} {h1 : Nat → Nat} {a2 : Nat} {h2 : Nat → Nat} {ou : Nat} (hP : va_P D vwCl (wAll cy x b1 g1 b2 g2 mo a1 h1 a2 h2 ou) H) {c : Nat} {i : Int} (hd : dmb 23 c i = true) : va_at D vwCl (adF x b1 g1 b2 g2 mo a1 h1 a2 h2 ou 23 c i, cel cy (adF x b1 g1 b2 g2 mo a1 h1 a2 h2 ou) M00 23 c i) H := by
  have hk9 : (c = 2 ∧ i = 0) ∨ (c = 3 ∧ i = 0) := by simp [dmb] at hd; omega
  rcases hk9 with ⟨rfl, rfl⟩ | ⟨rfl, rfl⟩
  · exact hP 67 _ rfl
  · exact hP 88 _ rfl
theorem s0_pos_23 {cy : Nat → ClassId} {x b1 : Nat} {g1 : Nat → Nat} {b2 : Nat} {g2 : Nat → Nat} {mo a1 : Nat} {h1 : Nat → Nat} {a2 : Nat} {h2 : Nat → Nat} {ou : Nat} {c : Nat} {i : Int} (hd : dmb 23 c i = true) : ∃ e9 : va_E, (wAll cy x b1 g1 b2 g2 mo a1 h1 a2 h2 ou)[posF 23 c i]? = some (adF x b1 g1 b2 g2 mo a1 h1 a2 h2 ou 23 c i, e9) := by
  have hk9 : (c = 2 ∧ i = 0) ∨ (c = 3 ∧ i = 0) := by simp [dmb] at hd; omega
  rcases hk9 with ⟨rfl, rfl⟩ | ⟨rfl, rfl⟩
  · exact ⟨_, rfl⟩
  · exact ⟨_, rfl⟩
set_option maxHeartbeats 2000000 in
theorem s0_at_24 {cy : Nat → ClassId} {D : va_G} {H : Heap} {x b1 : Nat} {g1 : Nat → Nat} {b2 : Nat} {g2 : Nat → Nat} {mo a1 : Nat} {h1 : Nat → Nat} {a2 : Nat} {h2 : Nat → Nat} {ou : Nat} (hP : va_P D vwCl (wAll cy x b1 g1 b2 g2 mo a1 h1 a2 h2 ou) H) {c : Nat} {i : Int} (hd : dmb 24 c i = true) : va_at D vwCl (adF x b1 g1 b2 g2 mo a1 h1 a2 h2 ou 24 c i, cel cy (adF x b1 g1 b2 g2 mo a1 h1 a2 h2 ou) M00 24 c i) H := by
  have hk9 : (c = 2 ∧ i = 0) ∨ (c = 3 ∧ i = 0) := by simp [dmb] at hd; omega
  rcases hk9 with ⟨rfl, rfl⟩ | ⟨rfl, rfl⟩
  · exact hP 68 _ rfl
  · exact hP 89 _ rfl
theorem s0_pos_24 {cy : Nat → ClassId} {x b1 : Nat} {g1 : Nat → Nat} {b2 : Nat} {g2 : Nat → Nat} {mo a1 : Nat} {h1 : Nat → Nat} {a2 : Nat} {h2 : Nat → Nat} {ou : Nat} {c : Nat} {i : Int} (hd : dmb 24 c i = true) : ∃ e9 : va_E, (wAll cy x b1 g1 b2 g2 mo a1 h1 a2 h2 ou)[posF 24 c i]? = some (adF x b1 g1 b2 g2 mo a1 h1 a2 h2 ou 24 c i, e9) := by
  have hk9 : (c = 2 ∧ i = 0) ∨ (c = 3 ∧ i = 0) := by simp [dmb] at hd; omega
  rcases hk9 with ⟨rfl, rfl⟩ | ⟨rfl, rfl⟩
  · exact ⟨_, rfl⟩
  · exact ⟨_, rfl⟩
set_option maxHeartbeats 2000000 in
theorem s0_at_25 {cy : Nat → ClassId} {D : va_G} {H : Heap} {x b1 : Nat} {g1 : Nat → Nat} {b2 : Nat} {g2 : Nat → Nat} {mo a1 : Nat} {h1 : Nat → Nat} {a2 : Nat} {h2 : Nat → Nat} {ou : Nat} (hP : va_P D vwCl (wAll cy x b1 g1 b2 g2 mo a1 h1 a2 h2 ou) H) {c : Nat} {i : Int} (hd : dmb 25 c i = true) : va_at D vwCl (adF x b1 g1 b2 g2 mo a1 h1 a2 h2 ou 25 c i, cel cy (adF x b1 g1 b2 g2 mo a1 h1 a2 h2 ou) M00 25 c i) H := by
  have hk9 : (c = 2 ∧ i = 0) ∨ (c = 3 ∧ i = 0) := by simp [dmb] at hd; omega
  rcases hk9 with ⟨rfl, rfl⟩ | ⟨rfl, rfl⟩
  · exact hP 69 _ rfl
  · exact hP 90 _ rfl
theorem s0_pos_25 {cy : Nat → ClassId} {x b1 : Nat} {g1 : Nat → Nat} {b2 : Nat} {g2 : Nat → Nat} {mo a1 : Nat} {h1 : Nat → Nat} {a2 : Nat} {h2 : Nat → Nat} {ou : Nat} {c : Nat} {i : Int} (hd : dmb 25 c i = true) : ∃ e9 : va_E, (wAll cy x b1 g1 b2 g2 mo a1 h1 a2 h2 ou)[posF 25 c i]? = some (adF x b1 g1 b2 g2 mo a1 h1 a2 h2 ou 25 c i, e9) := by
  have hk9 : (c = 2 ∧ i = 0) ∨ (c = 3 ∧ i = 0) := by simp [dmb] at hd; omega
  rcases hk9 with ⟨rfl, rfl⟩ | ⟨rfl, rfl⟩
  · exact ⟨_, rfl⟩
  · exact ⟨_, rfl⟩
set_option maxHeartbeats 2000000 in
theorem s0_at_26 {cy : Nat → ClassId} {D : va_G} {H : Heap} {x b1 : Nat} {g1 : Nat → Nat} {b2 : Nat} {g2 : Nat → Nat} {mo a1 : Nat} {h1 : Nat → Nat} {a2 : Nat} {h2 : Nat → Nat} {ou : Nat} (hP : va_P D vwCl (wAll cy x b1 g1 b2 g2 mo a1 h1 a2 h2 ou) H) {c : Nat} {i : Int} (hd : dmb 26 c i = true) : va_at D vwCl (adF x b1 g1 b2 g2 mo a1 h1 a2 h2 ou 26 c i, cel cy (adF x b1 g1 b2 g2 mo a1 h1 a2 h2 ou) M00 26 c i) H := by
  have hk9 : (c = 2 ∧ i = 0) ∨ (c = 3 ∧ i = 0) := by simp [dmb] at hd; omega
  rcases hk9 with ⟨rfl, rfl⟩ | ⟨rfl, rfl⟩
  · exact hP 70 _ rfl
  · exact hP 91 _ rfl
theorem s0_pos_26 {cy : Nat → ClassId} {x b1 : Nat} {g1 : Nat → Nat} {b2 : Nat} {g2 : Nat → Nat} {mo a1 : Nat} {h1 : Nat → Nat} {a2 : Nat} {h2 : Nat → Nat} {ou : Nat} {c : Nat} {i : Int} (hd : dmb 26 c i = true) : ∃ e9 : va_E, (wAll cy x b1 g1 b2 g2 mo a1 h1 a2 h2 ou)[posF 26 c i]? = some (adF x b1 g1 b2 g2 mo a1 h1 a2 h2 ou 26 c i, e9) := by
  have hk9 : (c = 2 ∧ i = 0) ∨ (c = 3 ∧ i = 0) := by simp [dmb] at hd; omega
  rcases hk9 with ⟨rfl, rfl⟩ | ⟨rfl, rfl⟩
  · exact ⟨_, rfl⟩
  · exact ⟨_, rfl⟩
set_option maxHeartbeats 2000000 in
theorem s0_at_27 {cy : Nat → ClassId} {D : va_G} {H : Heap} {x b1 : Nat} {g1 : Nat → Nat} {b2 : Nat} {g2 : Nat → Nat} {mo a1 : Nat} {h1 : Nat → Nat} {a2 : Nat} {h2 : Nat → Nat} {ou : Nat} (hP : va_P D vwCl (wAll cy x b1 g1 b2 g2 mo a1 h1 a2 h2 ou) H) {c : Nat} {i : Int} (hd : dmb 27 c i = true) : va_at D vwCl (adF x b1 g1 b2 g2 mo a1 h1 a2 h2 ou 27 c i, cel cy (adF x b1 g1 b2 g2 mo a1 h1 a2 h2 ou) M00 27 c i) H := by
  have hk9 : (c = 2 ∧ i = 0) ∨ (c = 3 ∧ i = 0) := by simp [dmb] at hd; omega
  rcases hk9 with ⟨rfl, rfl⟩ | ⟨rfl, rfl⟩
  · exact hP 71 _ rfl
  · exact hP 92 _ rfl
theorem s0_pos_27 {cy : Nat → ClassId} {x b1 : Nat} {g1 : Nat → Nat} {b2 : Nat} {g2 : Nat → Nat} {mo a1 : Nat} {h1 : Nat → Nat} {a2 : Nat} {h2 : Nat → Nat} {ou : Nat} {c : Nat} {i : Int} (hd : dmb 27 c i = true) : ∃ e9 : va_E, (wAll cy x b1 g1 b2 g2 mo a1 h1 a2 h2 ou)[posF 27 c i]? = some (adF x b1 g1 b2 g2 mo a1 h1 a2 h2 ou 27 c i, e9) := by
  have hk9 : (c = 2 ∧ i = 0) ∨ (c = 3 ∧ i = 0) := by simp [dmb] at hd; omega
  rcases hk9 with ⟨rfl, rfl⟩ | ⟨rfl, rfl⟩
  · exact ⟨_, rfl⟩
  · exact ⟨_, rfl⟩
set_option maxHeartbeats 2000000 in
theorem s0_at_28 {cy : Nat → ClassId} {D : va_G} {H : Heap} {x b1 : Nat} {g1 : Nat → Nat} {b2 : Nat} {g2 : Nat → Nat} {mo a1 : Nat} {h1 : Nat → Nat} {a2 : Nat} {h2 : Nat → Nat} {ou : Nat} (hP : va_P D vwCl (wAll cy x b1 g1 b2 g2 mo a1 h1 a2 h2 ou) H) {c : Nat} {i : Int} (hd : dmb 28 c i = true) : va_at D vwCl (adF x b1 g1 b2 g2 mo a1 h1 a2 h2 ou 28 c i, cel cy (adF x b1 g1 b2 g2 mo a1 h1 a2 h2 ou) M00 28 c i) H := by
  have hk9 : (c = 2 ∧ i = 0) ∨ (c = 3 ∧ i = 0) := by simp [dmb] at hd; omega
  rcases hk9 with ⟨rfl, rfl⟩ | ⟨rfl, rfl⟩
  · exact hP 72 _ rfl
  · exact hP 93 _ rfl
theorem s0_pos_28 {cy : Nat → ClassId} {x b1 : Nat} {g1 : Nat → Nat} {b2 : Nat} {g2 : Nat → Nat} {mo a1 : Nat} {h1 : Nat → Nat} {a2 : Nat} {h2 : Nat → Nat} {ou : Nat} {c : Nat} {i : Int} (hd : dmb 28 c i = true) : ∃ e9 : va_E, (wAll cy x b1 g1 b2 g2 mo a1 h1 a2 h2 ou)[posF 28 c i]? = some (adF x b1 g1 b2 g2 mo a1 h1 a2 h2 ou 28 c i, e9) := by
  have hk9 : (c = 2 ∧ i = 0) ∨ (c = 3 ∧ i = 0) := by simp [dmb] at hd; omega
  rcases hk9 with ⟨rfl, rfl⟩ | ⟨rfl, rfl⟩
  · exact ⟨_, rfl⟩
  · exact ⟨_, rfl⟩
set_option maxHeartbeats 2000000 in
theorem s0_at_29 {cy : Nat → ClassId} {D : va_G} {H : Heap} {x b1 : Nat} {g1 : Nat → Nat} {b2 : Nat} {g2 : Nat → Nat} {mo a1 : Nat} {h1 : Nat → Nat} {a2 : Nat} {h2 : Nat → Nat} {ou : Nat} (hP : va_P D vwCl (wAll cy x b1 g1 b2 g2 mo a1 h1 a2 h2 ou) H) {c : Nat} {i : Int} (hd : dmb 29 c i = true) : va_at D vwCl (adF x b1 g1 b2 g2 mo a1 h1 a2 h2 ou 29 c i, cel cy (adF x b1 g1 b2 g2 mo a1 h1 a2 h2 ou) M00 29 c i) H := by
  have hk9 : (c = 2 ∧ i = 0) ∨ (c = 3 ∧ i = 0) := by simp [dmb] at hd; omega
  rcases hk9 with ⟨rfl, rfl⟩ | ⟨rfl, rfl⟩
  · exact hP 73 _ rfl
  · exact hP 94 _ rfl
theorem s0_pos_29 {cy : Nat → ClassId} {x b1 : Nat} {g1 : Nat → Nat} {b2 : Nat} {g2 : Nat → Nat} {mo a1 : Nat} {h1 : Nat → Nat} {a2 : Nat} {h2 : Nat → Nat} {ou : Nat} {c : Nat} {i : Int} (hd : dmb 29 c i = true) : ∃ e9 : va_E, (wAll cy x b1 g1 b2 g2 mo a1 h1 a2 h2 ou)[posF 29 c i]? = some (adF x b1 g1 b2 g2 mo a1 h1 a2 h2 ou 29 c i, e9) := by
  have hk9 : (c = 2 ∧ i = 0) ∨ (c = 3 ∧ i = 0) := by simp [dmb] at hd; omega
  rcases hk9 with ⟨rfl, rfl⟩ | ⟨rfl, rfl⟩
  · exact ⟨_, rfl⟩
  · exact ⟨_, rfl⟩
set_option maxHeartbeats 2000000 in
theorem s0_at_30 {cy : Nat → ClassId} {D : va_G} {H : Heap} {x b1 : Nat} {g1 : Nat → Nat} {b2 : Nat} {g2 : Nat → Nat} {mo a1 : Nat} {h1 : Nat → Nat} {a2 : Nat} {h2 : Nat → Nat} {ou : Nat} (hP : va_P D vwCl (wAll cy x b1 g1 b2 g2 mo a1 h1 a2 h2 ou) H) {c : Nat} {i : Int} (hd : dmb 30 c i = true) : va_at D vwCl (adF x b1 g1 b2 g2 mo a1 h1 a2 h2 ou 30 c i, cel cy (adF x b1 g1 b2 g2 mo a1 h1 a2 h2 ou) M00 30 c i) H := by
  have hk9 : (c = 2 ∧ i = 0) ∨ (c = 3 ∧ i = 0) := by simp [dmb] at hd; omega
  rcases hk9 with ⟨rfl, rfl⟩ | ⟨rfl, rfl⟩
  · exact hP 74 _ rfl
  · exact hP 95 _ rfl
theorem s0_pos_30 {cy : Nat → ClassId} {x b1 : Nat} {g1 : Nat → Nat} {b2 : Nat} {g2 : Nat → Nat} {mo a1 : Nat} {h1 : Nat → Nat} {a2 : Nat} {h2 : Nat → Nat} {ou : Nat} {c : Nat} {i : Int} (hd : dmb 30 c i = true) : ∃ e9 : va_E, (wAll cy x b1 g1 b2 g2 mo a1 h1 a2 h2 ou)[posF 30 c i]? = some (adF x b1 g1 b2 g2 mo a1 h1 a2 h2 ou 30 c i, e9) := by
  have hk9 : (c = 2 ∧ i = 0) ∨ (c = 3 ∧ i = 0) := by simp [dmb] at hd; omega
  rcases hk9 with ⟨rfl, rfl⟩ | ⟨rfl, rfl⟩
  · exact ⟨_, rfl⟩
  · exact ⟨_, rfl⟩
set_option maxHeartbeats 2000000 in
theorem s0_at_31 {cy : Nat → ClassId} {D : va_G} {H : Heap} {x b1 : Nat} {g1 : Nat → Nat} {b2 : Nat} {g2 : Nat → Nat} {mo a1 : Nat} {h1 : Nat → Nat} {a2 : Nat} {h2 : Nat → Nat} {ou : Nat} (hP : va_P D vwCl (wAll cy x b1 g1 b2 g2 mo a1 h1 a2 h2 ou) H) {c : Nat} {i : Int} (hd : dmb 31 c i = true) : va_at D vwCl (adF x b1 g1 b2 g2 mo a1 h1 a2 h2 ou 31 c i, cel cy (adF x b1 g1 b2 g2 mo a1 h1 a2 h2 ou) M00 31 c i) H := by
  have hk9 : (c = 2 ∧ i = 0) ∨ (c = 3 ∧ i = 0) := by simp [dmb] at hd; omega
  rcases hk9 with ⟨rfl, rfl⟩ | ⟨rfl, rfl⟩
  · exact hP 75 _ rfl
  · exact hP 96 _ rfl
theorem s0_pos_31 {cy : Nat → ClassId} {x b1 : Nat} {g1 : Nat → Nat} {b2 : Nat} {g2 : Nat → Nat} {mo a1 : Nat} {h1 : Nat → Nat} {a2 : Nat} {h2 : Nat → Nat} {ou : Nat} {c : Nat} {i : Int} (hd : dmb 31 c i = true) : ∃ e9 : va_E, (wAll cy x b1 g1 b2 g2 mo a1 h1 a2 h2 ou)[posF 31 c i]? = some (adF x b1 g1 b2 g2 mo a1 h1 a2 h2 ou 31 c i, e9) := by
  have hk9 : (c = 2 ∧ i = 0) ∨ (c = 3 ∧ i = 0) := by simp [dmb] at hd; omega
  rcases hk9 with ⟨rfl, rfl⟩ | ⟨rfl, rfl⟩
  · exact ⟨_, rfl⟩
  · exact ⟨_, rfl⟩
set_option maxHeartbeats 2000000 in
theorem s0_at_32 {cy : Nat → ClassId} {D : va_G} {H : Heap} {x b1 : Nat} {g1 : Nat → Nat} {b2 : Nat} {g2 : Nat → Nat} {mo a1 : Nat} {h1 : Nat → Nat} {a2 : Nat} {h2 : Nat → Nat} {ou : Nat} (hP : va_P D vwCl (wAll cy x b1 g1 b2 g2 mo a1 h1 a2 h2 ou) H) {c : Nat} {i : Int} (hd : dmb 32 c i = true) : va_at D vwCl (adF x b1 g1 b2 g2 mo a1 h1 a2 h2 ou 32 c i, cel cy (adF x b1 g1 b2 g2 mo a1 h1 a2 h2 ou) M00 32 c i) H := by
  have hk9 : (c = 2 ∧ i = 0) ∨ (c = 3 ∧ i = 0) := by simp [dmb] at hd; omega
  rcases hk9 with ⟨rfl, rfl⟩ | ⟨rfl, rfl⟩
  · exact hP 76 _ rfl
  · exact hP 97 _ rfl
theorem s0_pos_32 {cy : Nat → ClassId} {x b1 : Nat} {g1 : Nat → Nat} {b2 : Nat} {g2 : Nat → Nat} {mo a1 : Nat} {h1 : Nat → Nat} {a2 : Nat} {h2 : Nat → Nat} {ou : Nat} {c : Nat} {i : Int} (hd : dmb 32 c i = true) : ∃ e9 : va_E, (wAll cy x b1 g1 b2 g2 mo a1 h1 a2 h2 ou)[posF 32 c i]? = some (adF x b1 g1 b2 g2 mo a1 h1 a2 h2 ou 32 c i, e9) := by
  have hk9 : (c = 2 ∧ i = 0) ∨ (c = 3 ∧ i = 0) := by simp [dmb] at hd; omega
  rcases hk9 with ⟨rfl, rfl⟩ | ⟨rfl, rfl⟩
  · exact ⟨_, rfl⟩
  · exact ⟨_, rfl⟩
set_option maxHeartbeats 2000000 in
theorem s0_at_33 {cy : Nat → ClassId} {D : va_G} {H : Heap} {x b1 : Nat} {g1 : Nat → Nat} {b2 : Nat} {g2 : Nat → Nat} {mo a1 : Nat} {h1 : Nat → Nat} {a2 : Nat} {h2 : Nat → Nat} {ou : Nat} (hP : va_P D vwCl (wAll cy x b1 g1 b2 g2 mo a1 h1 a2 h2 ou) H) {c : Nat} {i : Int} (hd : dmb 33 c i = true) : va_at D vwCl (adF x b1 g1 b2 g2 mo a1 h1 a2 h2 ou 33 c i, cel cy (adF x b1 g1 b2 g2 mo a1 h1 a2 h2 ou) M00 33 c i) H := by
  have hk9 : (c = 2 ∧ i = 0) ∨ (c = 3 ∧ i = 0) := by simp [dmb] at hd; omega
  rcases hk9 with ⟨rfl, rfl⟩ | ⟨rfl, rfl⟩
  · exact hP 77 _ rfl
  · exact hP 98 _ rfl
theorem s0_pos_33 {cy : Nat → ClassId} {x b1 : Nat} {g1 : Nat → Nat} {b2 : Nat} {g2 : Nat → Nat} {mo a1 : Nat} {h1 : Nat → Nat} {a2 : Nat} {h2 : Nat → Nat} {ou : Nat} {c : Nat} {i : Int} (hd : dmb 33 c i = true) : ∃ e9 : va_E, (wAll cy x b1 g1 b2 g2 mo a1 h1 a2 h2 ou)[posF 33 c i]? = some (adF x b1 g1 b2 g2 mo a1 h1 a2 h2 ou 33 c i, e9) := by
  have hk9 : (c = 2 ∧ i = 0) ∨ (c = 3 ∧ i = 0) := by simp [dmb] at hd; omega
  rcases hk9 with ⟨rfl, rfl⟩ | ⟨rfl, rfl⟩
  · exact ⟨_, rfl⟩
  · exact ⟨_, rfl⟩
set_option maxHeartbeats 2000000 in
theorem s0_at_34 {cy : Nat → ClassId} {D : va_G} {H : Heap} {x b1 : Nat} {g1 : Nat → Nat} {b2 : Nat} {g2 : Nat → Nat} {mo a1 : Nat} {h1 : Nat → Nat} {a2 : Nat} {h2 : Nat → Nat} {ou : Nat} (hP : va_P D vwCl (wAll cy x b1 g1 b2 g2 mo a1 h1 a2 h2 ou) H) {c : Nat} {i : Int} (hd : dmb 34 c i = true) : va_at D vwCl (adF x b1 g1 b2 g2 mo a1 h1 a2 h2 ou 34 c i, cel cy (adF x b1 g1 b2 g2 mo a1 h1 a2 h2 ou) M00 34 c i) H := by
  have hk9 : (c = 2 ∧ i = 0) ∨ (c = 3 ∧ i = 0) := by simp [dmb] at hd; omega
  rcases hk9 with ⟨rfl, rfl⟩ | ⟨rfl, rfl⟩
  · exact hP 78 _ rfl
  · exact hP 99 _ rfl
theorem s0_pos_34 {cy : Nat → ClassId} {x b1 : Nat} {g1 : Nat → Nat} {b2 : Nat} {g2 : Nat → Nat} {mo a1 : Nat} {h1 : Nat → Nat} {a2 : Nat} {h2 : Nat → Nat} {ou : Nat} {c : Nat} {i : Int} (hd : dmb 34 c i = true) : ∃ e9 : va_E, (wAll cy x b1 g1 b2 g2 mo a1 h1 a2 h2 ou)[posF 34 c i]? = some (adF x b1 g1 b2 g2 mo a1 h1 a2 h2 ou 34 c i, e9) := by
  have hk9 : (c = 2 ∧ i = 0) ∨ (c = 3 ∧ i = 0) := by simp [dmb] at hd; omega
  rcases hk9 with ⟨rfl, rfl⟩ | ⟨rfl, rfl⟩
  · exact ⟨_, rfl⟩
  · exact ⟨_, rfl⟩
set_option maxHeartbeats 2000000 in
theorem s0_at_35 {cy : Nat → ClassId} {D : va_G} {H : Heap} {x b1 : Nat} {g1 : Nat → Nat} {b2 : Nat} {g2 : Nat → Nat} {mo a1 : Nat} {h1 : Nat → Nat} {a2 : Nat} {h2 : Nat → Nat} {ou : Nat} (hP : va_P D vwCl (wAll cy x b1 g1 b2 g2 mo a1 h1 a2 h2 ou) H) {c : Nat} {i : Int} (hd : dmb 35 c i = true) : va_at D vwCl (adF x b1 g1 b2 g2 mo a1 h1 a2 h2 ou 35 c i, cel cy (adF x b1 g1 b2 g2 mo a1 h1 a2 h2 ou) M00 35 c i) H := by
  have hk9 : (c = 0 ∧ i = 0) := by simp [dmb] at hd; omega
  obtain ⟨rfl, rfl⟩ := hk9
  exact at_out (hP 100 _ rfl)
theorem s0_pos_35 {cy : Nat → ClassId} {x b1 : Nat} {g1 : Nat → Nat} {b2 : Nat} {g2 : Nat → Nat} {mo a1 : Nat} {h1 : Nat → Nat} {a2 : Nat} {h2 : Nat → Nat} {ou : Nat} {c : Nat} {i : Int} (hd : dmb 35 c i = true) : ∃ e9 : va_E, (wAll cy x b1 g1 b2 g2 mo a1 h1 a2 h2 ou)[posF 35 c i]? = some (adF x b1 g1 b2 g2 mo a1 h1 a2 h2 ou 35 c i, e9) := by
  have hk9 : (c = 0 ∧ i = 0) := by simp [dmb] at hd; omega
  obtain ⟨rfl, rfl⟩ := hk9
  exact ⟨_, rfl⟩
theorem s0_at {cy : Nat → ClassId} {D : va_G} {H : Heap} {x b1 : Nat} {g1 : Nat → Nat} {b2 : Nat} {g2 : Nat → Nat} {mo a1 : Nat} {h1 : Nat → Nat} {a2 : Nat} {h2 : Nat → Nat} {ou : Nat} (hP : va_P D vwCl (wAll cy x b1 g1 b2 g2 mo a1 h1 a2 h2 ou) H) {t c : Nat} {i : Int} (hd : dmb t c i = true) : va_at D vwCl (adF x b1 g1 b2 g2 mo a1 h1 a2 h2 ou t c i, cel cy (adF x b1 g1 b2 g2 mo a1 h1 a2 h2 ou) M00 t c i) H := by
  have ht := (dm_bd hd).1
  have hq : t = 0 ∨ t = 1 ∨ t = 2 ∨ t = 3 ∨ t = 4 ∨ t = 5 ∨ t = 6 ∨ t = 7 ∨ t = 8 ∨ t = 9 ∨ t = 10 ∨ t = 11 ∨ t = 12 ∨ t = 13 ∨ t = 14 ∨ t = 15 ∨ t = 16 ∨ t = 17 ∨ t = 18 ∨ t = 19 ∨ t = 20 ∨ t = 21 ∨ t = 22 ∨ t = 23 ∨ t = 24 ∨ t = 25 ∨ t = 26 ∨ t = 27 ∨ t = 28 ∨ t = 29 ∨ t = 30 ∨ t = 31 ∨ t = 32 ∨ t = 33 ∨ t = 34 ∨ t = 35 := by omega
  rcases hq with rfl | rfl | rfl | rfl | rfl | rfl | rfl | rfl | rfl | rfl | rfl | rfl | rfl | rfl | rfl | rfl | rfl | rfl | rfl | rfl | rfl | rfl | rfl | rfl | rfl | rfl | rfl | rfl | rfl | rfl | rfl | rfl | rfl | rfl | rfl | rfl
  · exact s0_at_0 hP hd
  · exact s0_at_1 hP hd
  · exact s0_at_2 hP hd
  · exact s0_at_3 hP hd
  · exact s0_at_4 hP hd
  · exact s0_at_5 hP hd
  · exact s0_at_6 hP hd
  · exact s0_at_7 hP hd
  · exact s0_at_8 hP hd
  · exact s0_at_9 hP hd
  · exact s0_at_10 hP hd
  · exact s0_at_11 hP hd
  · exact s0_at_12 hP hd
  · exact s0_at_13 hP hd
  · exact s0_at_14 hP hd
  · exact s0_at_15 hP hd
  · exact s0_at_16 hP hd
  · exact s0_at_17 hP hd
  · exact s0_at_18 hP hd
  · exact s0_at_19 hP hd
  · exact s0_at_20 hP hd
  · exact s0_at_21 hP hd
  · exact s0_at_22 hP hd
  · exact s0_at_23 hP hd
  · exact s0_at_24 hP hd
  · exact s0_at_25 hP hd
  · exact s0_at_26 hP hd
  · exact s0_at_27 hP hd
  · exact s0_at_28 hP hd
  · exact s0_at_29 hP hd
  · exact s0_at_30 hP hd
  · exact s0_at_31 hP hd
  · exact s0_at_32 hP hd
  · exact s0_at_33 hP hd
  · exact s0_at_34 hP hd
  · exact s0_at_35 hP hd
theorem s0_pos {cy : Nat → ClassId} {x b1 : Nat} {g1 : Nat → Nat} {b2 : Nat} {g2 : Nat → Nat} {mo a1 : Nat} {h1 : Nat → Nat} {a2 : Nat} {h2 : Nat → Nat} {ou : Nat} {t c : Nat} {i : Int} (hd : dmb t c i = true) : ∃ e9 : va_E, (wAll cy x b1 g1 b2 g2 mo a1 h1 a2 h2 ou)[posF t c i]? = some (adF x b1 g1 b2 g2 mo a1 h1 a2 h2 ou t c i, e9) := by
  have ht := (dm_bd hd).1
  have hq : t = 0 ∨ t = 1 ∨ t = 2 ∨ t = 3 ∨ t = 4 ∨ t = 5 ∨ t = 6 ∨ t = 7 ∨ t = 8 ∨ t = 9 ∨ t = 10 ∨ t = 11 ∨ t = 12 ∨ t = 13 ∨ t = 14 ∨ t = 15 ∨ t = 16 ∨ t = 17 ∨ t = 18 ∨ t = 19 ∨ t = 20 ∨ t = 21 ∨ t = 22 ∨ t = 23 ∨ t = 24 ∨ t = 25 ∨ t = 26 ∨ t = 27 ∨ t = 28 ∨ t = 29 ∨ t = 30 ∨ t = 31 ∨ t = 32 ∨ t = 33 ∨ t = 34 ∨ t = 35 := by omega
  rcases hq with rfl | rfl | rfl | rfl | rfl | rfl | rfl | rfl | rfl | rfl | rfl | rfl | rfl | rfl | rfl | rfl | rfl | rfl | rfl | rfl | rfl | rfl | rfl | rfl | rfl | rfl | rfl | rfl | rfl | rfl | rfl | rfl | rfl | rfl | rfl | rfl
  · exact s0_pos_0 hd
  · exact s0_pos_1 hd
  · exact s0_pos_2 hd
  · exact s0_pos_3 hd
  · exact s0_pos_4 hd
  · exact s0_pos_5 hd
  · exact s0_pos_6 hd
  · exact s0_pos_7 hd
  · exact s0_pos_8 hd
  · exact s0_pos_9 hd
  · exact s0_pos_10 hd
  · exact s0_pos_11 hd
  · exact s0_pos_12 hd
  · exact s0_pos_13 hd
  · exact s0_pos_14 hd
  · exact s0_pos_15 hd
  · exact s0_pos_16 hd
  · exact s0_pos_17 hd
  · exact s0_pos_18 hd
  · exact s0_pos_19 hd
  · exact s0_pos_20 hd
  · exact s0_pos_21 hd
  · exact s0_pos_22 hd
  · exact s0_pos_23 hd
  · exact s0_pos_24 hd
  · exact s0_pos_25 hd
  · exact s0_pos_26 hd
  · exact s0_pos_27 hd
  · exact s0_pos_28 hd
  · exact s0_pos_29 hd
  · exact s0_pos_30 hd
  · exact s0_pos_31 hd
  · exact s0_pos_32 hd
  · exact s0_pos_33 hd
  · exact s0_pos_34 hd
  · exact s0_pos_35 hd
theorem s0_world {cy : Nat → ClassId} {D : va_G} {H : Heap} {x b1 : Nat} {g1 : Nat → Nat} {b2 : Nat} {g2 : Nat → Nat} {mo a1 : Nat} {h1 : Nat → Nat} {a2 : Nat} {h2 : Nat → Nat} {ou : Nat} (hP : va_P D vwCl (wAll cy x b1 g1 b2 g2 mo a1 h1 a2 h2 ou) H) : va_P D vwCl (wsOf cy (adF x b1 g1 b2 g2 mo a1 h1 a2 h2 ou) M00) H := by
  intro k q hk
  unfold wsOf at hk
  rw [List.getElem?_map] at hk
  cases hk2 : keys[k]? with
  | none => rw [hk2] at hk; cases hk
  | some z =>
    rw [hk2] at hk
    obtain ⟨t, c, i⟩ := z
    cases hk
    exact s0_at hP (of_keys (List.mem_of_getElem? hk2))
theorem pos_nd : (keys.map fun k => posF k.1 k.2.1 k.2.2).Nodup := by decide +kernel
theorem pos_inj {t c t1 c1 : Nat} {i i1 : Int} (h : dmb t c i = true) (h1 : dmb t1 c1 i1 = true) (he : posF t c i = posF t1 c1 i1) : (t, c, i) = (t1, c1, i1) := by
  obtain ⟨k, hk⟩ := List.getElem?_of_mem (mem_keys h)
  obtain ⟨k1, hk1⟩ := List.getElem?_of_mem (mem_keys h1)
  have e1 : (keys.map fun k => posF k.1 k.2.1 k.2.2)[k]? = some (posF t c i) := by rw [List.getElem?_map, hk]; rfl
  have e2 : (keys.map fun k => posF k.1 k.2.1 k.2.2)[k1]? = some (posF t c i) := by rw [List.getElem?_map, hk1, he]; rfl
  have e3 := nd_inj pos_nd e1 e2
  subst e3
  exact Option.some.inj (hk.symm.trans hk1)
theorem s0_inj {cy : Nat → ClassId} {A : Nat → Prop} {x b1 : Nat} {g1 : Nat → Nat} {b2 : Nat} {g2 : Nat → Nat} {mo a1 : Nat} {h1 : Nat → Nat} {a2 : Nat} {h2 : Nat → Nat} {ou : Nat} (hD : va_D A (wAll cy x b1 g1 b2 g2 mo a1 h1 a2 h2 ou)) : Inj (adF x b1 g1 b2 g2 mo a1 h1 a2 h2 ou) ∧ ∀ (t c : Nat) (i : Int), dmb t c i = true → A (adF x b1 g1 b2 g2 mo a1 h1 a2 h2 ou t c i) := by
  refine ⟨fun t c i t1 c1 i1 z1 z2 he => ?_, fun t c i h => ?_⟩
  · obtain ⟨e8, q1⟩ := s0_pos (cy := cy) (x := x) (b1 := b1) (g1 := g1) (b2 := b2) (g2 := g2) (mo := mo) (a1 := a1) (h1 := h1) (a2 := a2) (h2 := h2) (ou := ou) z1
    obtain ⟨e9, q2⟩ := s0_pos (cy := cy) (x := x) (b1 := b1) (g1 := g1) (b2 := b2) (g2 := g2) (mo := mo) (a1 := a1) (h1 := h1) (a2 := a2) (h2 := h2) (ou := ou) z2
    exact pos_inj z1 z2 (hD.1 _ _ _ _ q1 q2 he)
  · obtain ⟨e9, q1⟩ := s0_pos (cy := cy) (x := x) (b1 := b1) (g1 := g1) (b2 := b2) (g2 := g2) (mo := mo) (a1 := a1) (h1 := h1) (a2 := a2) (h2 := h2) (ou := ou) h
    exact hD.2 _ _ q1
theorem s0_LI : LI 0 M00 := by
  refine ⟨rfl, ⟨fun i => by simp [M00, S0], fun i => by simp [M00, S0], fun i => by simp [M00, S0], fun i => by simp [M00, S0], fun i => by simp [M00, S0], fun i => by simp [M00, S0], fun i => by simp [M00, S0], fun i => ?_, rfl, fun i => by simp [M00, S0], fun i => by simp [M00, S0], fun i => by simp [M00, S0], fun i => by simp [M00, S0], fun i h1 h2 => ?_, by simp [M00, S0], fun i h => rfl⟩, ⟨fun i _ => ⟨rfl, rfl⟩, fun i _ => rfl, fun k i h1 h2 _ => ?_, fun k i h1 h2 _ => ?_⟩, by simp [M00, S0], ⟨fun i _ => ⟨rfl, rfl⟩, fun i _ => rfl, fun k i h1 h2 _ => ?_, fun k i h1 h2 _ => ?_⟩, by simp [M00, S0]⟩
  · show -1 ≤ (if i < 8 then (-1 : Int) else 0) ∧ (if i < 8 then (-1 : Int) else 0) ≤ 15
    split <;> omega
  · have h3 : i < (0 : Int) := h2
    omega
  · show S0 k i = 0
    unfold S0
    rw [if_neg (by omega)]
  · show S0 k i = 0
    unfold S0
    rw [if_neg (by omega)]
  · show S0 k i = 0
    unfold S0
    rw [if_neg (by omega)]
  · show S0 k i = 0
    unfold S0
    rw [if_neg (by omega)]
