/-! What holds between calls, kept by each step. -/
theorem Inv.p13 {S : St} (h : Inv S) : ∀ i, 0 ≤ S 13 i ∧ S 13 i ≤ 15 := h.1
theorem Inv.p14 {S : St} (h : Inv S) : ∀ i, 0 ≤ S 14 i ∧ S 14 i ≤ 20 := h.2.1
theorem Inv.p15 {S : St} (h : Inv S) : ∀ i, -1 ≤ S 15 i ∧ S 15 i ≤ 15 := h.2.2.1
theorem Inv.p16 {S : St} (h : Inv S) : ∀ i, 0 ≤ S 16 i ∧ S 16 i ≤ 7 := h.2.2.2.1
theorem Inv.p17 {S : St} (h : Inv S) : ∀ i, S 17 i = 0 ∨ S 17 i = 1 := h.2.2.2.2.1
theorem Inv.p18 {S : St} (h : Inv S) : ∀ i, 0 ≤ S 18 i ∧ S 18 i ≤ 2 := h.2.2.2.2.2.1
theorem Inv.p01 {S : St} (h : Inv S) : ∀ i, 0 ≤ S 1 i ∧ S 1 i ≤ S 0 i ∧ S 0 i ≤ 30 := h.2.2.2.2.2.2.1
theorem Inv.p2 {S : St} (h : Inv S) : ∀ i, -1 ≤ S 2 i ∧ S 2 i ≤ 15 := h.2.2.2.2.2.2.2.1
theorem Inv.p3 {S : St} (h : Inv S) : S 3 0 = 0 := h.2.2.2.2.2.2.2.2.1
theorem Inv.p4 {S : St} (h : Inv S) : ∀ i, 0 ≤ S 4 i ∧ S 4 i ≤ 15 := h.2.2.2.2.2.2.2.2.2.1
theorem Inv.p5 {S : St} (h : Inv S) : ∀ i, 0 ≤ S 5 i ∧ S 5 i ≤ 7 := h.2.2.2.2.2.2.2.2.2.2.1
theorem Inv.pw {S : St} (h : Inv S) : ∀ i, 0 ≤ S 7 i ∧ S 7 i ≤ S 10 i ∧ S 10 i ≤ S 8 i ∧ S 8 i ≤ 15 := h.2.2.2.2.2.2.2.2.2.2.2.1
theorem Inv.p9 {S : St} (h : Inv S) : ∀ i, 0 ≤ S 9 i ∧ S 9 i ≤ 3 := h.2.2.2.2.2.2.2.2.2.2.2.2.1
theorem Inv.p11 {S : St} (h : Inv S) : ∀ i, 0 ≤ i → i < S 20 2 → S 11 i = 1 ∨ S 11 i = -1 := h.2.2.2.2.2.2.2.2.2.2.2.2.2.1
theorem Inv.pc {S : St} (h : Inv S) : 0 ≤ S 20 0 ∧ 0 ≤ S 20 1 ∧ S 20 1 ≤ 5 ∧ 0 ≤ S 20 2 ∧ S 20 2 ≤ 4 ∧ 0 ≤ S 20 3 ∧ S 20 3 ≤ 6 := h.2.2.2.2.2.2.2.2.2.2.2.2.2.2.1
theorem Inv.pg {S : St} (h : Inv S) : ∀ i, S 18 i ≠ 0 → S 14 i = 0 := h.2.2.2.2.2.2.2.2.2.2.2.2.2.2.2
theorem inv0 {S : St} {b v : Int} (h : Inv S) (hv : S 1 b ≤ v ∧ v ≤ 30) : Inv (u2 S 0 b v) := by
  obtain ⟨p13, p14, p15, p16, p17, p18, p01, p2, p3, p4, p5, pw, p9, p11, pc, pg⟩ := h
  exact ⟨p13, p14, p15, p16, p17, p18, fun i => by have q := p01 i; have q2 := p01 b; by_cases e : i = b <;> simp [u2, e] at * <;> omega, p2, p3, p4, p5, pw, p9, p11, pc, pg⟩
theorem inv1 {S : St} {b v : Int} (h : Inv S) (hv : 0 ≤ v ∧ v ≤ S 0 b) : Inv (u2 S 1 b v) := by
  obtain ⟨p13, p14, p15, p16, p17, p18, p01, p2, p3, p4, p5, pw, p9, p11, pc, pg⟩ := h
  exact ⟨p13, p14, p15, p16, p17, p18, fun i => by have q := p01 i; have q2 := p01 b; by_cases e : i = b <;> simp [u2, e] at * <;> omega, p2, p3, p4, p5, pw, p9, p11, pc, pg⟩
theorem inv2 {S : St} {b v : Int} (h : Inv S) (hv : -1 ≤ v ∧ v ≤ 15) : Inv (u2 S 2 b v) := by
  obtain ⟨p13, p14, p15, p16, p17, p18, p01, p2, p3, p4, p5, pw, p9, p11, pc, pg⟩ := h
  exact ⟨p13, p14, p15, p16, p17, p18, p01, fun i => by have q := p2 i; by_cases e : i = b <;> simp [u2, e] at * <;> omega, p3, p4, p5, pw, p9, p11, pc, pg⟩
theorem inv3 {S : St} {b v : Int} (h : Inv S) (hv : b = 0 → v = 0) : Inv (u2 S 3 b v) := by
  obtain ⟨p13, p14, p15, p16, p17, p18, p01, p2, p3, p4, p5, pw, p9, p11, pc, pg⟩ := h
  exact ⟨p13, p14, p15, p16, p17, p18, p01, p2, (if e : (0 : Int) = b then by subst e; exact (u2_at _ _ _ _).trans (hv rfl) else (u2_i e).trans p3), p4, p5, pw, p9, p11, pc, pg⟩
theorem inv4 {S : St} {b v : Int} (h : Inv S) (hv : 0 ≤ v ∧ v ≤ 15) : Inv (u2 S 4 b v) := by
  obtain ⟨p13, p14, p15, p16, p17, p18, p01, p2, p3, p4, p5, pw, p9, p11, pc, pg⟩ := h
  exact ⟨p13, p14, p15, p16, p17, p18, p01, p2, p3, fun i => by have q := p4 i; by_cases e : i = b <;> simp [u2, e] at * <;> omega, p5, pw, p9, p11, pc, pg⟩
theorem inv5 {S : St} {b v : Int} (h : Inv S) (hv : 0 ≤ v ∧ v ≤ 7) : Inv (u2 S 5 b v) := by
  obtain ⟨p13, p14, p15, p16, p17, p18, p01, p2, p3, p4, p5, pw, p9, p11, pc, pg⟩ := h
  exact ⟨p13, p14, p15, p16, p17, p18, p01, p2, p3, p4, fun i => by have q := p5 i; by_cases e : i = b <;> simp [u2, e] at * <;> omega, pw, p9, p11, pc, pg⟩
theorem inv6 {S : St} {b v : Int} (h : Inv S)  : Inv (u2 S 6 b v) := by
  obtain ⟨p13, p14, p15, p16, p17, p18, p01, p2, p3, p4, p5, pw, p9, p11, pc, pg⟩ := h
  exact ⟨p13, p14, p15, p16, p17, p18, p01, p2, p3, p4, p5, pw, p9, p11, pc, pg⟩
theorem inv9 {S : St} {b v : Int} (h : Inv S) (hv : 0 ≤ v ∧ v ≤ 3) : Inv (u2 S 9 b v) := by
  obtain ⟨p13, p14, p15, p16, p17, p18, p01, p2, p3, p4, p5, pw, p9, p11, pc, pg⟩ := h
  exact ⟨p13, p14, p15, p16, p17, p18, p01, p2, p3, p4, p5, pw, fun i => by have q := p9 i; by_cases e : i = b <;> simp [u2, e] at * <;> omega, p11, pc, pg⟩
theorem inv10 {S : St} {b v : Int} (h : Inv S) (hv : S 7 b ≤ v ∧ v ≤ S 8 b) : Inv (u2 S 10 b v) := by
  obtain ⟨p13, p14, p15, p16, p17, p18, p01, p2, p3, p4, p5, pw, p9, p11, pc, pg⟩ := h
  exact ⟨p13, p14, p15, p16, p17, p18, p01, p2, p3, p4, p5, fun i => by have q := pw i; have q2 := pw b; by_cases e : i = b <;> simp [u2, e] at * <;> omega, p9, p11, pc, pg⟩
theorem inv11 {S : St} {b v : Int} (h : Inv S) (hv : v = 1 ∨ v = -1) : Inv (u2 S 11 b v) := by
  obtain ⟨p13, p14, p15, p16, p17, p18, p01, p2, p3, p4, p5, pw, p9, p11, pc, pg⟩ := h
  exact ⟨p13, p14, p15, p16, p17, p18, p01, p2, p3, p4, p5, pw, p9, fun i h1 h2 => by have q := p11 i h1 h2; by_cases e : i = b <;> simp [u2, e] at * <;> omega, pc, pg⟩
theorem inv12 {S : St} {b v : Int} (h : Inv S)  : Inv (u2 S 12 b v) := by
  obtain ⟨p13, p14, p15, p16, p17, p18, p01, p2, p3, p4, p5, pw, p9, p11, pc, pg⟩ := h
  exact ⟨p13, p14, p15, p16, p17, p18, p01, p2, p3, p4, p5, pw, p9, p11, pc, pg⟩
theorem inv13 {S : St} {b v : Int} (h : Inv S) (hv : 0 ≤ v ∧ v ≤ 15) : Inv (u2 S 13 b v) := by
  obtain ⟨p13, p14, p15, p16, p17, p18, p01, p2, p3, p4, p5, pw, p9, p11, pc, pg⟩ := h
  exact ⟨fun i => by have q := p13 i; by_cases e : i = b <;> simp [u2, e] at * <;> omega, p14, p15, p16, p17, p18, p01, p2, p3, p4, p5, pw, p9, p11, pc, pg⟩
theorem inv14 {S : St} {b v : Int} (h : Inv S) (hv : 0 ≤ v ∧ v ≤ 20) (hg : S 18 b ≠ 0 → v = 0) : Inv (u2 S 14 b v) := by
  obtain ⟨p13, p14, p15, p16, p17, p18, p01, p2, p3, p4, p5, pw, p9, p11, pc, pg⟩ := h
  exact ⟨p13, fun i => by have q := p14 i; by_cases e : i = b <;> simp [u2, e] at * <;> omega, p15, p16, p17, p18, p01, p2, p3, p4, p5, pw, p9, p11, pc, fun i hi => (if e : i = b then by subst e; exact (u2_at _ _ _ _).trans (hg hi) else (u2_i e).trans (pg i hi))⟩
theorem inv15 {S : St} {b v : Int} (h : Inv S) (hv : -1 ≤ v ∧ v ≤ 15) : Inv (u2 S 15 b v) := by
  obtain ⟨p13, p14, p15, p16, p17, p18, p01, p2, p3, p4, p5, pw, p9, p11, pc, pg⟩ := h
  exact ⟨p13, p14, fun i => by have q := p15 i; by_cases e : i = b <;> simp [u2, e] at * <;> omega, p16, p17, p18, p01, p2, p3, p4, p5, pw, p9, p11, pc, pg⟩
theorem inv16 {S : St} {b v : Int} (h : Inv S) (hv : 0 ≤ v ∧ v ≤ 7) : Inv (u2 S 16 b v) := by
  obtain ⟨p13, p14, p15, p16, p17, p18, p01, p2, p3, p4, p5, pw, p9, p11, pc, pg⟩ := h
  exact ⟨p13, p14, p15, fun i => by have q := p16 i; by_cases e : i = b <;> simp [u2, e] at * <;> omega, p17, p18, p01, p2, p3, p4, p5, pw, p9, p11, pc, pg⟩
theorem inv17 {S : St} {b v : Int} (h : Inv S) (hv : v = 0 ∨ v = 1) : Inv (u2 S 17 b v) := by
  obtain ⟨p13, p14, p15, p16, p17, p18, p01, p2, p3, p4, p5, pw, p9, p11, pc, pg⟩ := h
  exact ⟨p13, p14, p15, p16, fun i => by have q := p17 i; by_cases e : i = b <;> simp [u2, e] at * <;> omega, p18, p01, p2, p3, p4, p5, pw, p9, p11, pc, pg⟩
theorem inv18 {S : St} {b v : Int} (h : Inv S) (hv : 0 ≤ v ∧ v ≤ 2) (hg : S 14 b = 0) : Inv (u2 S 18 b v) := by
  obtain ⟨p13, p14, p15, p16, p17, p18, p01, p2, p3, p4, p5, pw, p9, p11, pc, pg⟩ := h
  exact ⟨p13, p14, p15, p16, p17, fun i => by have q := p18 i; by_cases e : i = b <;> simp [u2, e] at * <;> omega, p01, p2, p3, p4, p5, pw, p9, p11, pc, fun i hi => (if e : i = b then by subst e; exact hg else pg i (fun z => hi ((u2_i e).trans z)))⟩
theorem inv19 {S : St} {b v : Int} (h : Inv S)  : Inv (u2 S 19 b v) := by
  obtain ⟨p13, p14, p15, p16, p17, p18, p01, p2, p3, p4, p5, pw, p9, p11, pc, pg⟩ := h
  exact ⟨p13, p14, p15, p16, p17, p18, p01, p2, p3, p4, p5, pw, p9, p11, pc, pg⟩
theorem inv20h {S : St} {v : Int} (h : Inv S) (hv : 0 ≤ v) : Inv (u2 S 20 0 v) := by
  obtain ⟨p13, p14, p15, p16, p17, p18, p01, p2, p3, p4, p5, pw, p9, p11, pc, pg⟩ := h
  exact ⟨p13, p14, p15, p16, p17, p18, p01, p2, p3, p4, p5, pw, p9, p11, ⟨hv, pc.2⟩, pg⟩
theorem inv204 {S : St} {v : Int} (h : Inv S) : Inv (u2 S 20 4 v) := by
  obtain ⟨p13, p14, p15, p16, p17, p18, p01, p2, p3, p4, p5, pw, p9, p11, pc, pg⟩ := h
  exact ⟨p13, p14, p15, p16, p17, p18, p01, p2, p3, p4, p5, pw, p9, p11, pc, pg⟩
theorem inv205 {S : St} {v : Int} (h : Inv S) : Inv (u2 S 20 5 v) := by
  obtain ⟨p13, p14, p15, p16, p17, p18, p01, p2, p3, p4, p5, pw, p9, p11, pc, pg⟩ := h
  exact ⟨p13, p14, p15, p16, p17, p18, p01, p2, p3, p4, p5, pw, p9, p11, pc, pg⟩
theorem shw_bd {S : St} (h : Inv S) (l : Int) : 0 ≤ shw S l ∧ shw S l ≤ 7 := h.p5 _
/-! which kinds a step leaves -/
theorem noteS_k {S : St} {l : Int} {k : Nat} {i : Int} (h3 : k ≠ 3) (h6 : k ≠ 6) : noteS S l k i = S k i := by
  unfold noteS
  split
  · rfl
  · rw [u2_k h6, u2_k h3]
theorem noteN_k {S : St} {k : Nat} {i : Int} (h3 : k ≠ 3) (h6 : k ≠ 6) : ∀ n : Nat, noteN S n k i = S k i
  | 0 => rfl
  | n + 1 => (noteS_k h3 h6).trans (noteN_k h3 h6 n)
theorem noteS_inv {S : St} (h : Inv S) (l : Int) : Inv (noteS S l) := by
  unfold noteS
  split
  · exact h
  · rename_i h1
    exact inv6 (inv3 h (fun e => absurd (Or.inl e) h1))
theorem noteN_inv {S : St} (h : Inv S) : ∀ n : Nat, Inv (noteN S n)
  | 0 => h
  | n + 1 => noteS_inv (noteN_inv h n) _
theorem unlM_bd {S : St} (h : Inv S) (b : Int) : 0 ≤ unlM S b ∧ unlM S b ≤ S 14 b ∧ unlM S b ≤ S 0 (S 13 b) - S 1 (S 13 b) ∧ unlM S b ≤ 4 := by
  have h1 := h.p14 b
  have h2 := h.p01 (S 13 b)
  unfold unlM
  omega
theorem unlS_inv {S : St} (h : Inv S) (b : Int) (h0 : S 18 b = 0) : Inv (unlS S b) := by
  have h1 := unlM_bd h b
  have h2 := h.p14 b
  have h3 := h.p01 (S 13 b)
  have g1 : Inv (u2 S 1 (S 13 b) (S 1 (S 13 b) + unlM S b)) := inv1 h (by omega)
  have g2 : Inv (u2 (u2 S 1 (S 13 b) (S 1 (S 13 b) + unlM S b)) 14 b (S 14 b - unlM S b)) := inv14 g1 (by omega) (fun e => absurd (by rw [u2_k (by decide)]; exact h0) e)
  have g3 := inv19 (b := b) (v := S 19 b + unlM S b) g2
  unfold unlS
  try dsimp only
  split
  · rename_i h4
    exact inv18 g3 (by decide) (by rw [u2_k (by decide), u2_at]; exact h4)
  · exact g3
theorem unlS_k {S : St} {b : Int} {k : Nat} {i : Int} (h1 : k ≠ 1) (h2 : k ≠ 14) (h3 : k ≠ 19) (h4 : k ≠ 18) : unlS S b k i = S k i := by
  unfold unlS
  try dsimp only
  split
  · rw [u2_k h4, u2_k h3, u2_k h2, u2_k h1]
  · rw [u2_k h3, u2_k h2, u2_k h1]
theorem bst_bd {S : St} {b : Int} : ∀ n : Nat, bst S b n = -1 ∨ (0 ≤ bst S b n ∧ bst S b n < n ∧ shw S (bst S b n) ≠ 0 ∧ S 2 (shw S (bst S b n)) ≠ -1)
  | 0 => Or.inl rfl
  | n + 1 => by
    have h := bst_bd (S := S) (b := b) n
    unfold bst
    split
    · rcases h with h | h
      · exact Or.inl h
      · exact Or.inr ⟨h.1, by omega, h.2.2⟩
    · rename_i h1
      refine Or.inr ⟨by omega, by omega, fun e => h1 (Or.inl e), fun e => h1 (Or.inr (Or.inl e))⟩
theorem readS_inv {S : St} (h : Inv S) (b : Int) : Inv (readS S b) := by
  unfold readS
  split
  · exact h
  · exact inv15 (inv16 h (shw_bd h _)) (h.p2 _)
theorem readS_k {S : St} {b : Int} {k : Nat} {i : Int} (h1 : k ≠ 15) (h2 : k ≠ 16) : readS S b k i = S k i := by
  unfold readS
  split
  · rfl
  · rw [u2_k h1, u2_k h2]
theorem mvS_inv {S : St} (h : Inv S) (b : Int) : Inv (mvS S b) := by
  have h1 := h.p13 b
  have h2 := h.p15 b
  unfold mvS
  split
  · exact h
  · exact inv13 h (by omega)
theorem mvS_k {S : St} {b : Int} {k : Nat} {i : Int} (h1 : k ≠ 13) : mvS S b k i = S k i := by
  unfold mvS
  split
  · rfl
  · rw [u2_k h1]
theorem sailS_inv {S : St} (h : Inv S) (b : Int) : Inv (sailS S b) := by
  unfold sailS
  split
  · exact mvS_inv (readS_inv h b) b
  · exact mvS_inv h b
theorem sailS_k {S : St} {b : Int} {k : Nat} {i : Int} (h1 : k ≠ 13) (h2 : k ≠ 15) (h3 : k ≠ 16) : sailS S b k i = S k i := by
  unfold sailS
  rw [mvS_k h1]
  split
  · exact readS_k h2 h3
  · rfl
theorem boatS_inv {S : St} (h : Inv S) (b : Int) : Inv (boatS S b) := by
  unfold boatS
  split
  · exact h
  · rename_i h1
    split
    · exact unlS_inv h b (by omega)
    · exact sailS_inv h b
theorem boatS_k {S : St} {b : Int} {k : Nat} {i : Int} (h1 : k ≠ 1) (h2 : k ≠ 14) (h3 : k ≠ 19) (h4 : k ≠ 18) (h5 : k ≠ 13) (h6 : k ≠ 15) (h7 : k ≠ 16) : boatS S b k i = S k i := by
  unfold boatS
  split
  · rfl
  · split
    · exact unlS_k h1 h2 h3 h4
    · exact sailS_k h5 h6 h7
theorem boatN_inv {S : St} (h : Inv S) : ∀ n : Nat, Inv (boatN S n)
  | 0 => h
  | n + 1 => boatS_inv (boatN_inv h n) _
theorem boatN_k {S : St} {k : Nat} {i : Int} (h1 : k ≠ 1) (h2 : k ≠ 14) (h3 : k ≠ 19) (h4 : k ≠ 18) (h5 : k ≠ 13) (h6 : k ≠ 15) (h7 : k ≠ 16) : ∀ n : Nat, boatN S n k i = S k i
  | 0 => rfl
  | n + 1 => (boatS_k h1 h2 h3 h4 h5 h6 h7).trans (boatN_k h1 h2 h3 h4 h5 h6 h7 n)
theorem walkS_inv {S : St} (h : Inv S) {w : Int} (h0 : 0 ≤ w) (h1 : w < S 20 2) : Inv (walkS S w) := by
  have h2 := h.pw w
  have h3 := h.p11 w h0 h1
  unfold walkS
  split
  · exact h
  · unfold wg
    refine inv10 (inv11 h ?_) ?_
    · repeat' split
      all_goals omega
    · rw [u2_k (by decide), u2_k (by decide)]
      repeat' split
      all_goals omega
theorem walkS_k {S : St} {w : Int} {k : Nat} {i : Int} (h1 : k ≠ 10) (h2 : k ≠ 11) : walkS S w k i = S k i := by
  unfold walkS
  split
  · rfl
  · try dsimp only
    rw [u2_k h1, u2_k h2]
theorem catS_inv {S : St} (h : Inv S) (w b : Int) : Inv (catS S w b) := by
  unfold catS
  have g1 : Inv (u2 (u2 S 20 4 (S 20 4 + S 14 b)) 14 b 0) := inv14 (inv204 h) (by decide) (fun _ => rfl)
  exact inv12 (inv18 g1 (by decide) (u2_at _ _ _ _))
theorem catS_ref {S : St} {w b v z : Int} (hv : v = S 20 4 + S 14 b) (hz : z = S 12 w + 1) : u2 (u2 (u2 (u2 S 18 b 2) 20 4 v) 14 b 0) 12 w z = catS S w b := by
  subst hv; subst hz
  unfold catS
  rw [u2_comm S (Or.inl (by decide : (18 : Nat) ≠ 20)), u2_comm _ (Or.inl (by decide : (18 : Nat) ≠ 14))]
theorem catS_k {S : St} {w b : Int} {k : Nat} {i : Int} (h1 : k ≠ 12) (h2 : k ≠ 18) (h3 : k ≠ 14) (h4 : k ≠ 20 ∨ i ≠ 4) : catS S w b k i = S k i := by
  unfold catS
  rw [u2_k h1, u2_k h2, u2_k h3]
  rcases h4 with h4 | h4
  · exact u2_k h4
  · exact u2_i h4
theorem seizeS_inv {S : St} (h : Inv S) (w : Int) : Inv (seizeS S w) := by
  unfold seizeS
  split
  · exact h
  · exact catS_inv h _ _
theorem seizeS_k {S : St} {w : Int} {k : Nat} {i : Int} (h1 : k ≠ 12) (h2 : k ≠ 18) (h3 : k ≠ 14) (h4 : k ≠ 20 ∨ i ≠ 4) : seizeS S w k i = S k i := by
  unfold seizeS
  split
  · rfl
  · exact catS_k h1 h2 h3 h4
theorem watchS_inv {S : St} (h : Inv S) {w : Int} (h0 : 0 ≤ w) (h1 : w < S 20 2) : Inv (watchS S w) := seizeS_inv (walkS_inv h h0 h1) w
theorem watchS_k {S : St} {w : Int} {k : Nat} {i : Int} (h1 : k ≠ 12) (h2 : k ≠ 18) (h3 : k ≠ 14) (h4 : k ≠ 20 ∨ i ≠ 4) (h5 : k ≠ 10) (h6 : k ≠ 11) : watchS S w k i = S k i := (seizeS_k h1 h2 h3 h4).trans (walkS_k h5 h6)
theorem watchN_k {S : St} {k : Nat} {i : Int} (h1 : k ≠ 12) (h2 : k ≠ 18) (h3 : k ≠ 14) (h4 : k ≠ 20 ∨ i ≠ 4) (h5 : k ≠ 10) (h6 : k ≠ 11) : ∀ n : Nat, watchN S n k i = S k i
  | 0 => rfl
  | n + 1 => (watchS_k h1 h2 h3 h4 h5 h6).trans (watchN_k h1 h2 h3 h4 h5 h6 n)
theorem watchN_inv {S : St} (h : Inv S) : ∀ n : Nat, (n : Int) ≤ S 20 2 → Inv (watchN S n)
  | 0, _ => h
  | n + 1, hn => watchS_inv (watchN_inv h n (by omega)) (by omega) (by rw [watchN_k (by decide) (by decide) (by decide) (Or.inr (by decide)) (by decide) (by decide)]; omega)
theorem go1_inv {S : St} (h : Inv S) : Inv (go1 S) := noteN_inv h _
theorem go1_k {S : St} {k : Nat} {i : Int} (h3 : k ≠ 3) (h6 : k ≠ 6) : go1 S k i = S k i := noteN_k h3 h6 _
theorem go2_inv {S : St} (h : Inv S) : Inv (go2 S) := boatN_inv (go1_inv h) _
theorem go2_20 {S : St} {i : Int} : go2 S 20 i = S 20 i := by
  unfold go2
  rw [boatN_k (by decide) (by decide) (by decide) (by decide) (by decide) (by decide) (by decide), go1_k (by decide) (by decide)]
theorem go3_inv {S : St} (h : Inv S) : Inv (go3 S) := by
  have h1 := h.pc
  exact watchN_inv (go2_inv h) _ (by rw [go2_20]; omega)
theorem go3_20 {S : St} {i : Int} (hi : i ≠ 4) : go3 S 20 i = S 20 i := by
  unfold go3
  rw [watchN_k (by decide) (by decide) (by decide) (Or.inr hi) (by decide) (by decide), go2_20]
theorem go_inv {S : St} (h : Inv S) : Inv (go S) := inv20h (go3_inv h) (by have := h.pc; omega)
theorem go_hour (S : St) : go S 20 0 = S 20 0 + 1 := u2_at _ _ _ _
theorem go_20 {S : St} {i : Int} (h0 : i ≠ 0) (h4 : i ≠ 4) : go S 20 i = S 20 i := by
  unfold go
  rw [u2_i h0, go3_20 h4]
theorem goN_inv {S : St} (h : Inv S) : ∀ n : Nat, Inv (goN S n)
  | 0 => h
  | n + 1 => go_inv (goN_inv h n)
theorem goN_hour (S : St) : ∀ n : Nat, goN S n 20 0 = S 20 0 + n
  | 0 => by show S 20 0 = _; omega
  | n + 1 => by
    show go (goN S n) 20 0 = _
    rw [go_hour, goN_hour S n]
    omega
theorem goN_20 {S : St} {i : Int} (h0 : i ≠ 0) (h4 : i ≠ 4) : ∀ n : Nat, goN S n 20 i = S 20 i
  | 0 => rfl
  | n + 1 => (go_20 h0 h4).trans (goN_20 h0 h4 n)
theorem mo_eq {S S' : St} (h : S' 20 0 = S 20 0) : mo S' = mo S := by unfold mo; rw [h]
theorem hn_eq {S S' : St} (h : S' 20 0 = S 20 0) : hn S' = hn S := by unfold hn; rw [h]
theorem shw_eq {S S' : St} (h : S' 20 0 = S 20 0) (h5 : ∀ i, S' 5 i = S 5 i) (l : Int) : shw S' l = shw S l := by unfold shw; rw [hn_eq h, h5]
theorem fst_bd (P : Int → Bool) : ∀ n : Nat, fstB P n = -1 ∨ (0 ≤ fstB P n ∧ fstB P n < n)
  | 0 => Or.inl rfl
  | n + 1 => by
    have h := fst_bd P n
    unfold fstB
    split
    · rcases h with h | h
      · exact Or.inl h
      · exact Or.inr ⟨h.1, by omega⟩
    · split
      · exact Or.inr ⟨by omega, by omega⟩
      · exact Or.inl rfl
theorem fst_none {P : Int → Bool} : ∀ {n : Nat}, (∀ i : Int, 0 ≤ i → i < n → P i = false) → fstB P n = -1
  | 0, _ => rfl
  | n + 1, h => by
    unfold fstB
    rw [fst_none (fun i h1 h2 => h i h1 (by omega)), h n (by omega) (by omega)]
    simp
theorem fst_at {P : Int → Bool} {j : Int} (h0 : 0 ≤ j) (hP : P j = true) (hb : ∀ i : Int, 0 ≤ i → i < j → P i = false) : ∀ {n : Nat}, j < n → fstB P n = j
  | 0, h => by omega
  | n + 1, h => by
    unfold fstB
    by_cases e : j = (n : Int)
    · subst e
      rw [fst_none hb, hP]
      simp
    · rw [fst_at h0 hP hb (by omega)]
      rw [if_pos (by omega)]
