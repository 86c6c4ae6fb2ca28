/-! More facts: what lies beyond the counts stays nothing; what is unloaded in hours. -/
theorem dead_u2 {S : St} {k : Nat} {i v : Int} (h : Dead S) (h4 : (k = 4 ∨ k = 6) → i < S 20 1) (h5 : k = 5 → i < 10 * S 20 1) (h7 : (7 ≤ k ∧ k ≤ 12) → i < S 20 2) (h13 : (13 ≤ k ∧ k ≤ 19) → i < S 20 3) (h20 : k = 20 → i ≠ 1 ∧ i ≠ 2 ∧ i ≠ 3) : Dead (u2 S k i v) := by
  have e1 : u2 S k i v 20 1 = S 20 1 := if_neg (fun z => (h20 z.1.symm).1 z.2.symm)
  have e2 : u2 S k i v 20 2 = S 20 2 := if_neg (fun z => (h20 z.1.symm).2.1 z.2.symm)
  have e3 : u2 S k i v 20 3 = S 20 3 := if_neg (fun z => (h20 z.1.symm).2.2 z.2.symm)
  obtain ⟨a, b, c, d⟩ := h
  refine ⟨fun j hj => ?_, fun j hj => ?_, fun q j h1 h2 hj => ?_, fun q j h1 h2 hj => ?_⟩
  · rw [e1] at hj
    exact ⟨(if_neg (fun z => by have := h4 (Or.inl z.1.symm); omega)).trans (a j hj).1, (if_neg (fun z => by have := h4 (Or.inr z.1.symm); omega)).trans (a j hj).2⟩
  · rw [e1] at hj
    exact (if_neg (fun z => by have := h5 z.1.symm; omega)).trans (b j hj)
  · rw [e2] at hj
    exact (if_neg (fun z => by have := h7 (by omega); omega)).trans (c q j h1 h2 hj)
  · rw [e3] at hj
    exact (if_neg (fun z => by have := h13 (by omega); omega)).trans (d q j h1 h2 hj)
theorem noteS_dead {S : St} (h : Dead S) {l : Int} (hl : l < S 20 1) : Dead (noteS S l) := by
  unfold noteS
  split
  · exact h
  · refine dead_u2 (dead_u2 h ?_ ?_ ?_ ?_ ?_) ?_ ?_ ?_ ?_ ?_
    all_goals first | (intro z; omega) | (intro z; rw [u2_k (by decide)]; omega)
theorem noteN_dead {S : St} (h : Dead S) : ∀ n : Nat, (n : Int) ≤ S 20 1 → Dead (noteN S n)
  | 0, _ => h
  | n + 1, hn => noteS_dead (noteN_dead h n (by omega)) (by rw [noteN_k (by decide) (by decide)]; omega)
theorem unlS_dead {S : St} (h : Dead S) {b : Int} (hb : b < S 20 3) : Dead (unlS S b) := by
  have g1 : Dead (u2 S 1 (S 13 b) (S 1 (S 13 b) + unlM S b)) := dead_u2 h (by omega) (by omega) (by omega) (by omega) (by omega)
  have g2 : Dead (u2 (u2 S 1 (S 13 b) (S 1 (S 13 b) + unlM S b)) 14 b (S 14 b - unlM S b)) := dead_u2 g1 (by omega) (by omega) (by omega) (fun _ => hb) (by omega)
  have g3 : Dead (u2 (u2 (u2 S 1 (S 13 b) (S 1 (S 13 b) + unlM S b)) 14 b (S 14 b - unlM S b)) 19 b (S 19 b + unlM S b)) := dead_u2 g2 (by omega) (by omega) (by omega) (fun _ => hb) (by omega)
  unfold unlS
  try dsimp only
  split
  · exact dead_u2 g3 (by omega) (by omega) (by omega) (fun _ => hb) (by omega)
  · exact g3
theorem readS_dead {S : St} (h : Dead S) {b : Int} (hb : b < S 20 3) : Dead (readS S b) := by
  unfold readS
  split
  · exact h
  · exact dead_u2 (dead_u2 h (by omega) (by omega) (by omega) (fun _ => hb) (by omega)) (by omega) (by omega) (by omega) (fun _ => hb) (by omega)
theorem mvS_dead {S : St} (h : Dead S) {b : Int} (hb : b < S 20 3) : Dead (mvS S b) := by
  unfold mvS
  split
  · exact h
  · exact dead_u2 h (by omega) (by omega) (by omega) (fun _ => hb) (by omega)
theorem sailS_dead {S : St} (h : Dead S) {b : Int} (hb : b < S 20 3) : Dead (sailS S b) := by
  unfold sailS
  split
  · exact mvS_dead (readS_dead h hb) (by rw [readS_k (by decide) (by decide)]; exact hb)
  · exact mvS_dead h hb
theorem boatS_dead {S : St} (h : Dead S) {b : Int} (hb : b < S 20 3) : Dead (boatS S b) := by
  unfold boatS
  split
  · exact h
  · split
    · exact unlS_dead h hb
    · exact sailS_dead h hb
theorem boatN_dead {S : St} (h : Dead S) : ∀ n : Nat, (n : Int) ≤ S 20 3 → Dead (boatN S n)
  | 0, _ => h
  | n + 1, hn => boatS_dead (boatN_dead h n (by omega)) (by rw [boatN_k (by decide) (by decide) (by decide) (by decide) (by decide) (by decide) (by decide)]; omega)
theorem walkS_dead {S : St} (h : Dead S) {w : Int} (hw : w < S 20 2) : Dead (walkS S w) := by
  unfold walkS
  split
  · exact h
  · exact dead_u2 (dead_u2 h (by omega) (by omega) (fun _ => hw) (by omega) (by omega)) (by omega) (by omega) (fun _ => hw) (by omega) (by omega)
theorem catS_dead {S : St} (h : Dead S) {w b : Int} (hw : w < S 20 2) (hb : b < S 20 3) : Dead (catS S w b) := by
  unfold catS
  have g1 : Dead (u2 S 20 4 (S 20 4 + S 14 b)) := dead_u2 h (by omega) (by omega) (by omega) (by omega) (by omega)
  have g2 : Dead (u2 (u2 S 20 4 (S 20 4 + S 14 b)) 14 b 0) := dead_u2 g1 (by omega) (by omega) (by omega) (fun _ => hb) (by omega)
  have g3 : Dead (u2 (u2 (u2 S 20 4 (S 20 4 + S 14 b)) 14 b 0) 18 b 2) := dead_u2 g2 (by omega) (by omega) (by omega) (fun _ => hb) (by omega)
  exact dead_u2 g3 (by omega) (by omega) (fun _ => hw) (by omega) (by omega)
theorem seizeS_dead {S : St} (hp : 0 ≤ S 20 3) (h : Dead S) {w : Int} (hw : w < S 20 2) : Dead (seizeS S w) := by
  unfold seizeS
  split
  · exact h
  · refine catS_dead h hw ?_
    have := fst_bd (catB S w) (S 20 3).toNat
    omega
theorem watchS_dead {S : St} (hp : 0 ≤ S 20 3) (h : Dead S) {w : Int} (hw : w < S 20 2) : Dead (watchS S w) := by
  refine seizeS_dead ?_ (walkS_dead h hw) ?_
  · rw [walkS_k (by decide) (by decide)]; exact hp
  · rw [walkS_k (by decide) (by decide)]; exact hw
theorem watchN_dead {S : St} (hp : 0 ≤ S 20 3) (h : Dead S) : ∀ n : Nat, (n : Int) ≤ S 20 2 → Dead (watchN S n)
  | 0, _ => h
  | n + 1, hn => by
    refine watchS_dead ?_ (watchN_dead hp h n (by omega)) ?_
    · rw [watchN_k (by decide) (by decide) (by decide) (Or.inr (by decide)) (by decide) (by decide)]; exact hp
    · rw [watchN_k (by decide) (by decide) (by decide) (Or.inr (by decide)) (by decide) (by decide)]; omega
theorem go_dead {S : St} (hI : Inv S) (h : Dead S) : Dead (go S) := by
  have ic := hI.pc
  have g1 : Dead (go1 S) := noteN_dead h _ (by omega)
  have e1 : ∀ i, go1 S 20 i = S 20 i := fun i => go1_k (by decide) (by decide)
  have g2 : Dead (go2 S) := boatN_dead g1 _ (by rw [e1]; omega)
  have g3 : Dead (go3 S) := watchN_dead (by rw [go2_20]; omega) g2 _ (by rw [go2_20]; omega)
  exact dead_u2 g3 (by omega) (by omega) (by omega) (by omega) (by omega)
theorem goN_dead {S : St} (hI : Inv S) (h : Dead S) : ∀ n : Nat, Dead (goN S n)
  | 0 => h
  | n + 1 => go_dead (goN_inv hI n) (goN_dead hI h n)
theorem sendS_dead {S : St} (h : Dead S) {b q : Int} (hb : b < S 20 3) : Dead (sendS S b q) := by
  unfold sendS
  have g1 : Dead (u2 S 15 b q) := dead_u2 h (by omega) (by omega) (by omega) (fun _ => hb) (by omega)
  have g2 : Dead (u2 (u2 S 15 b q) 17 b (if q = -1 then 1 else 0)) := dead_u2 g1 (by omega) (by omega) (by omega) (fun _ => hb) (by omega)
  exact dead_u2 g2 (by omega) (by omega) (by omega) (fun _ => hb) (by omega)
theorem sm_upd {f g : Int → Int} {b v : Int} (h0 : 0 ≤ b) (hb : g b = f b + v) (ho : ∀ i, i ≠ b → g i = f i) : ∀ n : Nat, sm g n = sm f n + (if b < n then v else 0)
  | 0 => by
    show (0 : Int) = 0 + _
    rw [if_neg (by omega)]
    rfl
  | n + 1 => by
    show sm g n + g n = sm f n + f n + _
    rw [sm_upd h0 hb ho n]
    by_cases e : (n : Int) = b
    · rw [if_neg (by omega), if_pos (by omega), e, hb]; omega
    · rw [ho n e]
      by_cases h : b < n
      · rw [if_pos h, if_pos (by omega)]; omega
      · rw [if_neg h, if_neg (by omega)]; omega
theorem boatS_19 {S : St} {b : Int} (h0 : 0 ≤ b) {n : Nat} (hn : b < n) : sm (boatS S b 19) n = sm (S 19) n + (if there S b = true then unlM S b else 0) := by
  unfold boatS there
  by_cases h1 : S 18 b = 0
  · rw [if_neg (by omega)]
    by_cases h2 : S 15 b = S 13 b
    · rw [if_pos h2]
      rw [sm_upd (f := S 19) (g := unlS S b 19) (b := b) (v := unlM S b) h0 ?_ ?_ n, if_pos hn, if_pos (by simp [h1, h2])]
      · unfold unlS
        try dsimp only
        split
        · rw [u2_k (by decide), u2_at]
        · rw [u2_at]
      · intro i hi
        unfold unlS
        try dsimp only
        split
        · rw [u2_k (by decide), u2_i hi, u2_k (by decide), u2_k (by decide)]
        · rw [u2_i hi, u2_k (by decide), u2_k (by decide)]
    · rw [if_neg h2, if_neg (by simp [h2])]
      rw [sm_congr (f := sailS S b 19) (g := S 19) (fun i _ _ => sailS_k (by decide) (by decide) (by decide))]
      omega
  · rw [if_pos h1, if_neg (by simp [h1])]
    omega
theorem boatN_19 (S : St) {c : Nat} : ∀ n : Nat, n ≤ c → sm (boatN S n 19) c = sm (S 19) c + boatM S n
  | 0, _ => by show sm (S 19) c = sm (S 19) c + 0; omega
  | n + 1, h => by
    show sm (boatS (boatN S n) n 19) c = sm (S 19) c + (boatM S n + (if there (boatN S n) n = true then unlM (boatN S n) n else 0))
    rw [boatS_19 (by omega) (by omega), boatN_19 S n (by omega)]
    omega
theorem go_19 {S : St} : sm (go S 19) (S 20 3).toNat = sm (S 19) (S 20 3).toNat + goM S := by
  have e1 : sm (go S 19) (S 20 3).toNat = sm (go2 S 19) (S 20 3).toNat := sm_congr fun i _ _ => by
    unfold go
    rw [u2_k (by decide)]
    unfold go3
    exact watchN_k (by decide) (by decide) (by decide) (Or.inl (by decide)) (by decide) (by decide) _
  have e2 : sm (go1 S 19) (S 20 3).toNat = sm (S 19) (S 20 3).toNat := sm_congr fun i _ _ => go1_k (by decide) (by decide)
  rw [e1]
  unfold go2 goM
  rw [boatN_19 (go1 S) (S 20 3).toNat (Nat.le_refl _), e2]
theorem goN_19 {S : St} : ∀ n : Nat, sm (goN S n 19) (S 20 3).toNat = sm (S 19) (S 20 3).toNat + goS S n
  | 0 => by show sm (S 19) _ = sm (S 19) _ + 0; omega
  | n + 1 => by
    show sm (go (goN S n) 19) (S 20 3).toNat = sm (S 19) (S 20 3).toNat + (goS S n + goM (goN S n))
    have h := go_19 (S := goN S n)
    rw [goN_20 (by decide) (by decide)] at h
    rw [h, goN_19 n]
    omega
