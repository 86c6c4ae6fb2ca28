/-! What the law asks of the words: of a boat in an hour, of the hour it is gone in, and of the counts. -/
theorem stg_or (S : St) (b : Int) : (S 18 b = 1 ∧ stg S b = 3) ∨ (S 18 b = 2 ∧ stg S b = 4) ∨ (S 18 b ≠ 1 ∧ S 18 b ≠ 2 ∧ S 15 b = -1 ∧ stg S b = 0) ∨ (S 18 b ≠ 1 ∧ S 18 b ≠ 2 ∧ S 15 b ≠ -1 ∧ S 15 b = S 13 b ∧ stg S b = 2) ∨ (S 18 b ≠ 1 ∧ S 18 b ≠ 2 ∧ S 15 b ≠ -1 ∧ S 15 b ≠ S 13 b ∧ stg S b = 1) := by
  unfold stg
  by_cases h1 : S 18 b = 1
  · rw [if_pos h1]; omega
  · rw [if_neg h1]
    by_cases h2 : S 18 b = 2
    · rw [if_pos h2]; omega
    · rw [if_neg h2]
      by_cases h3 : S 15 b = -1
      · rw [if_pos h3]; omega
      · rw [if_neg h3]
        by_cases h4 : S 15 b = S 13 b
        · rw [if_pos h4]; omega
        · rw [if_neg h4]; omega
theorem boatS_i {S : St} {b i : Int} {k : Nat} (hk : k = 13 ∨ k = 15 ∨ k = 17 ∨ k = 18) (hi : i ≠ b) : boatS S b k i = S k i := by
  have hm : ∀ R : St, mvS R b k i = R k i := fun R => by
    unfold mvS
    split
    · rfl
    · exact u2_i hi
  unfold boatS
  split
  · rfl
  · split
    · unfold unlS
      try dsimp only
      split
      · rw [u2_i hi, u2_k (by omega), u2_k (by omega), u2_k (by omega)]
      · rw [u2_k (by omega), u2_k (by omega), u2_k (by omega)]
    · unfold sailS
      rw [hm]
      split
      · unfold readS
        split
        · rfl
        · rw [u2_i hi, u2_i hi]
      · rfl
theorem boatN_lo {S : St} {b : Int} {k : Nat} (hk : k = 13 ∨ k = 15 ∨ k = 17 ∨ k = 18) : ∀ n : Nat, (n : Int) ≤ b → boatN S n k b = S k b
  | 0, _ => rfl
  | n + 1, h => (boatS_i hk (by omega)).trans (boatN_lo hk n (by omega))
theorem boatN_hi {S : St} {b : Int} {k : Nat} (hk : k = 13 ∨ k = 15 ∨ k = 17 ∨ k = 18) (h0 : 0 ≤ b) : ∀ n : Nat, b < n → boatN S n k b = boatS (boatN S b.toNat) b k b
  | 0, h => by omega
  | n + 1, h => by
    by_cases e : (n : Int) = b
    · have e2 : b.toNat = n := by omega
      show boatS (boatN S n) n k b = _
      rw [e2, e]
    · exact (boatS_i hk (by omega)).trans (boatN_hi hk h0 n (by omega))
theorem boatS_13 {S : St} (hI : Inv S) (b : Int) : (S 18 b ≠ 0 → boatS S b 13 b = S 13 b ∧ boatS S b 15 b = S 15 b ∧ boatS S b 18 b = S 18 b) ∧ (S 18 b = 0 → S 15 b = S 13 b → boatS S b 13 b = S 13 b ∧ boatS S b 15 b = S 15 b) ∧ (S 18 b = 0 → S 15 b ≠ S 13 b → boatS S b 18 b = 0 ∧ ((boatS S b 15 b = -1 ∧ boatS S b 13 b = S 13 b) ∨ boatS S b 13 b = S 13 b + max (-2) (min 2 (boatS S b 15 b - S 13 b)))) := by
  refine ⟨fun h => ?_, fun h1 h2 => ?_, fun h1 h2 => ?_⟩
  · unfold boatS
    rw [if_pos h]
    exact ⟨rfl, rfl, rfl⟩
  · unfold boatS
    rw [if_neg (by omega), if_pos h2, unlS_k (by decide) (by decide) (by decide) (by decide), unlS_k (by decide) (by decide) (by decide) (by decide)]
    exact ⟨rfl, rfl⟩
  · have hm : ∀ R : St, R 13 b = S 13 b → (mvS R b 15 b = -1 ∧ mvS R b 13 b = S 13 b) ∨ mvS R b 13 b = S 13 b + max (-2) (min 2 (mvS R b 15 b - S 13 b)) := fun R hR => by
      unfold mvS
      by_cases e : R 15 b = -1
      · rw [if_pos e]
        exact Or.inl ⟨e, hR⟩
      · rw [if_neg e, u2_at, u2_k (by decide), hR]
        exact Or.inr rfl
    have h18 : boatS S b 18 b = 0 := by
      unfold boatS
      rw [if_neg (by omega), if_neg h2, sailS_k (by decide) (by decide) (by decide)]
      exact h1
    refine ⟨h18, ?_⟩
    unfold boatS
    rw [if_neg (by omega), if_neg h2]
    unfold sailS
    refine hm _ ?_
    split
    · exact readS_k (by decide) (by decide)
    · rfl
theorem go_b {S : St} {b : Int} {k : Nat} (hk : k = 13 ∨ k = 15 ∨ k = 17) (h0 : 0 ≤ b) (h1 : b < S 20 3) : go S k b = boatS (boatN (go1 S) b.toNat) b k b := by
  unfold go
  rw [u2_k (by omega)]
  unfold go3
  rw [watchN_k (by omega) (by omega) (by omega) (Or.inl (by omega)) (by omega) (by omega)]
  exact boatN_hi (by omega) h0 _ (by omega)
theorem seize_18 {S : St} {w b : Int} (h : S 18 b ≠ 0) : seizeS S w 18 b = S 18 b := by
  unfold seizeS
  split
  · rfl
  · rename_i hn
    rcases fst_tr (P := catB S w) (S 20 3).toNat with z | ⟨z1, z2, z3⟩
    · exact absurd z hn
    · refine (cat_e S w _).2.1.2 b (fun e => h ?_)
      unfold catB there at z3
      simp only [Bool.and_eq_true, decide_eq_true_eq] at z3
      rw [e]
      exact z3.1.1
theorem watchN_18 {S : St} {b : Int} (h : S 18 b ≠ 0) : ∀ n : Nat, watchN S n 18 b = S 18 b
  | 0 => rfl
  | n + 1 => by
    have ih := watchN_18 h n
    have e : walkS (watchN S n) n 18 b = watchN S n 18 b := walkS_k (by decide) (by decide)
    exact (seize_18 (by rw [e, ih]; exact h)).trans (e.trans ih)
theorem go_18 {S : St} {b : Int} (h0 : 0 ≤ b) (h1 : b < S 20 3) (h : S 18 b ≠ 0) : go S 18 b = S 18 b := by
  have e1 : boatN (go1 S) b.toNat 18 b = S 18 b := (boatN_lo (by decide) _ (by omega)).trans (go1_k (by decide) (by decide))
  have e2 : go2 S 18 b = S 18 b := by
    unfold go2
    rw [boatN_hi (by decide) h0 _ (by omega)]
    unfold boatS
    rw [if_pos (by rw [e1]; exact h)]
    exact e1
  unfold go
  rw [u2_k (by decide)]
  unfold go3
  rw [watchN_18 (by rw [e2]; exact h), e2]
theorem go_at {S : St} (hI : Inv S) {b : Int} (h0 : 0 ≤ b) (h1 : b < S 20 3) : (S 18 b ≠ 0 → go S 13 b = S 13 b) ∧ (S 18 b = 0 → S 15 b = S 13 b → go S 13 b = S 13 b) ∧ (S 18 b = 0 → S 15 b ≠ S 13 b → (go S 15 b = -1 ∧ go S 13 b = S 13 b) ∨ go S 13 b = S 13 b + max (-2) (min 2 (go S 15 b - S 13 b))) := by
  have e13 := go_b (k := 13) (by decide) h0 h1
  have e15 := go_b (k := 15) (by decide) h0 h1
  have b13 : boatN (go1 S) b.toNat 13 b = S 13 b := (boatN_lo (by decide) _ (by omega)).trans (go1_k (by decide) (by decide))
  have b15 : boatN (go1 S) b.toNat 15 b = S 15 b := (boatN_lo (by decide) _ (by omega)).trans (go1_k (by decide) (by decide))
  have b18 : boatN (go1 S) b.toNat 18 b = S 18 b := (boatN_lo (by decide) _ (by omega)).trans (go1_k (by decide) (by decide))
  obtain ⟨q1, q2, q3⟩ := boatS_13 (boatN_inv (go1_inv hI) b.toNat) b
  rw [b13, b15, b18] at q2
  rw [b13, b18] at q1
  rw [b13, b15, b18] at q3
  rw [e13, e15]
  exact ⟨fun h => (q1 h).1, fun h g => (q2 h g).1, fun h g => (q3 h g).2⟩
/-- a boat in an hour -/
theorem hour_b {S : St} (hI : Inv S) {b : Int} (h0 : 0 ≤ b) (h1 : b < S 20 3) : (-2 ≤ go S 13 b - S 13 b ∧ go S 13 b - S 13 b ≤ 2) ∧ (1 < stg S b → go S 13 b = S 13 b) ∧ (go S 15 b < 0 → go S 13 b = S 13 b) ∧ (go S 13 b ≠ S 13 b → iabs (go S 15 b - go S 13 b) < iabs (go S 15 b - S 13 b)) ∧ (2 < stg S b → stg (go S) b = stg S b) := by
  obtain ⟨q1, q2, q3⟩ := go_at hI h0 h1
  have p18 := hI.p18 b
  have p13 := hI.p13 b
  have g15 := (go_inv hI).p15 b
  have g13 := (go_inv hI).p13 b
  have o := stg_or S b
  have key : go S 13 b = S 13 b ∨ (S 18 b = 0 ∧ S 15 b ≠ S 13 b ∧ go S 15 b ≠ -1 ∧ go S 13 b = S 13 b + max (-2) (min 2 (go S 15 b - S 13 b))) := by
    by_cases a1 : S 18 b = 0
    · by_cases a2 : S 15 b = S 13 b
      · exact Or.inl (q2 a1 a2)
      · rcases q3 a1 a2 with h | h
        · exact Or.inl h.2
        · by_cases a3 : go S 15 b = -1
          · rw [a3] at h
            by_cases a4 : go S 13 b = S 13 b
            · exact Or.inl a4
            · refine absurd ?_ a4
              have e15 := go_b (k := 15) (by decide) h0 h1
              have e13 := go_b (k := 13) (by decide) h0 h1
              have b13 : boatN (go1 S) b.toNat 13 b = S 13 b := (boatN_lo (by decide) _ (by omega)).trans (go1_k (by decide) (by decide))
              have b15 : boatN (go1 S) b.toNat 15 b = S 15 b := (boatN_lo (by decide) _ (by omega)).trans (go1_k (by decide) (by decide))
              have b18 : boatN (go1 S) b.toNat 18 b = S 18 b := (boatN_lo (by decide) _ (by omega)).trans (go1_k (by decide) (by decide))
              rw [e13]
              rw [e15] at a3
              unfold boatS at a3 ⊢
              rw [if_neg (by omega), if_neg (by rw [b15, b13]; exact a2)] at a3 ⊢
              unfold sailS mvS at a3 ⊢
              generalize hR : (if boatN (go1 S) b.toNat 17 b = 1 then readS (boatN (go1 S) b.toNat) b else boatN (go1 S) b.toNat) = R at a3 ⊢
              have r13 : R 13 b = S 13 b := by
                rw [← hR]
                split
                · exact (readS_k (by decide) (by decide)).trans b13
                · exact b13
              by_cases z : R 15 b = -1
              · rw [if_pos z]; exact r13
              · rw [if_neg z, u2_k (by decide)] at a3
                exact absurd a3 z
          · exact Or.inr ⟨a1, a2, a3, h⟩
    · exact Or.inl (q1 a1)
  have i1 := iabs_or (go S 15 b - go S 13 b)
  have i2 := iabs_or (go S 15 b - S 13 b)
  refine ⟨?_, ?_, ?_, ?_, ?_⟩
  · rcases key with h | ⟨-, -, -, h⟩ <;> omega
  · intro h
    rcases key with k | ⟨k1, k2, -, -⟩
    · exact k
    · exfalso; omega
  · intro h
    rcases key with k | ⟨-, -, k, -⟩
    · exact k
    · exfalso; omega
  · intro h
    rcases key with k | ⟨-, -, -, k⟩
    · exact absurd k h
    · omega
  · intro h
    have h18 : S 18 b ≠ 0 := by omega
    have e := go_18 h0 h1 h18
    have o2 := stg_or (go S) b
    omega
/-! the hour that a boat is gone in -/
theorem goN_18 {S : St} {b : Int} (h0 : 0 ≤ b) (h1 : b < S 20 3) {k : Nat} (h : goN S k 18 b ≠ 0) : ∀ d : Nat, goN S (k + d) 18 b = goN S k 18 b
  | 0 => rfl
  | d + 1 => by
    have ih := goN_18 h0 h1 h d
    show go (goN S (k + d)) 18 b = _
    rw [go_18 h0 (by rw [goN_20 (by decide) (by decide)]; exact h1) (by rw [ih]; exact h), ih]
theorem unt_or (S : St) (b : Int) : ∀ (n h : Nat), h ≤ unt S b n h ∧ unt S b n h ≤ h + n ∧ (∀ q, h ≤ q → q < unt S b n h → goN S q 18 b = 0) ∧ (unt S b n h < h + n → goN S (unt S b n h) 18 b ≠ 0)
  | 0, h => ⟨Nat.le_refl _, Nat.le_refl _, fun q a c => by have c2 : q < h := c; omega, fun a => by have a2 : h < h + 0 := a; omega⟩
  | n + 1, h => by
    by_cases e : goN S h 18 b = 0
    · have hu : unt S b (n + 1) h = unt S b n (h + 1) := by show (if _ then _ else _) = _; rw [if_pos e]
      obtain ⟨a1, a2, a3, a4⟩ := unt_or S b n (h + 1)
      rw [hu]
      refine ⟨by omega, by omega, fun q c1 c2 => ?_, fun c => a4 (by omega)⟩
      by_cases z : q = h
      · rw [z]; exact e
      · exact a3 q (by omega) c2
    · have hu : unt S b (n + 1) h = h := by show (if _ then _ else _) = _; rw [if_neg e]
      rw [hu]
      exact ⟨Nat.le_refl _, by omega, fun q c1 c2 => by omega, fun _ => e⟩
theorem untR_0 {S : St} {b : Int} : (S 18 b = 1 → untR S b = 0) ∧ (S 18 b = 2 → untR S b = -1) ∧ (S 18 b = 0 → untR S b ≠ 0) := by
  obtain ⟨a1, a2, a3, a4⟩ := unt_or S b 120 0
  have z : S 18 b ≠ 0 → unt S b 120 0 = 0 := fun h => by
    by_cases e : unt S b 120 0 = 0
    · exact e
    · exact absurd (a3 0 (by omega) (by omega)) h
  refine ⟨fun h => ?_, fun h => ?_, fun h => ?_⟩
  · unfold untR
    rw [z (by omega), if_pos (show goN S 0 18 b = 1 from h)]
    rfl
  · unfold untR
    rw [z (by omega), if_neg (show ¬ goN S 0 18 b = 1 from by show ¬ S 18 b = 1; omega)]
  · unfold untR
    split
    · rename_i g
      intro e
      have e2 : unt S b 120 0 = 0 := by omega
      rw [e2] at g
      have g2 : S 18 b = 1 := g
      omega
    · omega
theorem untR_k {S : St} {b : Int} (h0 : 0 ≤ b) (h1 : b < S 20 3) {k : Nat} (hk : k < 100) (h : goN S k 18 b = 0) : goN S (k + 1) 18 b = 1 ↔ untR S b = (k : Int) + 1 := by
  obtain ⟨a1, a2, a3, a4⟩ := unt_or S b 120 0
  unfold untR
  constructor
  · intro g
    have lo : k + 1 ≤ unt S b 120 0 := by
      rcases Nat.lt_or_ge k (unt S b 120 0) with z | z
      · exact z
      · exfalso
        have w := a4 (by omega)
        have v := goN_18 h0 h1 w (k - unt S b 120 0)
        rw [show unt S b 120 0 + (k - unt S b 120 0) = k from by omega, h] at v
        exact w v.symm
    have hi : unt S b 120 0 ≤ k + 1 := by
      rcases Nat.lt_or_ge (k + 1) (unt S b 120 0) with z | z
      · have := a3 (k + 1) (by omega) z
        omega
      · exact z
    have e : unt S b 120 0 = k + 1 := by omega
    rw [e, if_pos g]
    omega
  · intro g
    by_cases z : goN S (unt S b 120 0) 18 b = 1
    · rw [if_pos z] at g
      rw [show k + 1 = unt S b 120 0 from by omega]
      exact z
    · rw [if_neg z] at g
      omega
/-! counts -/
theorem cnt_mono {P Q : Int → Bool} (h : ∀ i, P i = true → Q i = true) : ∀ n : Nat, cnt P n ≤ cnt Q n
  | 0 => Int.le_refl _
  | n + 1 => by
    have ih := cnt_mono h n
    have g := h (n : Int)
    show cnt P n + bi (P n) ≤ cnt Q n + bi (Q n)
    cases hp : P n
    · cases Q n <;> simp only [bi_t, bi_f] <;> omega
    · rw [g hp]; simp only [bi_t]; omega
theorem cnt_one {P : Int → Bool} {j : Int} (h0 : 0 ≤ j) (hP : P j = true) : ∀ n : Nat, j < n → 1 ≤ cnt P n
  | 0, h => by omega
  | n + 1, h => by
    show 1 ≤ cnt P n + bi (P n)
    by_cases e : (n : Int) = j
    · rw [e, hP]
      have := cnt_bd P n
      simp only [bi_t]; omega
    · have ih := cnt_one h0 hP n (by omega)
      cases P n <;> simp only [bi_t, bi_f] <;> omega
theorem nLdB_le (S : St) (c : Int) : nLdB S c ≤ inF S 0 := by
  unfold nLdB inF
  refine cnt_mono (fun i h => ?_) _
  unfold ldB at h
  unfold isF
  simp only [Bool.and_eq_true, decide_eq_true_eq] at h ⊢
  exact h.1
theorem nAtW_le {S : St} (hI : Inv S) (q : Int) : nAtW S q ≤ wP S q := by
  unfold nAtW wP
  refine cnt_mono (fun i h => ?_) _
  unfold atW at h
  unfold seesP sgP
  simp only [decide_eq_true_eq] at h ⊢
  have a := hI.p9 i
  have m := mo_bd S
  rw [h]
  unfold iabs
  split <;> omega
theorem nAtW_one {S : St} {w : Int} (h0 : 0 ≤ w) (h1 : w < S 20 2) : 1 ≤ nAtW S (S 10 w) := by
  unfold nAtW
  refine cnt_one h0 ?_ _ (by omega)
  unfold atW
  simp only [decide_eq_true_eq]
def stK (S : St) (k i : Int) : Bool := decide (stg S i = k)
theorem stK_cnt {S : St} (hI : Inv S) : ∀ n : Nat, cnt (stK S 0) n + cnt (stK S 1) n + cnt (stK S 2) n = cnt (isF S 0) n ∧ cnt (stK S 3) n = cnt (isF S 1) n ∧ cnt (stK S 4) n = cnt (isF S 2) n
  | 0 => ⟨rfl, rfl, rfl⟩
  | n + 1 => by
    have ih := stK_cnt hI n
    have o := stg_or S (n : Int)
    have p := hI.p18 (n : Int)
    have e : ∀ P : Int → Bool, cnt P (n + 1) = cnt P n + bi (P n) := fun _ => rfl
    simp only [e]
    have k : ∀ k : Int, bi (stK S k n) = if stg S n = k then 1 else 0 := fun k => by unfold stK bi; by_cases h : stg S n = k <;> simp [h]
    have f : ∀ k : Int, bi (isF S k n) = if S 18 n = k then 1 else 0 := fun k => by unfold isF bi; by_cases h : S 18 n = k <;> simp [h]
    simp only [k, f]
    refine ⟨?_, ?_, ?_⟩ <;> (repeat' split) <;> omega
theorem sg_pos {S : St} (hI : Inv S) (w : Int) : 0 ≤ sgP S w ∧ 0 ≤ sgL S w := by
  have a := hI.p9 w
  have m := mo_bd S
  unfold sgP sgL
  omega
