/-! Facts of the words. -/
theorem tn_S {j : Int} (h : 0 ≤ j) : (j + 1).toNat = j.toNat + 1 := by omega
theorem tn_c {j : Int} (h : 0 ≤ j) : ((j.toNat : Nat) : Int) = j := by omega
theorem cnt_S (P : Int → Bool) {j : Int} (h : 0 ≤ j) : cnt P (j + 1).toNat = cnt P j.toNat + bi (P j) := by
  rw [tn_S h]
  show cnt P j.toNat + bi (P ((j.toNat : Nat) : Int)) = _
  rw [tn_c h]
theorem sm_S (f : Int → Int) {j : Int} (h : 0 ≤ j) : sm f (j + 1).toNat = sm f j.toNat + f j := by
  rw [tn_S h]
  show sm f j.toNat + f ((j.toNat : Nat) : Int) = _
  rw [tn_c h]
theorem cnt_bd (P : Int → Bool) : ∀ n : Nat, 0 ≤ cnt P n ∧ cnt P n ≤ n
  | 0 => ⟨Int.le_refl _, Int.le_refl _⟩
  | n + 1 => by
    have h := cnt_bd P n
    have e : cnt P (n + 1) = cnt P n + bi (P n) := rfl
    rw [e]
    cases P n <;> simp only [bi_t, bi_f] <;> omega
theorem cnt_congr {P P' : Int → Bool} : ∀ {n : Nat}, (∀ i : Int, 0 ≤ i → i < n → P i = P' i) → cnt P n = cnt P' n
  | 0, _ => rfl
  | n + 1, h => by
    show cnt P n + bi (P n) = cnt P' n + bi (P' n)
    rw [cnt_congr (fun i h1 h2 => h i h1 (by omega)), h n (by omega) (by omega)]
theorem moonOf_bd {n : Int} : 0 ≤ moonOf n ∧ moonOf n ≤ 6 := by
  unfold moonOf iabs
  split <;> omega
theorem mo_bd (S : St) : 0 ≤ mo S ∧ mo S ≤ 6 := moonOf_bd
theorem hn_bd (S : St) : 0 ≤ hn S ∧ hn S ≤ 9 := by unfold hn; omega
theorem iabs_bd {a hi : Int} (h1 : -hi ≤ a) (h2 : a ≤ hi) : 0 ≤ iabs a ∧ iabs a ≤ hi := by unfold iabs; split <;> omega
theorem noteN_S (S : St) {j : Int} (h : 0 ≤ j) : noteN S (j + 1).toNat = noteS (noteN S j.toNat) j := by
  rw [tn_S h]
  show noteS (noteN S j.toNat) ((j.toNat : Nat) : Int) = _
  rw [tn_c h]
theorem boatN_S (S : St) {j : Int} (h : 0 ≤ j) : boatN S (j + 1).toNat = boatS (boatN S j.toNat) j := by
  rw [tn_S h]
  show boatS (boatN S j.toNat) ((j.toNat : Nat) : Int) = _
  rw [tn_c h]
theorem boatM_S (S : St) {j : Int} (h : 0 ≤ j) : boatM S (j + 1).toNat = boatM S j.toNat + (if there (boatN S j.toNat) j = true then unlM (boatN S j.toNat) j else 0) := by
  rw [tn_S h]
  show boatM S j.toNat + (if there (boatN S j.toNat) ((j.toNat : Nat) : Int) = true then unlM (boatN S j.toNat) ((j.toNat : Nat) : Int) else 0) = _
  rw [tn_c h]
theorem watchN_S (S : St) {j : Int} (h : 0 ≤ j) : watchN S (j + 1).toNat = watchS (watchN S j.toNat) j := by
  rw [tn_S h]
  show watchS (watchN S j.toNat) ((j.toNat : Nat) : Int) = _
  rw [tn_c h]
theorem goN_S (S : St) {j : Int} (h : 0 ≤ j) : goN S (j + 1).toNat = go (goN S j.toNat) := by
  rw [tn_S h]
  rfl
theorem goS_S (S : St) {j : Int} (h : 0 ≤ j) : goS S (j + 1).toNat = goS S j.toNat + goM (goN S j.toNat) := by
  rw [tn_S h]
  rfl
theorem bst_S (S : St) (b : Int) {j : Int} (h : 0 ≤ j) : bst S b (j + 1).toNat = if shw S j = 0 ∨ S 2 (shw S j) = -1 ∨ 9 - mo S < iabs (S 4 j - S 13 b) ∨ (bst S b j.toNat ≠ -1 ∧ iabs (S 4 (bst S b j.toNat) - S 13 b) ≤ iabs (S 4 j - S 13 b)) then bst S b j.toNat else j := by
  rw [tn_S h]
  show (if shw S ((j.toNat : Nat) : Int) = 0 ∨ S 2 (shw S ((j.toNat : Nat) : Int)) = -1 ∨ 9 - mo S < iabs (S 4 ((j.toNat : Nat) : Int) - S 13 b) ∨ (bst S b j.toNat ≠ -1 ∧ iabs (S 4 (bst S b j.toNat) - S 13 b) ≤ iabs (S 4 ((j.toNat : Nat) : Int) - S 13 b)) then bst S b j.toNat else ((j.toNat : Nat) : Int)) = _
  rw [tn_c h]
theorem iabs_or (a : Int) : (0 ≤ a ∧ iabs a = a) ∨ (a < 0 ∧ iabs a = -a) := by unfold iabs; split <;> omega
theorem kn_of {S : St} {x : Int} (h0 : 0 ≤ x) (h3 : S 3 0 = 0) : kn S x = !decide (i32 (S 3 x) < i32 3) := by
  unfold kn
  by_cases h : 0 < x
  · simp [h]
  · have e : x = 0 := by omega
    subst e
    rw [h3]
    decide
