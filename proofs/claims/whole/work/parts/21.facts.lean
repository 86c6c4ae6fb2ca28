/-! Facts of the words. -/
theorem tn_S {j : Int} (h : 0 ≤ j) : (j + 1).toNat = j.toNat + 1 := by omega
theorem tn_c {j : Int} (h : 0 ≤ j) : ((j.toNat : Nat) : Int) = j := by omega
theorem cnt_S (P : Int → Bool) {j : Int} (h : 0 ≤ j) : cnt P (j + 1).toNat = cnt P j.toNat + bi (P j) := by
  rw [tn_S h]
  show cnt P j.toNat + bi (P ((j.toNat : Nat) : Int)) = _
  rw [tn_c h]
theorem sm_S (f : Int → Int) {j : Int} (h : 0 ≤ j) : sm f (j + 1).toNat = sm f j.toNat + f j := by
  rw [tn_S h]
  show sm f j.toNat + f ((j.toNat : Nat) : Int) = _
  rw [tn_c h]
theorem cnt_bd (P : Int → Bool) : ∀ n : Nat, 0 ≤ cnt P n ∧ cnt P n ≤ n
  | 0 => ⟨Int.le_refl _, Int.le_refl _⟩
  | n + 1 => by
    have h := cnt_bd P n
    have e : cnt P (n + 1) = cnt P n + bi (P n) := rfl
    rw [e]
    cases P n <;> simp only [bi_t, bi_f] <;> omega
theorem cnt_congr {P P' : Int → Bool} : ∀ {n : Nat}, (∀ i : Int, 0 ≤ i → i < n → P i = P' i) → cnt P n = cnt P' n
  | 0, _ => rfl
  | n + 1, h => by
    show cnt P n + bi (P n) = cnt P' n + bi (P' n)
    rw [cnt_congr (fun i h1 h2 => h i h1 (by omega)), h n (by omega) (by omega)]
theorem moonOf_bd {n : Int} : 0 ≤ moonOf n ∧ moonOf n ≤ 6 := by
  unfold moonOf iabs
  split <;> omega
theorem mo_bd (S : St) : 0 ≤ mo S ∧ mo S ≤ 6 := moonOf_bd
theorem hn_bd (S : St) : 0 ≤ hn S ∧ hn S ≤ 9 := by unfold hn; omega
theorem iabs_bd {a hi : Int} (h1 : -hi ≤ a) (h2 : a ≤ hi) : 0 ≤ iabs a ∧ iabs a ≤ hi := by unfold iabs; split <;> omega
