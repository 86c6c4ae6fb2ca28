/-! What holds at the law's loop, kept by each call. -/
theorem inv201 {S : St} {v : Int} (h : Inv S) (hv : 0 ≤ v ∧ v ≤ 5) : Inv (u2 S 20 1 v) := by
  obtain ⟨p13, p14, p15, p16, p17, p18, p01, p2, p3, p4, p5, pw, p9, p11, pc, pg⟩ := h
  exact ⟨p13, p14, p15, p16, p17, p18, p01, p2, p3, p4, p5, pw, p9, p11, ⟨pc.1, hv.1, hv.2, pc.2.2.2⟩, pg⟩
theorem inv_watch {S : St} {f t g : Int} (h : Inv S) (hf : 0 ≤ f) (hft : f ≤ t) (ht : t ≤ 15) (hg : 0 ≤ g ∧ g ≤ 3) (hn : S 20 2 < 4) : Inv (sWatch S f t g) := by
  obtain ⟨p13, p14, p15, p16, p17, p18, p01, p2, p3, p4, p5, pw, p9, p11, pc, pg⟩ := h
  have e7 : ∀ i, sWatch S f t g 7 i = if i = S 20 2 then f else S 7 i := fun i => by unfold sWatch wat0 u2; by_cases e : i = S 20 2 <;> simp [e]
  have e8 : ∀ i, sWatch S f t g 8 i = if i = S 20 2 then t else S 8 i := fun i => by unfold sWatch wat0 u2; by_cases e : i = S 20 2 <;> simp [e]
  have e9 : ∀ i, sWatch S f t g 9 i = if i = S 20 2 then g else S 9 i := fun i => by unfold sWatch wat0 u2; by_cases e : i = S 20 2 <;> simp [e]
  have e10 : ∀ i, sWatch S f t g 10 i = if i = S 20 2 then f else S 10 i := fun i => by unfold sWatch wat0 u2; by_cases e : i = S 20 2 <;> simp [e]
  have e11 : ∀ i, sWatch S f t g 11 i = if i = S 20 2 then 1 else S 11 i := fun i => by unfold sWatch wat0 u2; by_cases e : i = S 20 2 <;> simp [e]
  have e20 : sWatch S f t g 20 2 = S 20 2 + 1 := rfl
  refine ⟨p13, p14, p15, p16, p17, p18, p01, p2, p3, p4, p5, fun i => ?_, fun i => ?_, fun i h1 h2 => ?_, ⟨pc.1, pc.2.1, pc.2.2.1, ?_, ?_, pc.2.2.2.2.2⟩, pg⟩
  · rw [e7, e10, e8]
    have q := pw i
    by_cases e : i = S 20 2
    · rw [if_pos e, if_pos e, if_pos e]; omega
    · rw [if_neg e, if_neg e, if_neg e]; exact q
  · rw [e9]
    have q := p9 i
    by_cases e : i = S 20 2
    · rw [if_pos e]; exact hg
    · rw [if_neg e]; exact q
  · rw [e20] at h2
    rw [e11]
    by_cases e : i = S 20 2
    · rw [if_pos e]; exact Or.inl rfl
    · rw [if_neg e]; exact p11 i h1 (by omega)
  · rw [e20]; omega
  · rw [e20]; omega
theorem inv_boat {S : St} {x q : Int} (h : Inv S) (hx : 0 ≤ x ∧ x ≤ 15) (hq : 1 ≤ q ∧ q ≤ 20) (hn : S 20 3 < 6) : Inv (sBoat S x q) := by
  obtain ⟨p13, p14, p15, p16, p17, p18, p01, p2, p3, p4, p5, pw, p9, p11, pc, pg⟩ := h
  have e13 : ∀ i, sBoat S x q 13 i = if i = S 20 3 then x else S 13 i := fun i => by unfold sBoat boat0 u2; by_cases e : i = S 20 3 <;> simp [e]
  have e14 : ∀ i, sBoat S x q 14 i = if i = S 20 3 then q else S 14 i := fun i => by unfold sBoat boat0 u2; by_cases e : i = S 20 3 <;> simp [e]
  have e15 : ∀ i, sBoat S x q 15 i = if i = S 20 3 then -1 else S 15 i := fun i => by unfold sBoat boat0 u2; by_cases e : i = S 20 3 <;> simp [e]
  have e16 : ∀ i, sBoat S x q 16 i = if i = S 20 3 then 0 else S 16 i := fun i => by unfold sBoat boat0 u2; by_cases e : i = S 20 3 <;> simp [e]
  have e17 : ∀ i, sBoat S x q 17 i = if i = S 20 3 then 1 else S 17 i := fun i => by unfold sBoat boat0 u2; by_cases e : i = S 20 3 <;> simp [e]
  have e18 : ∀ i, sBoat S x q 18 i = if i = S 20 3 then 0 else S 18 i := fun i => by unfold sBoat boat0 u2; by_cases e : i = S 20 3 <;> simp [e]
  have e20 : sBoat S x q 20 3 = S 20 3 + 1 := rfl
  refine ⟨fun i => ?_, fun i => ?_, fun i => ?_, fun i => ?_, fun i => ?_, fun i => ?_, p01, p2, p3, p4, p5, pw, p9, p11, ⟨pc.1, pc.2.1, pc.2.2.1, pc.2.2.2.1, pc.2.2.2.2.1, ?_, ?_⟩, fun i hi => ?_⟩
  · rw [e13]; have r := p13 i; by_cases e : i = S 20 3
    · rw [if_pos e]; exact hx
    · rw [if_neg e]; exact r
  · rw [e14]; have r := p14 i; by_cases e : i = S 20 3
    · rw [if_pos e]; omega
    · rw [if_neg e]; exact r
  · rw [e15]; have r := p15 i; by_cases e : i = S 20 3
    · rw [if_pos e]; omega
    · rw [if_neg e]; exact r
  · rw [e16]; have r := p16 i; by_cases e : i = S 20 3
    · rw [if_pos e]; omega
    · rw [if_neg e]; exact r
  · rw [e17]; have r := p17 i; by_cases e : i = S 20 3
    · rw [if_pos e]; omega
    · rw [if_neg e]; exact r
  · rw [e18]; have r := p18 i; by_cases e : i = S 20 3
    · rw [if_pos e]; omega
    · rw [if_neg e]; exact r
  · rw [e20]; omega
  · rw [e20]; omega
  · rw [e18] at hi
    rw [e14]
    by_cases e : i = S 20 3
    · rw [if_pos e] at hi; omega
    · rw [if_neg e] at hi ⊢; exact pg i hi
theorem dead_lantern {S : St} {x : Int} (h : Dead S) : Dead (sLantern S x) := by
  obtain ⟨a, b, c, d⟩ := h
  have e20 : sLantern S x 20 1 = S 20 1 + 1 := rfl
  refine ⟨fun i hi => ?_, fun i hi => ?_, fun k i h1 h2 hi => ?_, fun k i h1 h2 hi => ?_⟩
  rotate_left 2
  · unfold sLantern
    rw [u2_k (by omega), u2_k (by omega)]
    exact c k i h1 h2 hi
  · unfold sLantern
    rw [u2_k (by omega), u2_k (by omega)]
    exact d k i h1 h2 hi
  · rw [e20] at hi
    have := a i (by omega)
    exact ⟨by show (u2 (u2 S 4 (S 20 1) x) 20 1 (S 20 1 + 1)) 4 i = 0; rw [u2_k (by decide), u2_i (by omega)]; exact this.1, this.2⟩
  · rw [e20] at hi
    exact b i (by omega)
theorem dead_watch {S : St} {f t g : Int} (h : Dead S) : Dead (sWatch S f t g) := by
  obtain ⟨a, b, c, d⟩ := h
  have e20 : sWatch S f t g 20 2 = S 20 2 + 1 := rfl
  refine ⟨a, b, fun k i h1 h2 hi => ?_, fun k i h1 h2 hi => ?_⟩
  · rw [e20] at hi
    unfold sWatch wat0
    rw [u2_k (by omega)]
    repeat rw [u2_i (by omega)]
    exact c k i h1 h2 (by omega)
  · unfold sWatch wat0
    repeat rw [u2_k (by omega)]
    exact d k i h1 h2 hi
theorem dead_boat {S : St} {x q : Int} (h : Dead S) : Dead (sBoat S x q) := by
  obtain ⟨a, b, c, d⟩ := h
  have e20 : sBoat S x q 20 3 = S 20 3 + 1 := rfl
  refine ⟨a, b, fun k i h1 h2 hi => ?_, fun k i h1 h2 hi => ?_⟩
  · unfold sBoat boat0
    repeat rw [u2_k (by omega)]
    exact c k i h1 h2 hi
  · rw [e20] at hi
    unfold sBoat boat0
    rw [u2_k (by omega)]
    repeat rw [u2_i (by omega)]
    exact d k i h1 h2 (by omega)
/-- at the loop's head, behind k rounds -/
def LI (k : Nat) (M : Mem) : Prop := M 2 = M 0 ∧ Inv (M 0) ∧ Dead (M 0) ∧ (0 ≤ M 0 20 0 ∧ M 0 20 0 ≤ 60 * (k : Int)) ∧ Dead (M 1) ∧ (M 1 20 1 ≤ M 0 20 1 ∧ M 1 20 2 ≤ M 0 20 2 ∧ M 1 20 3 ≤ M 0 20 3)
theorem LI.step {k : Nat} {M Mb : Mem} (h : LI k M) {S1 : St} (hI : Inv S1) (hD : Dead S1) (hh : 0 ≤ S1 20 0 ∧ S1 20 0 ≤ M 0 20 0 + 60) (hc : M 0 20 1 ≤ S1 20 1 ∧ M 0 20 2 ≤ S1 20 2 ∧ M 0 20 3 ≤ S1 20 3) (e0 : Mb 0 = S1) (e2 : Mb 2 = S1) (e1 : Mb 1 = M 1) : LI (k + 1) Mb := by
  obtain ⟨-, -, -, a4, a5, a6⟩ := h
  unfold LI
  rw [e0, e1, e2]
  exact ⟨rfl, hI, hD, ⟨hh.1, by omega⟩, a5, by omega⟩
theorem LI.trial {k : Nat} {M Mb : Mem} (h : LI k M) {T1 : St} (hD : Dead T1) (hc : T1 20 1 ≤ M 0 20 1 ∧ T1 20 2 ≤ M 0 20 2 ∧ T1 20 3 ≤ M 0 20 3) (e0 : Mb 0 = M 0) (e2 : Mb 2 = M 0) (e1 : Mb 1 = T1) : LI (k + 1) Mb := by
  obtain ⟨-, a2, a3, a4, -, -⟩ := h
  unfold LI
  rw [e0, e1, e2]
  exact ⟨rfl, a2, a3, ⟨a4.1, by omega⟩, hD, hc⟩
theorem LI.same {k : Nat} {M Mb : Mem} (h : LI k M) (e0 : Mb 0 = M 0) (e2 : Mb 2 = M 0) (e1 : Mb 1 = M 1) : LI (k + 1) Mb := LI.trial h h.2.2.2.2.1 h.2.2.2.2.2 e0 e2 e1
theorem goN_cnt {S : St} (n : Nat) : goN S n 20 1 = S 20 1 ∧ goN S n 20 2 = S 20 2 ∧ goN S n 20 3 = S 20 3 := ⟨goN_20 (by decide) (by decide) n, goN_20 (by decide) (by decide) n, goN_20 (by decide) (by decide) n⟩
theorem and31 (x : Int32) : ∃ z : Int, (0 ≤ z ∧ z < 32) ∧ x &&& i32 31 = i32 z := by
  refine ⟨(x &&& i32 31).toInt, ?_, (i32_of _).symm⟩
  have h : (x &&& i32 31).toBitVec.toNat ≤ 31 := by
    rw [Int32.toBitVec_and, BitVec.toNat_and]
    exact Nat.and_le_right
  have e : (x &&& i32 31).toInt = ((x &&& i32 31).toBitVec.toNat : Int) := by
    show (x &&& i32 31).toBitVec.toInt = _
    rw [BitVec.toInt_eq_toNat_of_lt (by omega)]
  rw [e]
  omega
