/-! What is added, kept in bounds. -/
theorem inv201 {S : St} {v : Int} (h : Inv S) (hv : 0 ≤ v ∧ v ≤ 5) : Inv (u2 S 20 1 v) := by
  obtain ⟨p13, p14, p15, p16, p17, p18, p01, p2, p3, p4, p5, pw, p9, p11, pc, pg⟩ := h
  exact ⟨p13, p14, p15, p16, p17, p18, p01, p2, p3, p4, p5, pw, p9, p11, ⟨pc.1, hv.1, hv.2, pc.2.2.2⟩, pg⟩
theorem inv_watch {S : St} {f t g : Int} (h : Inv S) (hf : 0 ≤ f) (hft : f ≤ t) (ht : t ≤ 15) (hg : 0 ≤ g ∧ g ≤ 3) (hn : S 20 2 < 4) : Inv (sWatch S f t g) := by
  obtain ⟨p13, p14, p15, p16, p17, p18, p01, p2, p3, p4, p5, pw, p9, p11, pc, pg⟩ := h
  have e7 : ∀ i, sWatch S f t g 7 i = if i = S 20 2 then f else S 7 i := fun i => by unfold sWatch wat0 u2; by_cases e : i = S 20 2 <;> simp [e]
  have e8 : ∀ i, sWatch S f t g 8 i = if i = S 20 2 then t else S 8 i := fun i => by unfold sWatch wat0 u2; by_cases e : i = S 20 2 <;> simp [e]
  have e9 : ∀ i, sWatch S f t g 9 i = if i = S 20 2 then g else S 9 i := fun i => by unfold sWatch wat0 u2; by_cases e : i = S 20 2 <;> simp [e]
  have e10 : ∀ i, sWatch S f t g 10 i = if i = S 20 2 then f else S 10 i := fun i => by unfold sWatch wat0 u2; by_cases e : i = S 20 2 <;> simp [e]
  have e11 : ∀ i, sWatch S f t g 11 i = if i = S 20 2 then 1 else S 11 i := fun i => by unfold sWatch wat0 u2; by_cases e : i = S 20 2 <;> simp [e]
  have e20 : sWatch S f t g 20 2 = S 20 2 + 1 := rfl
  refine ⟨p13, p14, p15, p16, p17, p18, p01, p2, p3, p4, p5, fun i => ?_, fun i => ?_, fun i h1 h2 => ?_, ⟨pc.1, pc.2.1, pc.2.2.1, ?_, ?_, pc.2.2.2.2.2⟩, pg⟩
  · rw [e7, e10, e8]
    have q := pw i
    by_cases e : i = S 20 2
    · rw [if_pos e, if_pos e, if_pos e]; omega
    · rw [if_neg e, if_neg e, if_neg e]; exact q
  · rw [e9]
    have q := p9 i
    by_cases e : i = S 20 2
    · rw [if_pos e]; exact hg
    · rw [if_neg e]; exact q
  · rw [e20] at h2
    rw [e11]
    by_cases e : i = S 20 2
    · rw [if_pos e]; exact Or.inl rfl
    · rw [if_neg e]; exact p11 i h1 (by omega)
  · rw [e20]; omega
  · rw [e20]; omega
theorem inv_boat {S : St} {x q : Int} (h : Inv S) (hx : 0 ≤ x ∧ x ≤ 15) (hq : 1 ≤ q ∧ q ≤ 20) (hn : S 20 3 < 6) : Inv (sBoat S x q) := by
  obtain ⟨p13, p14, p15, p16, p17, p18, p01, p2, p3, p4, p5, pw, p9, p11, pc, pg⟩ := h
  have e13 : ∀ i, sBoat S x q 13 i = if i = S 20 3 then x else S 13 i := fun i => by unfold sBoat boat0 u2; by_cases e : i = S 20 3 <;> simp [e]
  have e14 : ∀ i, sBoat S x q 14 i = if i = S 20 3 then q else S 14 i := fun i => by unfold sBoat boat0 u2; by_cases e : i = S 20 3 <;> simp [e]
  have e15 : ∀ i, sBoat S x q 15 i = if i = S 20 3 then -1 else S 15 i := fun i => by unfold sBoat boat0 u2; by_cases e : i = S 20 3 <;> simp [e]
  have e16 : ∀ i, sBoat S x q 16 i = if i = S 20 3 then 0 else S 16 i := fun i => by unfold sBoat boat0 u2; by_cases e : i = S 20 3 <;> simp [e]
  have e17 : ∀ i, sBoat S x q 17 i = if i = S 20 3 then 1 else S 17 i := fun i => by unfold sBoat boat0 u2; by_cases e : i = S 20 3 <;> simp [e]
  have e18 : ∀ i, sBoat S x q 18 i = if i = S 20 3 then 0 else S 18 i := fun i => by unfold sBoat boat0 u2; by_cases e : i = S 20 3 <;> simp [e]
  have e20 : sBoat S x q 20 3 = S 20 3 + 1 := rfl
  refine ⟨fun i => ?_, fun i => ?_, fun i => ?_, fun i => ?_, fun i => ?_, fun i => ?_, p01, p2, p3, p4, p5, pw, p9, p11, ⟨pc.1, pc.2.1, pc.2.2.1, pc.2.2.2.1, pc.2.2.2.2.1, ?_, ?_⟩, fun i hi => ?_⟩
  · rw [e13]; have r := p13 i; by_cases e : i = S 20 3
    · rw [if_pos e]; exact hx
    · rw [if_neg e]; exact r
  · rw [e14]; have r := p14 i; by_cases e : i = S 20 3
    · rw [if_pos e]; omega
    · rw [if_neg e]; exact r
  · rw [e15]; have r := p15 i; by_cases e : i = S 20 3
    · rw [if_pos e]; omega
    · rw [if_neg e]; exact r
  · rw [e16]; have r := p16 i; by_cases e : i = S 20 3
    · rw [if_pos e]; omega
    · rw [if_neg e]; exact r
  · rw [e17]; have r := p17 i; by_cases e : i = S 20 3
    · rw [if_pos e]; omega
    · rw [if_neg e]; exact r
  · rw [e18]; have r := p18 i; by_cases e : i = S 20 3
    · rw [if_pos e]; omega
    · rw [if_neg e]; exact r
  · rw [e20]; omega
  · rw [e20]; omega
  · rw [e18] at hi
    rw [e14]
    by_cases e : i = S 20 3
    · rw [if_pos e] at hi; omega
    · rw [if_neg e] at hi ⊢; exact pg i hi
theorem dead_lantern {S : St} {x : Int} (h : Dead S) : Dead (sLantern S x) := by
  obtain ⟨a, b, c, d⟩ := h
  have e20 : sLantern S x 20 1 = S 20 1 + 1 := rfl
  refine ⟨fun i hi => ?_, fun i hi => ?_, fun k i h1 h2 hi => ?_, fun k i h1 h2 hi => ?_⟩
  rotate_left 2
  · unfold sLantern
    rw [u2_k (by omega), u2_k (by omega)]
    exact c k i h1 h2 hi
  · unfold sLantern
    rw [u2_k (by omega), u2_k (by omega)]
    exact d k i h1 h2 hi
  · rw [e20] at hi
    have := a i (by omega)
    exact ⟨by show (u2 (u2 S 4 (S 20 1) x) 20 1 (S 20 1 + 1)) 4 i = 0; rw [u2_k (by decide), u2_i (by omega)]; exact this.1, this.2⟩
  · rw [e20] at hi
    exact b i (by omega)
theorem dead_watch {S : St} {f t g : Int} (h : Dead S) : Dead (sWatch S f t g) := by
  obtain ⟨a, b, c, d⟩ := h
  have e20 : sWatch S f t g 20 2 = S 20 2 + 1 := rfl
  refine ⟨a, b, fun k i h1 h2 hi => ?_, fun k i h1 h2 hi => ?_⟩
  · rw [e20] at hi
    unfold sWatch wat0
    rw [u2_k (by omega)]
    repeat rw [u2_i (by omega)]
    exact c k i h1 h2 (by omega)
  · unfold sWatch wat0
    repeat rw [u2_k (by omega)]
    exact d k i h1 h2 hi
theorem dead_boat {S : St} {x q : Int} (h : Dead S) : Dead (sBoat S x q) := by
  obtain ⟨a, b, c, d⟩ := h
  have e20 : sBoat S x q 20 3 = S 20 3 + 1 := rfl
  refine ⟨a, b, fun k i h1 h2 hi => ?_, fun k i h1 h2 hi => ?_⟩
  · unfold sBoat boat0
    repeat rw [u2_k (by omega)]
    exact c k i h1 h2 hi
  · rw [e20] at hi
    unfold sBoat boat0
    rw [u2_k (by omega)]
    repeat rw [u2_i (by omega)]
    exact d k i h1 h2 (by omega)
