/-! What holds of bales, boats and watchmen, kept by each step of an hour and by each call. -/
def TOT (S : St) : Int := sm (S 19) (S 20 3).toNat + sm (S 14) (S 20 3).toNat + S 20 4
def Gd (S : St) : Prop := sm (S 19) (S 20 3).toNat = caves S + S 20 5 ∧ sm (S 12) (S 20 2).toNat = inF S 2 ∧ (∀ b, 0 ≤ b → b < S 20 3 → S 18 b = 0 → 1 ≤ S 14 b) ∧ (∀ b, 0 ≤ b → b < S 20 3 → 0 < S 16 b → S 17 b = 1)
def Kps (S S' : St) : Prop := (∀ i, i ≠ 0 → i ≠ 4 → S' 20 i = S 20 i) ∧ (Gd S → Gd S') ∧ TOT S' = TOT S
theorem Kps.rf (S : St) : Kps S S := ⟨fun _ _ _ => rfl, fun h => h, rfl⟩
theorem Kps.tr {S S1 S2 : St} (h : Kps S S1) (g : Kps S1 S2) : Kps S S2 := ⟨fun i a b => (g.1 i a b).trans (h.1 i a b), fun x => g.2.1 (h.2.1 x), g.2.2.trans h.2.2⟩
theorem gd_congr {S S' : St} (h : ∀ (k : Nat) (i : Int), k = 1 ∨ k = 12 ∨ k = 14 ∨ k = 16 ∨ k = 17 ∨ k = 18 ∨ k = 19 ∨ (k = 20 ∧ (i = 2 ∨ i = 3 ∨ i = 5)) → S' k i = S k i) (hG : Gd S) : Gd S' := by
  have e3 : S' 20 3 = S 20 3 := h 20 3 (by omega)
  have e2 : S' 20 2 = S 20 2 := h 20 2 (by omega)
  have e5 : S' 20 5 = S 20 5 := h 20 5 (by omega)
  obtain ⟨g1, g2, g3, g4⟩ := hG
  refine ⟨?_, ?_, fun b a1 a2 a3 => ?_, fun b a1 a2 a3 => ?_⟩
  · unfold caves
    rw [e3, e5, sm_congr (f := S' 19) (g := S 19) (fun i _ _ => h 19 i (by omega)), sm_congr (f := S' 1) (g := S 1) (fun i _ _ => h 1 i (by omega))]
    exact g1
  · unfold inF
    rw [e2, e3, sm_congr (f := S' 12) (g := S 12) (fun i _ _ => h 12 i (by omega)), cnt_congr (P := isF S' 2) (P' := isF S 2) (fun i _ _ => by unfold isF; rw [h 18 i (by omega)])]
    exact g2
  · rw [e3] at a2
    rw [h 18 b (by omega)] at a3
    rw [h 14 b (by omega)]
    exact g3 b a1 a2 a3
  · rw [e3] at a2
    rw [h 16 b (by omega)] at a3
    rw [h 17 b (by omega)]
    exact g4 b a1 a2 a3
theorem kps_congr {S S' : St} (h : ∀ (k : Nat) (i : Int), k = 1 ∨ k = 12 ∨ k = 14 ∨ k = 16 ∨ k = 17 ∨ k = 18 ∨ k = 19 ∨ (k = 20 ∧ i ≠ 0) → S' k i = S k i) : Kps S S' := by
  have e3 : S' 20 3 = S 20 3 := h 20 3 (by omega)
  refine ⟨fun i a _ => h 20 i (by omega), gd_congr (fun k i a => h k i (by omega)), ?_⟩
  unfold TOT
  rw [e3, h 20 4 (by omega), sm_congr (f := S' 19) (g := S 19) (fun i _ _ => h 19 i (by omega)), sm_congr (f := S' 14) (g := S 14) (fun i _ _ => h 14 i (by omega))]
theorem cnt_upd {P P' : Int → Bool} {b : Int} (h0 : 0 ≤ b) (h1 : P b = false) (h2 : P' b = true) (ho : ∀ i, i ≠ b → P' i = P i) : ∀ n : Nat, cnt P' n = cnt P n + (if b < n then 1 else 0)
  | 0 => by
    show (0 : Int) = 0 + _
    rw [if_neg (by omega)]
    rfl
  | n + 1 => by
    show cnt P' n + bi (P' n) = cnt P n + bi (P n) + _
    rw [cnt_upd h0 h1 h2 ho n]
    by_cases e : (n : Int) = b
    · rw [if_neg (by omega), if_pos (by omega), e, h1, h2]; simp [bi]
    · rw [ho n e]
      by_cases h : b < n
      · rw [if_pos h, if_pos (by omega)]; omega
      · rw [if_neg h, if_neg (by omega)]; omega
theorem unl_e (S : St) (b : Int) : (unlS S b 19 b = S 19 b + unlM S b ∧ ∀ i, i ≠ b → unlS S b 19 i = S 19 i) ∧ (unlS S b 14 b = S 14 b - unlM S b ∧ ∀ i, i ≠ b → unlS S b 14 i = S 14 i) ∧ (unlS S b 1 (S 13 b) = S 1 (S 13 b) + unlM S b ∧ ∀ i, i ≠ S 13 b → unlS S b 1 i = S 1 i) ∧ (unlS S b 18 b = (if S 14 b - unlM S b = 0 then 1 else S 18 b) ∧ ∀ i, i ≠ b → unlS S b 18 i = S 18 i) := by
  unfold unlS
  try dsimp only
  by_cases h : S 14 b - unlM S b = 0
  · simp only [if_pos h]
    refine ⟨⟨?_, fun i hi => ?_⟩, ⟨?_, fun i hi => ?_⟩, ⟨?_, fun i hi => ?_⟩, ⟨?_, fun i hi => ?_⟩⟩ <;> simp [u2, *]
  · simp only [if_neg h]
    refine ⟨⟨?_, fun i hi => ?_⟩, ⟨?_, fun i hi => ?_⟩, ⟨?_, fun i hi => ?_⟩, ⟨?_, fun i hi => ?_⟩⟩ <;> simp [u2, *]
theorem unlS_kps {S : St} (hI : Inv S) {b : Int} (h0 : 0 ≤ b) (h1 : b < S 20 3) (h18 : S 18 b = 0) : Kps S (unlS S b) := by
  obtain ⟨⟨a1, a2⟩, ⟨b1, b2⟩, ⟨c1, c2⟩, ⟨d1, d2⟩⟩ := unl_e S b
  have um := unlM_bd hI b
  have b13 := hI.p13 b
  have e20 : ∀ i, unlS S b 20 i = S 20 i := fun i => unlS_k (by decide) (by decide) (by decide) (by decide)
  have s19 : sm (unlS S b 19) (S 20 3).toNat = sm (S 19) (S 20 3).toNat + unlM S b := by rw [sm_upd (f := S 19) (g := unlS S b 19) (b := b) (v := unlM S b) h0 a1 a2, if_pos (by omega)]
  have s14 : sm (unlS S b 14) (S 20 3).toNat = sm (S 14) (S 20 3).toNat + -unlM S b := by rw [sm_upd (f := S 14) (g := unlS S b 14) (b := b) (v := -unlM S b) h0 b1 b2, if_pos (by omega)]
  have s1 : sm (unlS S b 1) 16 = sm (S 1) 16 + unlM S b := by rw [sm_upd (f := S 1) (g := unlS S b 1) (b := S 13 b) (v := unlM S b) b13.1 c1 c2, if_pos (by omega)]
  refine ⟨fun i _ _ => e20 i, fun hG => ?_, ?_⟩
  · obtain ⟨g1, g2, g3, g4⟩ := hG
    refine ⟨?_, ?_, fun x x1 x2 x3 => ?_, fun x x1 x2 x3 => ?_⟩
    · unfold caves at g1 ⊢
      rw [e20, e20, s19, s1]
      omega
    · unfold inF at g2 ⊢
      rw [e20, e20, sm_congr (f := unlS S b 12) (g := S 12) (fun i _ _ => unlS_k (by decide) (by decide) (by decide) (by decide)), cnt_congr (P := isF (unlS S b) 2) (P' := isF S 2) (fun i _ _ => by
        unfold isF
        by_cases e : i = b
        · subst e
          rw [d1, h18]
          split <;> rfl
        · rw [d2 i e])]
      exact g2
    · rw [e20] at x2
      by_cases e : x = b
      · subst e
        rw [d1] at x3
        rw [b1]
        by_cases h : S 14 x - unlM S x = 0
        · rw [if_pos h] at x3; omega
        · omega
      · rw [d2 x e] at x3
        rw [b2 x e]
        exact g3 x x1 x2 x3
    · rw [e20] at x2
      rw [unlS_k (by decide) (by decide) (by decide) (by decide)] at x3 ⊢
      exact g4 x x1 x2 x3
  · unfold TOT
    rw [e20, e20, s19, s14]
    omega
theorem readS_kps {S : St} {b : Int} (h17 : S 17 b = 1) : Kps S (readS S b) := by
  have e20 : ∀ i, readS S b 20 i = S 20 i := fun i => readS_k (by decide) (by decide)
  have ek : ∀ (k : Nat) (i : Int), k ≠ 15 → k ≠ 16 → readS S b k i = S k i := fun k i h1 h2 => readS_k h1 h2
  refine ⟨fun i _ _ => e20 i, fun hG => ?_, ?_⟩
  · obtain ⟨g1, g2, g3, g4⟩ := hG
    refine ⟨?_, ?_, fun x x1 x2 x3 => ?_, fun x x1 x2 x3 => ?_⟩
    · unfold caves at g1 ⊢
      rw [e20, e20, sm_congr (f := readS S b 19) (g := S 19) (fun i _ _ => ek 19 i (by decide) (by decide)), sm_congr (f := readS S b 1) (g := S 1) (fun i _ _ => ek 1 i (by decide) (by decide))]
      exact g1
    · unfold inF at g2 ⊢
      rw [e20, e20, sm_congr (f := readS S b 12) (g := S 12) (fun i _ _ => ek 12 i (by decide) (by decide)), cnt_congr (P := isF (readS S b) 2) (P' := isF S 2) (fun i _ _ => by unfold isF; rw [ek 18 i (by decide) (by decide)])]
      exact g2
    · rw [e20] at x2
      rw [ek 18 x (by decide) (by decide)] at x3
      rw [ek 14 x (by decide) (by decide)]
      exact g3 x x1 x2 x3
    · rw [e20] at x2
      rw [ek 17 x (by decide) (by decide)]
      by_cases e : x = b
      · subst e; exact h17
      · have e16 : readS S b 16 x = S 16 x := by
          unfold readS
          split
          · rfl
          · rw [u2_k (by decide), u2_i e]
        rw [e16] at x3
        exact g4 x x1 x2 x3
  · unfold TOT
    rw [e20, e20, sm_congr (f := readS S b 19) (g := S 19) (fun i _ _ => ek 19 i (by decide) (by decide)), sm_congr (f := readS S b 14) (g := S 14) (fun i _ _ => ek 14 i (by decide) (by decide))]
theorem mvS_kps (S : St) (b : Int) : Kps S (mvS S b) := kps_congr fun k i h => mvS_k (by omega)
theorem walkS_kps (S : St) (w : Int) : Kps S (walkS S w) := kps_congr fun k i h => walkS_k (by omega) (by omega)
theorem noteS_kps (S : St) (l : Int) : Kps S (noteS S l) := kps_congr fun k i h => noteS_k (by omega) (by omega)
theorem cat_e (S : St) (w b : Int) : (catS S w b 12 w = S 12 w + 1 ∧ ∀ i, i ≠ w → catS S w b 12 i = S 12 i) ∧ (catS S w b 18 b = 2 ∧ ∀ i, i ≠ b → catS S w b 18 i = S 18 i) ∧ (catS S w b 14 b = 0 ∧ ∀ i, i ≠ b → catS S w b 14 i = S 14 i) ∧ catS S w b 20 4 = S 20 4 + S 14 b := by
  unfold catS
  refine ⟨⟨?_, fun i hi => ?_⟩, ⟨?_, fun i hi => ?_⟩, ⟨?_, fun i hi => ?_⟩, ?_⟩ <;> simp [u2, *]
theorem catS_kps {S : St} {w b : Int} (w0 : 0 ≤ w) (w1 : w < S 20 2) (h0 : 0 ≤ b) (h1 : b < S 20 3) (h18 : S 18 b = 0) : Kps S (catS S w b) := by
  obtain ⟨⟨a1, a2⟩, ⟨b1, b2⟩, ⟨c1, c2⟩, d⟩ := cat_e S w b
  have e20 : ∀ i, i ≠ 4 → catS S w b 20 i = S 20 i := fun i hi => catS_k (by decide) (by decide) (by decide) (Or.inr hi)
  have s12 : sm (catS S w b 12) (S 20 2).toNat = sm (S 12) (S 20 2).toNat + 1 := by rw [sm_upd (f := S 12) (g := catS S w b 12) (b := w) (v := 1) w0 a1 a2, if_pos (by omega)]
  have s14 : sm (catS S w b 14) (S 20 3).toNat = sm (S 14) (S 20 3).toNat + -S 14 b := by rw [sm_upd (f := S 14) (g := catS S w b 14) (b := b) (v := -S 14 b) h0 (by rw [c1]; omega) c2, if_pos (by omega)]
  have s2 : cnt (isF (catS S w b) 2) (S 20 3).toNat = cnt (isF S 2) (S 20 3).toNat + 1 := by
    rw [cnt_upd (P := isF S 2) (P' := isF (catS S w b) 2) h0 (by unfold isF; rw [h18]; rfl) (by unfold isF; rw [b1]; rfl) (fun i hi => by unfold isF; rw [b2 i hi]), if_pos (by omega)]
  refine ⟨fun i _ hi => e20 i hi, fun hG => ?_, ?_⟩
  · obtain ⟨g1, g2, g3, g4⟩ := hG
    refine ⟨?_, ?_, fun x x1 x2 x3 => ?_, fun x x1 x2 x3 => ?_⟩
    · unfold caves at g1 ⊢
      rw [e20 3 (by decide), e20 5 (by decide), sm_congr (f := catS S w b 19) (g := S 19) (fun i _ _ => catS_k (by decide) (by decide) (by decide) (Or.inl (by decide))), sm_congr (f := catS S w b 1) (g := S 1) (fun i _ _ => catS_k (by decide) (by decide) (by decide) (Or.inl (by decide)))]
      exact g1
    · unfold inF at g2 ⊢
      rw [e20 2 (by decide), e20 3 (by decide), s12, s2]
      omega
    · rw [e20 3 (by decide)] at x2
      by_cases e : x = b
      · subst e; rw [b1] at x3; omega
      · rw [b2 x e] at x3
        rw [c2 x e]
        exact g3 x x1 x2 x3
    · rw [e20 3 (by decide)] at x2
      rw [catS_k (by decide) (by decide) (by decide) (Or.inl (by decide))] at x3 ⊢
      exact g4 x x1 x2 x3
  · unfold TOT
    rw [e20 3 (by decide), d, s14, sm_congr (f := catS S w b 19) (g := S 19) (fun i _ _ => catS_k (by decide) (by decide) (by decide) (Or.inl (by decide)))]
    omega
theorem fst_tr {P : Int → Bool} : ∀ n : Nat, fstB P n = -1 ∨ (0 ≤ fstB P n ∧ fstB P n < n ∧ P (fstB P n) = true)
  | 0 => Or.inl rfl
  | n + 1 => by
    show (if fstB P n ≠ -1 then fstB P n else if P (n : Int) = true then (n : Int) else -1) = -1 ∨ _
    have e : fstB P (n + 1) = if fstB P n ≠ -1 then fstB P n else if P (n : Int) = true then (n : Int) else -1 := rfl
    rw [e]
    rcases fst_tr (P := P) n with h | ⟨h1, h2, h3⟩
    · rw [if_neg (by omega)]
      by_cases g : P (n : Int) = true
      · rw [if_pos g]
        exact Or.inr ⟨by omega, by omega, g⟩
      · rw [if_neg g]
        exact Or.inl rfl
    · rw [if_pos (by omega)]
      exact Or.inr ⟨h1, by omega, h3⟩
theorem seizeS_kps {S : St} {w : Int} (w0 : 0 ≤ w) (w1 : w < S 20 2) (h3 : 0 ≤ S 20 3) : Kps S (seizeS S w) := by
  unfold seizeS
  rcases fst_tr (P := catB S w) (S 20 3).toNat with h | ⟨h1, h2, h4⟩
  · rw [if_pos h]; exact Kps.rf S
  · rw [if_neg (by omega)]
    refine catS_kps w0 w1 h1 (by omega) ?_
    unfold catB there at h4
    simp only [Bool.and_eq_true, decide_eq_true_eq] at h4
    exact h4.1.1
theorem boatS_kps {S : St} (hI : Inv S) {b : Int} (h0 : 0 ≤ b) (h1 : b < S 20 3) : Kps S (boatS S b) := by
  unfold boatS
  split
  · exact Kps.rf S
  · split
    · exact unlS_kps hI h0 h1 (by omega)
    · unfold sailS
      split
      · exact (readS_kps (by assumption)).tr (mvS_kps _ _)
      · exact mvS_kps _ _
theorem noteN_kps (S : St) : ∀ n : Nat, Kps S (noteN S n)
  | 0 => Kps.rf S
  | n + 1 => (noteN_kps S n).tr (noteS_kps _ _)
theorem boatN_kps {S : St} (hI : Inv S) : ∀ n : Nat, (n : Int) ≤ S 20 3 → Kps S (boatN S n)
  | 0, _ => Kps.rf S
  | n + 1, h => (boatN_kps hI n (by omega)).tr (boatS_kps (boatN_inv hI n) (by omega) (by rw [boatN_k (by decide) (by decide) (by decide) (by decide) (by decide) (by decide) (by decide)]; omega))
theorem watchN_kps {S : St} (hI : Inv S) : ∀ n : Nat, (n : Int) ≤ S 20 2 → Kps S (watchN S n)
  | 0, _ => Kps.rf S
  | n + 1, h => by
    have e : ∀ i, i ≠ 4 → watchN S n 20 i = S 20 i := fun i hi => watchN_k (by decide) (by decide) (by decide) (Or.inr hi) (by decide) (by decide) n
    have ic := hI.pc
    have e2 := e 2 (by decide)
    have e3 := e 3 (by decide)
    have f : ∀ i, walkS (watchN S n) n 20 i = watchN S n 20 i := fun i => walkS_k (by decide) (by decide)
    have f2 := f 2
    have f3 := f 3
    exact ((watchN_kps hI n (by omega)).tr (walkS_kps _ _)).tr (seizeS_kps (by omega) (by omega) (by omega))
theorem go_kps {S : St} (hI : Inv S) : Kps S (go S) := by
  have ic := hI.pc
  have s1 : Kps S (go1 S) := noteN_kps S _
  have i1 := go1_inv hI
  have e1 : go1 S 20 3 = S 20 3 := go1_k (by decide) (by decide)
  have s2 : Kps (go1 S) (go2 S) := boatN_kps i1 _ (by omega)
  have i2 := go2_inv hI
  have e2 : go2 S 20 2 = S 20 2 := go2_20
  have s3 : Kps (go2 S) (go3 S) := watchN_kps i2 _ (by omega)
  have s4 : Kps (go3 S) (go S) := kps_congr fun k i h => by
    unfold go
    by_cases e : k = 20
    · subst e; exact u2_i (by omega)
    · exact u2_k e
  exact ((s1.tr s2).tr s3).tr s4
theorem goN_kps {S : St} (hI : Inv S) : ∀ n : Nat, Kps S (goN S n)
  | 0 => Kps.rf S
  | n + 1 => (goN_kps hI n).tr (go_kps (goN_inv hI n))
theorem go_caves {S : St} (hI : Inv S) (hG : Gd S) : caves (go S) = caves S + goM S := by
  have h := (go_kps hI).2.1 hG
  have e3 : go S 20 3 = S 20 3 := go_20 (by decide) (by decide)
  have e5 : go S 20 5 = S 20 5 := go_20 (by decide) (by decide)
  have a := h.1
  rw [e3, e5, go_19] at a
  have b := hG.1
  omega
/-! the calls -/
def OK (S : St) (h : Int) : Prop := Inv S ∧ Dead S ∧ Gd S ∧ 0 ≤ S 20 0 ∧ S 20 0 ≤ h
theorem ok_setRoom {S : St} {h x q : Int} (H : OK S h) (hq : S 1 x ≤ q ∧ q ≤ 30) : OK (u2 S 0 x q) h :=
  ⟨inv0 H.1 hq, dead_u2 H.2.1 (by omega) (by omega) (by omega) (by omega) (by omega), gd_congr (fun k i a => u2_k (by omega)) H.2.2.1, H.2.2.2⟩
theorem ok_setCode {S : St} {h x q : Int} (H : OK S h) (hx : 1 ≤ x) (hq : -1 ≤ q ∧ q ≤ 15) : OK (u2 (u2 S 2 x q) 3 x 0) h :=
  ⟨inv3 (inv2 H.1 hq) (fun _ => rfl), dead_u2 (dead_u2 H.2.1 (by omega) (by omega) (by omega) (by omega) (by omega)) (by omega) (by omega) (by omega) (by omega) (by omega), gd_congr (fun k i a => by rw [u2_k (by omega), u2_k (by omega)]) H.2.2.1, H.2.2.2⟩
theorem ok_lantern {S : St} {h x : Int} (H : OK S h) (hx : 0 ≤ x ∧ x ≤ 15) (hn : S 20 1 < 5) : OK (sLantern S x) h := by
  have ic := H.1.pc
  exact ⟨inv201 (inv4 H.1 hx) (by omega), dead_lantern H.2.1, gd_congr (fun k i a => by unfold sLantern; by_cases e : k = 20; (subst e; rw [u2_i (by omega), u2_k (by decide)]); (rw [u2_k e, u2_k (by omega)])) H.2.2.1, H.2.2.2⟩
theorem ok_setShow {S : St} {h x w q : Int} (H : OK S h) (hx : 0 ≤ x ∧ x < S 20 1) (hw : 0 ≤ w ∧ w < 10) (hq : 0 ≤ q ∧ q ≤ 7) : OK (u2 S 5 (10 * x + w) q) h :=
  ⟨inv5 H.1 hq, dead_u2 H.2.1 (by omega) (by omega) (by omega) (by omega) (by omega), gd_congr (fun k i a => u2_k (by omega)) H.2.2.1, H.2.2.2⟩
theorem sm_last {f g : Int → Int} {n : Int} (h0 : 0 ≤ n) (hg : ∀ i, 0 ≤ i → i < n → g i = f i) : sm g (n + 1).toNat = sm f n.toNat + g n := by
  rw [sm_S _ h0, sm_congr (f := g) (g := f) (fun i a b => hg i a (by omega))]
theorem cnt_last {P Q : Int → Bool} {n : Int} (h0 : 0 ≤ n) (hg : ∀ i, 0 ≤ i → i < n → Q i = P i) : cnt Q (n + 1).toNat = cnt P n.toNat + bi (Q n) := by
  rw [cnt_S _ h0, cnt_congr (P := Q) (P' := P) (fun i a b => hg i a (by omega))]
theorem ok_watch {S : St} {h f t g : Int} (H : OK S h) (hf : 0 ≤ f) (hft : f ≤ t) (ht : t ≤ 15) (hg : 0 ≤ g ∧ g ≤ 3) (hn : S 20 2 < 4) : OK (sWatch S f t g) h := by
  have ic := H.1.pc
  have e20 : sWatch S f t g 20 2 = S 20 2 + 1 := rfl
  have ek : ∀ (k : Nat) (i : Int), k ≠ 7 → k ≠ 8 → k ≠ 9 → k ≠ 10 → k ≠ 11 → k ≠ 12 → (k ≠ 20 ∨ i ≠ 2) → sWatch S f t g k i = S k i := by
    intro k i h1 h2 h3 h4 h5 h6 h7
    unfold sWatch wat0
    have : u2 (u2 (u2 (u2 (u2 (u2 (u2 S 7 (S 20 2) f) 8 (S 20 2) t) 9 (S 20 2) g) 10 (S 20 2) f) 11 (S 20 2) 1) 12 (S 20 2) 0) 20 2 (S 20 2 + 1) k i = u2 (u2 (u2 (u2 (u2 (u2 S 7 (S 20 2) f) 8 (S 20 2) t) 9 (S 20 2) g) 10 (S 20 2) f) 11 (S 20 2) 1) 12 (S 20 2) 0 k i := by
      by_cases e : k = 20
      · subst e; exact u2_i (by omega)
      · exact u2_k e
    rw [this, u2_k h6, u2_k h5, u2_k h4, u2_k h3, u2_k h2, u2_k h1]
  refine ⟨inv_watch H.1 hf hft ht hg hn, dead_watch H.2.1, ?_, H.2.2.2⟩
  obtain ⟨g1, g2, g3, g4⟩ := H.2.2.1
  have k3 := ek 20 3 (by decide) (by decide) (by decide) (by decide) (by decide) (by decide) (by decide)
  have k5 := ek 20 5 (by decide) (by decide) (by decide) (by decide) (by decide) (by decide) (by decide)
  refine ⟨?_, ?_, fun b a1 a2 a3 => ?_, fun b a1 a2 a3 => ?_⟩
  · unfold caves at g1 ⊢
    rw [k3, k5, sm_congr (f := sWatch S f t g 19) (g := S 19) (fun i _ _ => ek 19 i (by decide) (by decide) (by decide) (by decide) (by decide) (by decide) (Or.inl (by decide))), sm_congr (f := sWatch S f t g 1) (g := S 1) (fun i _ _ => ek 1 i (by decide) (by decide) (by decide) (by decide) (by decide) (by decide) (Or.inl (by decide)))]
    exact g1
  · unfold inF at g2 ⊢
    have e12 : ∀ i, sWatch S f t g 12 i = if i = S 20 2 then 0 else S 12 i := fun i => by unfold sWatch wat0 u2; by_cases e : i = S 20 2 <;> simp [e]
    rw [e20, k3, sm_last (f := S 12) ic.2.2.2.1 (fun i _ a => by rw [e12, if_neg (by omega)]), e12, if_pos rfl, cnt_congr (P := isF (sWatch S f t g) 2) (P' := isF S 2) (fun i _ _ => by unfold isF; rw [ek 18 i (by decide) (by decide) (by decide) (by decide) (by decide) (by decide) (Or.inl (by decide))])]
    omega
  · rw [k3] at a2
    rw [ek 18 b (by decide) (by decide) (by decide) (by decide) (by decide) (by decide) (Or.inl (by decide))] at a3
    rw [ek 14 b (by decide) (by decide) (by decide) (by decide) (by decide) (by decide) (Or.inl (by decide))]
    exact g3 b a1 a2 a3
  · rw [k3] at a2
    rw [ek 16 b (by decide) (by decide) (by decide) (by decide) (by decide) (by decide) (Or.inl (by decide))] at a3
    rw [ek 17 b (by decide) (by decide) (by decide) (by decide) (by decide) (by decide) (Or.inl (by decide))]
    exact g4 b a1 a2 a3
theorem ok_boat {S : St} {h x q : Int} (H : OK S h) (hx : 0 ≤ x ∧ x ≤ 15) (hq : 1 ≤ q ∧ q ≤ 20) (hn : S 20 3 < 6) : OK (sBoat S x q) h := by
  have ic := H.1.pc
  have e14 : ∀ i, sBoat S x q 14 i = if i = S 20 3 then q else S 14 i := fun i => by unfold sBoat boat0 u2; by_cases e : i = S 20 3 <;> simp [e]
  have e16 : ∀ i, sBoat S x q 16 i = if i = S 20 3 then 0 else S 16 i := fun i => by unfold sBoat boat0 u2; by_cases e : i = S 20 3 <;> simp [e]
  have e17 : ∀ i, sBoat S x q 17 i = if i = S 20 3 then 1 else S 17 i := fun i => by unfold sBoat boat0 u2; by_cases e : i = S 20 3 <;> simp [e]
  have e18 : ∀ i, sBoat S x q 18 i = if i = S 20 3 then 0 else S 18 i := fun i => by unfold sBoat boat0 u2; by_cases e : i = S 20 3 <;> simp [e]
  have e19 : ∀ i, sBoat S x q 19 i = if i = S 20 3 then 0 else S 19 i := fun i => by unfold sBoat boat0 u2; by_cases e : i = S 20 3 <;> simp [e]
  have e20 : sBoat S x q 20 3 = S 20 3 + 1 := rfl
  have k2 : sBoat S x q 20 2 = S 20 2 := rfl
  have k5 : sBoat S x q 20 5 = S 20 5 := rfl
  refine ⟨inv_boat H.1 hx hq hn, dead_boat H.2.1, ?_, H.2.2.2⟩
  obtain ⟨g1, g2, g3, g4⟩ := H.2.2.1
  refine ⟨?_, ?_, fun b a1 a2 a3 => ?_, fun b a1 a2 a3 => ?_⟩
  · unfold caves at g1 ⊢
    rw [e20, k5, sm_last (f := S 19) ic.2.2.2.2.2.1 (fun i _ a => by rw [e19, if_neg (by omega)]), e19, if_pos rfl, sm_congr (f := sBoat S x q 1) (g := S 1) (fun i _ _ => rfl)]
    omega
  · unfold inF at g2 ⊢
    rw [e20, k2, cnt_last (P := isF S 2) ic.2.2.2.2.2.1 (fun i _ a => by unfold isF; rw [e18, if_neg (by omega)]), sm_congr (f := sBoat S x q 12) (g := S 12) (fun i _ _ => rfl), show isF (sBoat S x q) 2 (S 20 3) = false from by unfold isF; rw [e18, if_pos rfl]; rfl, bi_f]
    omega
  · rw [e20] at a2
    rw [e18] at a3
    rw [e14]
    by_cases e : b = S 20 3
    · rw [if_pos e]; omega
    · rw [if_neg e] at a3 ⊢
      exact g3 b a1 (by omega) a3
  · rw [e20] at a2
    rw [e16] at a3
    rw [e17]
    by_cases e : b = S 20 3
    · rw [if_pos e]
    · rw [if_neg e] at a3 ⊢
      exact g4 b a1 (by omega) a3
theorem ok_send {S : St} {h b q : Int} (H : OK S h) (hb : b < S 20 3) (hq : -1 ≤ q ∧ q ≤ 15) : OK (sendS S b q) h := by
  have e16 : ∀ i, sendS S b q 16 i = if i = b then 0 else S 16 i := fun i => by unfold sendS u2; by_cases e : i = b <;> simp [e]
  have e17 : ∀ i, i ≠ b → sendS S b q 17 i = S 17 i := fun i hi => by unfold sendS u2; simp [hi]
  refine ⟨sendS_inv H.1 hq, sendS_dead H.2.1 hb, ?_, H.2.2.2⟩
  obtain ⟨g1, g2, g3, g4⟩ := H.2.2.1
  refine ⟨g1, g2, g3, fun x a1 a2 a3 => ?_⟩
  rw [e16] at a3
  by_cases e : x = b
  · rw [if_pos e] at a3; omega
  · rw [if_neg e] at a3
    rw [e17 x e]
    exact g4 x a1 a2 a3
theorem ok_carry {S : St} {h p m : Int} (H : OK S h) (hp : 0 ≤ p ∧ p ≤ 15) (hm : 1 ≤ m ∧ m ≤ S 1 p) : OK (sCarry S p m) h := by
  have b01 := H.1.p01 p
  refine ⟨inv205 (inv1 H.1 (by omega)), ?_, ?_, H.2.2.2⟩
  · exact dead_u2 (dead_u2 H.2.1 (by omega) (by omega) (by omega) (by omega) (by omega)) (by omega) (by omega) (by omega) (by omega) (by omega)
  · obtain ⟨g1, g2, g3, g4⟩ := H.2.2.1
    refine ⟨?_, g2, g3, g4⟩
    have e5 : sCarry S p m 20 5 = S 20 5 + m := u2_at _ _ _ _
    have e19 : sCarry S p m 19 = S 19 := rfl
    have e3 : sCarry S p m 20 3 = S 20 3 := rfl
    have ec : caves (sCarry S p m) = caves S + -m := by
      unfold caves
      rw [sm_upd (f := S 1) (g := sCarry S p m 1) (b := p) (v := -m) hp.1 (by unfold sCarry; rw [u2_k (by decide), u2_at]; omega) (fun i hi => by unfold sCarry; rw [u2_k (by decide), u2_i hi]), if_pos (by omega)]
    rw [e5, e19, e3, ec]
    omega
theorem ok_go {S : St} {h : Int} (H : OK S h) (n : Nat) : OK (goN S n) (h + n) := by
  have e0 := goN_hour S n
  exact ⟨goN_inv H.1 n, goN_dead H.1 H.2.1 n, (goN_kps H.1 n).2.1 H.2.2.1, by have := H.2.2.2; omega, by have := H.2.2.2; omega⟩
theorem OK.le {S : St} {h h' : Int} (H : OK S h) (hh : h ≤ h') : OK S h' := ⟨H.1, H.2.1, H.2.2.1, H.2.2.2.1, Int.le_trans H.2.2.2.2 hh⟩
theorem goN_cnt {S : St} (n : Nat) : goN S n 20 1 = S 20 1 ∧ goN S n 20 2 = S 20 2 ∧ goN S n 20 3 = S 20 3 := ⟨goN_20 (by decide) (by decide) n, goN_20 (by decide) (by decide) n, goN_20 (by decide) (by decide) n⟩
