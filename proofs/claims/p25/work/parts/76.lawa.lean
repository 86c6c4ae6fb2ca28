/-! The law's walk: one hour's checks. -/
abbrev RW : Room := { frames := 12, cells := 630427, slots := 7210188, locals := 452 }
theorem mm_0 (a b c : St) (M : Mem) : mm a b c M 0 = a := rfl
theorem V.gen4 {p : Program} {l : Launch} {e : Env} {R : Room} {s : State} {m : MethodId} {args : Array Value} {below : List Frame} {meth : Method} {c : Code} {nL : Nat} {cy : Nat → ClassId} {D : va_G} {ad : Nat → Nat → Int → Nat} {A : Nat → Prop} {kc ks : Nat} {Q : State → Prop} {pc : Nat} {lv : List (Option Value)} {st : List Value} {a1 a2 a3 W : St} {M : Mem} (k : ∀ W' : St, W' = W → V p l e R s m args below meth c nL cy D ad A kc ks Q pc lv st (mm a1 a2 a3 (setc M 4 W'))) : V p l e R s m args below meth c nL cy D ad A kc ks Q pc lv st (mm a1 a2 a3 (setc M 4 W)) := k W rfl
def Tr (T S : St) : Prop := Dead T ∧ (T 20 1 ≤ S 20 1 ∧ T 20 2 ≤ S 20 2 ∧ T 20 3 ≤ S 20 3)
theorem tr_go {S : St} (hI : Inv S) (hD : Dead S) (n : Nat) : Tr (goN S n) S := ⟨goN_dead hI hD n, by have := goN_cnt (S := S) n; omega⟩
theorem Tr.le {T S S' : St} (h : Tr T S) (h1 : S 20 1 ≤ S' 20 1) (h2 : S 20 2 ≤ S' 20 2) (h3 : S 20 3 ≤ S' 20 3) : Tr T S' := ⟨h.1, by have := h.2; omega⟩
theorem untR_bd (S : St) (b : Int) : -1 ≤ untR S b ∧ untR S b ≤ 120 := by
  have h := (unt_or S b 120 0).2.1
  unfold untR
  split <;> omega
theorem kn_ge {S : St} {x : Int} (h0 : 0 < x) (h : i32 3 ≤ i32 (S 3 x)) : bi (kn S x) = 1 := by
  unfold kn
  rw [decide_eq_true h0, decide_eq_false (by rw [Int32.lt_iff_toInt_lt]; rw [Int32.le_iff_toInt_le] at h; omega)]
  rfl
theorem kn_lt {S : St} {x : Int} (h : ¬ i32 3 ≤ i32 (S 3 x)) : bi (kn S x) = 0 := by
  unfold kn
  rw [decide_eq_true (show i32 (S 3 x) < i32 3 by rw [Int32.lt_iff_toInt_lt]; rw [Int32.le_iff_toInt_le] at h; omega)]
  simp [bi]
/-- the law's five rows -/
def Ar (ad : Nat → Nat → Int → Nat) (nb : Int) : Prop := (ad 40 24 0 = 1 ∧ (ad 41 24 0 : Int) = 5) ∧ (ad 40 25 0 = 1 ∧ (ad 41 25 0 : Int) = nb) ∧ (ad 40 26 0 = 1 ∧ (ad 41 26 0 : Int) = nb) ∧ (ad 40 27 0 = 1 ∧ (ad 41 27 0 : Int) = nb) ∧ (ad 40 28 0 = 1 ∧ (ad 41 28 0 : Int) = nb)
/-- what they hold ahead of boat j -/
def LA (S : St) (j : Int) (W : St) : Prop := (∀ k, 0 ≤ k → k < 5 → W 0 k = cnt (stK S k) j.toNat) ∧ ∀ i, 0 ≤ i → i < j → W 1 i = S 13 i ∧ W 2 i = S 15 i ∧ W 3 i = untR S i ∧ W 4 i = stg S i
theorem la_2 {S W W1 W2 : St} {j : Int} (h0 : 0 ≤ j) (e1 : W1 = u2 (u2 (u2 W 1 j (S 13 j)) 2 j (S 15 j)) 4 j (stg S j)) (e2 : W2 = u2 (u2 W1 0 (W1 4 j) (W1 0 (W1 4 j) + 1)) 3 j (untR S j)) (h : LA S j W) : (W2 4 j = stg S j ∧ W2 1 j = S 13 j ∧ W2 2 j = S 15 j ∧ W2 3 j = untR S j) ∧ LA S (j + 1) W2 := by
  have q : W2 4 j = stg S j ∧ W2 1 j = S 13 j ∧ W2 2 j = S 15 j ∧ W2 3 j = untR S j := by
    rw [e2, e1]
    refine ⟨?_, ?_, ?_, ?_⟩ <;> simp [u2]
  have f4 : W1 4 j = stg S j := by rw [e1]; exact u2_at _ _ _ _
  have o : ∀ (k : Nat) (i : Int), k ≠ 0 → i ≠ j → W2 k i = W k i := fun k i hk hi => by
    rw [e2, e1]
    simp [u2, hk, hi]
  refine ⟨q, fun k k0 k5 => ?_, fun i i0 i1 => ?_⟩
  · have a : W2 0 k = if k = stg S j then W 0 k + 1 else W 0 k := by
      have b : W1 0 = W 0 := by rw [e1]; funext i; simp [u2]
      rw [e2, u2_k (by decide), f4, b]
      by_cases z : k = stg S j
      · rw [if_pos z, z, u2_at]
      · rw [if_neg z, u2_i z, b]
    rw [a, cnt_S _ h0, h.1 k k0 k5]
    unfold stK
    by_cases z : k = stg S j
    · rw [if_pos z, decide_eq_true z.symm]; rfl
    · rw [if_neg z, decide_eq_false (fun y => z y.symm)]; simp [bi]
  · by_cases z : i = j
    · rw [z]
      exact ⟨q.2.1, q.2.2.1, q.2.2.2, q.1⟩
    · rw [o 1 i (by decide) z, o 2 i (by decide) z, o 3 i (by decide) z, o 4 i (by decide) z]
      exact h.2 i i0 (by omega)
section KK
variable {l : Launch} {cy : Nat → ClassId} {D : va_G} {ad : Nat → Nat → Int → Nat} {X : Mem} {S : St} {x : Int}
theorem K_t0 (h : X 0 = S) (hI : Inv S) (hx : 0 ≤ x ∧ x < S 20 3) : Ct l cy D ad yX4_told cX4_told 3 (some FieldType.int) 2 [.ref (ad 0 0 0), .int (i32 x), .int (i32 0)] X (some (.int (i32 (S 13 x)))) X := K_X4_told (w := 0) h hI hx (by decide)
theorem K_t1 (h : X 0 = S) (hI : Inv S) (hx : 0 ≤ x ∧ x < S 20 3) : Ct l cy D ad yX4_told cX4_told 3 (some FieldType.int) 2 [.ref (ad 0 0 0), .int (i32 x), .int (i32 1)] X (some (.int (i32 (S 14 x)))) X := K_X4_told (w := 1) h hI hx (by decide)
theorem K_t2 (h : X 0 = S) (hI : Inv S) (hx : 0 ≤ x ∧ x < S 20 3) : Ct l cy D ad yX4_told cX4_told 3 (some FieldType.int) 2 [.ref (ad 0 0 0), .int (i32 x), .int (i32 2)] X (some (.int (i32 (S 15 x)))) X := K_X4_told (w := 2) h hI hx (by decide)
theorem K_t3 (h : X 0 = S) (hI : Inv S) (hx : 0 ≤ x ∧ x < S 20 3) : Ct l cy D ad yX4_told cX4_told 3 (some FieldType.int) 2 [.ref (ad 0 0 0), .int (i32 x), .int (i32 3)] X (some (.int (i32 (stg S x)))) X := K_X4_told (w := 3) h hI hx (by decide)
theorem K_t4 (h : X 0 = S) (hI : Inv S) (hx : 0 ≤ x ∧ x < S 20 3) : Ct l cy D ad yX4_told cX4_told 3 (some FieldType.int) 2 [.ref (ad 0 0 0), .int (i32 x), .int (i32 4)] X (some (.int (i32 (S 19 x)))) X := K_X4_told (w := 4) h hI hx (by decide)
theorem K_t5 (h : X 0 = S) (hI : Inv S) (hx : 0 ≤ x ∧ x < S 20 3) : Ct l cy D ad yX4_told cX4_told 3 (some FieldType.int) 2 [.ref (ad 0 0 0), .int (i32 x), .int (i32 5)] X (some (.int (i32 (S 16 x)))) X := K_X4_told (w := 5) h hI hx (by decide)
theorem K_t6 (h : X 0 = S) (hI : Inv S) (hx : 0 ≤ x ∧ x < S 20 3) : Ct l cy D ad yX4_told cX4_told 3 (some FieldType.int) 2 [.ref (ad 0 0 0), .int (i32 x), .int (i32 6)] X (some (.int (i32 (S 17 x)))) X := K_X4_told (w := 6) h hI hx (by decide)
theorem K_q0 (h : X 0 = S) (hI : Inv S) (hh : 0 ≤ S 20 0 ∧ S 20 0 < 900000) (hx : 0 ≤ x ∧ x ≤ 15) : Ct l cy D ad yX4_place cX4_place 3 (some FieldType.int) 5 [.ref (ad 0 0 0), .int (i32 x), .int (i32 0)] X (some (.int (i32 (S 0 x)))) X := K_X4_place (w := 0) h hI hh hx (by decide)
theorem K_q1 (h : X 0 = S) (hI : Inv S) (hh : 0 ≤ S 20 0 ∧ S 20 0 < 900000) (hx : 0 ≤ x ∧ x ≤ 15) : Ct l cy D ad yX4_place cX4_place 3 (some FieldType.int) 5 [.ref (ad 0 0 0), .int (i32 x), .int (i32 1)] X (some (.int (i32 (S 1 x)))) X := K_X4_place (w := 1) h hI hh hx (by decide)
theorem K_q2 (h : X 0 = S) (hI : Inv S) (hh : 0 ≤ S 20 0 ∧ S 20 0 < 900000) (hx : 0 ≤ x ∧ x ≤ 15) : Ct l cy D ad yX4_place cX4_place 3 (some FieldType.int) 5 [.ref (ad 0 0 0), .int (i32 x), .int (i32 2)] X (some (.int (i32 (nAtW S x)))) X := K_X4_place (w := 2) h hI hh hx (by decide)
theorem K_q4 (h : X 0 = S) (hI : Inv S) (hh : 0 ≤ S 20 0 ∧ S 20 0 < 900000) (hx : 0 ≤ x ∧ x ≤ 15) : Ct l cy D ad yX4_place cX4_place 3 (some FieldType.int) 5 [.ref (ad 0 0 0), .int (i32 x), .int (i32 4)] X (some (.int (i32 (wP S x)))) X := K_X4_place (w := 4) h hI hh hx (by decide)
theorem K_c1 (h : X 0 = S) (hI : Inv S) (hx : 1 ≤ x ∧ x ≤ 7) : Ct l cy D ad yX4_code cX4_code 3 (some FieldType.int) 5 [.ref (ad 0 0 0), .int (i32 x), .int (i32 1)] X (some (.int (i32 (S 3 x)))) X := K_X4_code (w := 1) h hI hx (by decide)
theorem K_c2 (h : X 0 = S) (hI : Inv S) (hx : 1 ≤ x ∧ x ≤ 7) : Ct l cy D ad yX4_code cX4_code 3 (some FieldType.int) 5 [.ref (ad 0 0 0), .int (i32 x), .int (i32 2)] X (some (.int (i32 (bi (kn S x))))) X := K_X4_code (w := 2) h hI hx (by decide)
theorem K_c3 (h : X 0 = S) (hI : Inv S) (hx : 1 ≤ x ∧ x ≤ 7) : Ct l cy D ad yX4_code cX4_code 3 (some FieldType.int) 5 [.ref (ad 0 0 0), .int (i32 x), .int (i32 3)] X (some (.int (i32 (nLdB S x)))) X := K_X4_code (w := 3) h hI hx (by decide)
theorem K_a0 (h : X 0 = S) (hI : Inv S) (hh : 0 ≤ S 20 0 ∧ S 20 0 < 900000) (hx : 0 ≤ x ∧ x < S 20 2) : Ct l cy D ad yX4_about cX4_about 3 (some FieldType.int) 3 [.ref (ad 0 0 0), .int (i32 x), .int (i32 0)] X (some (.int (i32 (S 10 x)))) X := K_X4_about (w := 0) h hI hh hx (by decide)
theorem K_a1 (h : X 0 = S) (hI : Inv S) (hh : 0 ≤ S 20 0 ∧ S 20 0 < 900000) (hx : 0 ≤ x ∧ x < S 20 2) : Ct l cy D ad yX4_about cX4_about 3 (some FieldType.int) 3 [.ref (ad 0 0 0), .int (i32 x), .int (i32 1)] X (some (.int (i32 (S 11 x)))) X := K_X4_about (w := 1) h hI hh hx (by decide)
theorem K_a2 (h : X 0 = S) (hI : Inv S) (hh : 0 ≤ S 20 0 ∧ S 20 0 < 900000) (hx : 0 ≤ x ∧ x < S 20 2) : Ct l cy D ad yX4_about cX4_about 3 (some FieldType.int) 3 [.ref (ad 0 0 0), .int (i32 x), .int (i32 2)] X (some (.int (i32 (sgP S x)))) X := K_X4_about (w := 2) h hI hh hx (by decide)
theorem K_a3 (h : X 0 = S) (hI : Inv S) (hh : 0 ≤ S 20 0 ∧ S 20 0 < 900000) (hx : 0 ≤ x ∧ x < S 20 2) : Ct l cy D ad yX4_about cX4_about 3 (some FieldType.int) 3 [.ref (ad 0 0 0), .int (i32 x), .int (i32 3)] X (some (.int (i32 (sgL S x)))) X := K_X4_about (w := 3) h hI hh hx (by decide)
theorem K_a4 (h : X 0 = S) (hI : Inv S) (hh : 0 ≤ S 20 0 ∧ S 20 0 < 900000) (hx : 0 ≤ x ∧ x < S 20 2) : Ct l cy D ad yX4_about cX4_about 3 (some FieldType.int) 3 [.ref (ad 0 0 0), .int (i32 x), .int (i32 4)] X (some (.int (i32 (S 12 x)))) X := K_X4_about (w := 4) h hI hh hx (by decide)
theorem K_n2 (h : X 0 = S) (hI : Inv S) : Ct l cy D ad yX4_count cX4_count 2 (some FieldType.int) 5 [.ref (ad 0 0 0), .int (i32 2)] X (some (.int (i32 (S 20 2)))) X := K_X4_count (x := 2) h hI (by decide)
theorem K_n3 (h : X 0 = S) (hI : Inv S) : Ct l cy D ad yX4_count cX4_count 2 (some FieldType.int) 5 [.ref (ad 0 0 0), .int (i32 3)] X (some (.int (i32 (S 20 3)))) X := K_X4_count (x := 3) h hI (by decide)
theorem K_n4 (h : X 0 = S) (hI : Inv S) : Ct l cy D ad yX4_count cX4_count 2 (some FieldType.int) 5 [.ref (ad 0 0 0), .int (i32 4)] X (some (.int (i32 (inF S 0)))) X := K_X4_count (x := 4) h hI (by decide)
theorem K_n5 (h : X 0 = S) (hI : Inv S) : Ct l cy D ad yX4_count cX4_count 2 (some FieldType.int) 5 [.ref (ad 0 0 0), .int (i32 5)] X (some (.int (i32 (inF S 1)))) X := K_X4_count (x := 5) h hI (by decide)
theorem K_n6 (h : X 0 = S) (hI : Inv S) : Ct l cy D ad yX4_count cX4_count 2 (some FieldType.int) 5 [.ref (ad 0 0 0), .int (i32 6)] X (some (.int (i32 (inF S 2)))) X := K_X4_count (x := 6) h hI (by decide)
theorem K_n7 (h : X 0 = S) (hI : Inv S) : Ct l cy D ad yX4_count cX4_count 2 (some FieldType.int) 5 [.ref (ad 0 0 0), .int (i32 7)] X (some (.int (i32 (caves S)))) X := K_X4_count (x := 7) h hI (by decide)
theorem K_n8 (h : X 0 = S) (hI : Inv S) : Ct l cy D ad yX4_count cX4_count 2 (some FieldType.int) 5 [.ref (ad 0 0 0), .int (i32 8)] X (some (.int (i32 (S 20 4)))) X := K_X4_count (x := 8) h hI (by decide)
theorem K_n9 (h : X 0 = S) (hI : Inv S) : Ct l cy D ad yX4_count cX4_count 2 (some FieldType.int) 5 [.ref (ad 0 0 0), .int (i32 9)] X (some (.int (i32 (S 20 5)))) X := K_X4_count (x := 9) h hI (by decide)
theorem K_n10 (h : X 0 = S) (hI : Inv S) : Ct l cy D ad yX4_count cX4_count 2 (some FieldType.int) 5 [.ref (ad 0 0 0), .int (i32 10)] X (some (.int (i32 (known S)))) X := K_X4_count (x := 10) h hI (by decide)
end KK
section LAWA
variable {p : Program} {l : Launch} {e : Env} {s : State} {m : MethodId} {below : List Frame} {meth : Method} {c : Code} {ret : Option FieldType} {cy : Nat → ClassId} {D : va_G} {ad : Nat → Nat → Int → Nat} {A : Nat → Prop} {b kc ks : Nat} {Q : State → Prop} {M : Mem}
set_option maxHeartbeats 4000000 in
set_option maxRecDepth 100000 in
theorem law_A {S : St} {tm v : Int} {dg : Int64} (F : Fx p s m #[Value.ref b] meth c RL cL_law 27 ret cy D ad A) (hI : Inv S) (hG : Gd S) (hD : Dead S) (hh : 0 ≤ S 20 0 ∧ S 20 0 < 800000) (hAr : Ar ad (S 20 3)) (hR : kc ≤ 630427 ∧ ks ≤ 7210188) (kk : ∀ T W : St, Tr T S → LA S (S 20 3) W → V p l e RW s m #[Value.ref b] below meth c 27 cy D ad A kc ks Q 412 [some (.ref b), some (.ref (ad 0 0 0)), some (.ref (ad 13 2 0)), some (.int (i32 tm)), some (.int (i32 v)), some (.long dg), none, some (.int (i32 (S 20 3))), some (.int (i32 0)), some (.int (i32 (sm (balF S) (S 20 3).toNat))), some (.int (i32 (sm (S 19) (S 20 3).toNat))), some (.ref (ad 24 2 0)), some (.ref (ad 25 2 0)), some (.ref (ad 26 2 0)), some (.ref (ad 27 2 0)), some (.ref (ad 28 2 0)), none, none, none, none, none, none, none, none, none, none, none] [] (mm S T S (setc M 4 W))) : ∀ (n : Nat) (j : Int) (T W : St), 0 ≤ j → j + (n : Int) = S 20 3 → Tr T S → LA S j W → V p l e RW s m #[Value.ref b] below meth c 27 cy D ad A kc ks Q 111 [some (.ref b), some (.ref (ad 0 0 0)), some (.ref (ad 13 2 0)), some (.int (i32 tm)), some (.int (i32 v)), some (.long dg), none, some (.int (i32 (S 20 3))), some (.int (i32 0)), some (.int (i32 (sm (balF S) (j).toNat))), some (.int (i32 (sm (S 19) (j).toNat))), some (.ref (ad 24 2 0)), some (.ref (ad 25 2 0)), some (.ref (ad 26 2 0)), some (.ref (ad 27 2 0)), some (.ref (ad 28 2 0)), some (.int (i32 j)), none, none, none, none, none, none, none, none, none, none] [] (mm S T S (setc M 4 W)) := by
  have hh9 : 0 ≤ S 20 0 ∧ S 20 0 < 900000 := ⟨hh.1, by omega⟩
  have ic := hI.pc
  obtain ⟨⟨hs24, hl24⟩, ⟨hs25, hl25⟩, ⟨hs26, hl26⟩, ⟨hs27, hl27⟩, ⟨hs28, hl28⟩⟩ := hAr
  intro n
  induction n with
  | zero =>
    intro j T W h0 h1 hT hW
    have ej : j = S 20 3 := by omega
    subst ej
    refine r_iload F dL_law_111 rfl ?_
    refine r_iload F dL_law_113 rfl ?_
    refine r_icmp_ge (tgt := 412) F dL_law_115 (by decide) (by first | assumption | exact ir_of (by omega) (by omega)) (by first | assumption | exact ir_of (by omega) (by omega)) (fun h115 => ?_) (fun h115 => ?_)
    · refine V.kill (lv1 := [_, _, _, _, _, _, _, _, _, _, _, _, _, _, _, _, _, _, _, _, _, _, _, _, _, _, _]) 16 rfl ?_
      exact kk T W hT hW
    · exfalso; omega
  | succ n ih =>
    intro j T W h0 h1 hT hW
    have b13 := hI.p13 j
    have b14 := hI.p14 j
    have b15 := hI.p15 j
    have b16 := hI.p16 j
    have b17 := hI.p17 j
    have b18 := hI.p18 j
    have bg := hI.pg j
    have g3 := hG.2.2.1 j h0 (by omega)
    have g4 := hG.2.2.2 j h0 (by omega)
    have u0 := untR_0 (S := S) (b := j)
    have ub := untR_bd S j
    have sbd : 0 ≤ stg S j ∧ stg S j ≤ 4 := by have o9 := stg_or S j; omega
    refine r_iload F dL_law_111 rfl ?_
    refine r_iload F dL_law_113 rfl ?_
    refine r_icmp_ge (tgt := 412) F dL_law_115 (by decide) (by first | assumption | exact ir_of (by omega) (by omega)) (by first | assumption | exact ir_of (by omega) (by omega)) (fun h115 => ?_) (fun h115 => ?_)
    · exfalso; omega
    · refine r_aload F dL_law_118 rfl ?_
      refine r_iload F dL_law_120 rfl ?_
      refine r_aload_n (i := 1) F dL_law_122 rfl rfl ?_
      refine r_iload F dL_law_123 rfl ?_
      refine r_iconst F dL_law_125 ?_
      refine r_callV F (K_t0 (mm_0 _ _ _ _) hI ⟨by omega, by omega⟩) dL_law_126 lkv_L_112 rfl rfl rfl rfl rfl cd_X4_told (by decide) ⟨by show _ ≤ 630427; omega, by show _ ≤ 7210188; omega⟩ (Nat.le_of_ble_eq_true rfl) ?_
      refine ws_25 F dL_law_129 hs25 (by omega) (by omega) (by omega) ?_
      refine r_aload F dL_law_130 rfl ?_
      refine r_iload F dL_law_132 rfl ?_
      refine r_aload_n (i := 1) F dL_law_134 rfl rfl ?_
      refine r_iload F dL_law_135 rfl ?_
      refine r_iconst F dL_law_137 ?_
      refine r_callV F (K_t2 (mm_0 _ _ _ _) hI ⟨by omega, by omega⟩) dL_law_138 lkv_L_112 rfl rfl rfl rfl rfl cd_X4_told (by decide) ⟨by show _ ≤ 630427; omega, by show _ ≤ 7210188; omega⟩ (Nat.le_of_ble_eq_true rfl) ?_
      refine ws_26 F dL_law_141 hs26 (by omega) (by omega) (by omega) ?_
      refine r_aload F dL_law_142 rfl ?_
      refine r_iload F dL_law_144 rfl ?_
      refine r_aload_n (i := 1) F dL_law_146 rfl rfl ?_
      refine r_iload F dL_law_147 rfl ?_
      refine r_iconst F dL_law_149 ?_
      refine r_callV F (K_t3 (mm_0 _ _ _ _) hI ⟨by omega, by omega⟩) dL_law_150 lkv_L_112 rfl rfl rfl rfl rfl cd_X4_told (by decide) ⟨by show _ ≤ 630427; omega, by show _ ≤ 7210188; omega⟩ (Nat.le_of_ble_eq_true rfl) ?_
      refine ws_28 F dL_law_153 hs28 (by omega) (by omega) (by omega) ?_
      refine V.gen4 (fun W1 eW1 => ?_)
      have f4 : W1 4 j = stg S j := by rw [eW1]; exact u2_at _ _ _ _
      refine r_aload F dL_law_154 rfl ?_
      refine r_aload F dL_law_156 rfl ?_
      refine r_iload F dL_law_158 rfl ?_
      refine wg_28 F dL_law_160 hs28 (by omega) (by omega) (by omega) ?_
      refine r_dup2 F dL_law_161 rfl rfl ?_
      refine wg_24 F dL_law_162 hs24 (by omega) (by omega) (by omega) ?_
      refine r_iconst F dL_law_163 ?_
      refine r_iadd F dL_law_164 ?_
      refine ws_24 F dL_law_165 hs24 (by omega) (by omega) (by omega) ?_
      refine V.gen4 (fun W3 eW3 => ?_)
      have f5 : W3 4 j = stg S j := by rw [eW3, u2_k (by decide)]; exact f4
      rcases stg_or S j with ⟨o1, o2⟩ | ⟨o1, o2⟩ | ⟨o1, o2, o3, o4⟩ | ⟨o1, o2, o3, o4, o5⟩ | ⟨o1, o2, o3, o4, o5⟩
      · refine r_iload F dL_law_166 rfl ?_
        refine r_aload_n (i := 1) F dL_law_168 rfl rfl ?_
        refine r_iload F dL_law_169 rfl ?_
        refine r_iconst F dL_law_171 ?_
        refine r_callV F (K_t4 (mm_0 _ _ _ _) hI ⟨by omega, by omega⟩) dL_law_172 lkv_L_112 rfl rfl rfl rfl rfl cd_X4_told (by decide) ⟨by show _ ≤ 630427; omega, by show _ ≤ 7210188; omega⟩ (Nat.le_of_ble_eq_true rfl) ?_
        refine r_iadd F dL_law_175 ?_
        refine r_istore (lv1 := [_, _, _, _, _, _, _, _, _, _, _, _, _, _, _, _, _, _, _, _, _, _, _, _, _, _, _]) F dL_law_176 (by decide) rfl rfl ?_
        refine r_iload F dL_law_178 rfl ?_
        refine r_aload F dL_law_180 rfl ?_
        refine r_iload F dL_law_182 rfl ?_
        refine wg_28 F dL_law_184 hs28 (by omega) (by omega) (by omega) ?_
        refine r_iconst F dL_law_185 ?_
        refine r_icmp_ge (tgt := 199) F dL_law_186 (by decide) (by first | assumption | exact ir_of (by omega) (by omega)) (by first | assumption | exact ir_of (by omega) (by omega)) (fun h186 => ?_) (fun h186 => ?_)
        · refine r_iconst F dL_law_199 ?_
          refine r_iadd F dL_law_200 ?_
          refine r_istore (lv1 := [_, _, _, _, _, _, _, _, _, _, _, _, _, _, _, _, _, _, _, _, _, _, _, _, _, _, _]) F dL_law_201 (by decide) rfl rfl ?_
          refine r_aload F dL_law_203 rfl ?_
          refine r_iload F dL_law_205 rfl ?_
          refine r_aload_n (i := 1) F dL_law_207 rfl rfl ?_
          refine r_iload F dL_law_208 rfl ?_
          refine r_callV F (Ct.mm01 (a := S) (b := T) (C_X4_until hI hD hT.1 hT.2 hh9 (ir_of (by omega) (by omega)) (by unfold cRng1; rw [if_neg (by omega)]))) dL_law_210 lkv_L_115 rfl rfl rfl rfl rfl cd_X4_until (by decide) ⟨by show _ ≤ 630427; omega, by show _ ≤ 7210188; omega⟩ (Nat.le_of_ble_eq_true rfl) ?_
          refine ws_27 F dL_law_213 hs27 (by omega) (by omega) (by omega) ?_
          refine V.gen4 (fun W2 eW2 => ?_)
          obtain ⟨⟨q4, q1, q2, q3⟩, hW2⟩ := la_2 (W2 := W2) h0 eW1 (by rw [eW2, eW3]) hW
          refine r_aload F dL_law_214 rfl ?_
          refine r_iload F dL_law_216 rfl ?_
          refine wg_28 F dL_law_218 hs28 (by omega) (by omega) (by omega) ?_
          refine r_iconst F dL_law_219 ?_
          refine r_icmp_le (tgt := 233) F dL_law_220 (by decide) (by first | assumption | exact ir_of (by omega) (by omega)) (by first | assumption | exact ir_of (by omega) (by omega)) (fun h220 => ?_) (fun h220 => ?_)
          · exfalso; omega
          · refine r_aload_n (i := 1) F dL_law_223 rfl rfl ?_
            refine r_iload F dL_law_224 rfl ?_
            refine r_iconst F dL_law_226 ?_
            refine r_callV F (K_t1 (mm_0 _ _ _ _) hI ⟨by omega, by omega⟩) dL_law_227 lkv_L_112 rfl rfl rfl rfl rfl cd_X4_told (by decide) ⟨by show _ ≤ 630427; omega, by show _ ≤ 7210188; omega⟩ (Nat.le_of_ble_eq_true rfl) ?_
            refine r_if_ne (tgt := 404) F dL_law_230 (by decide) (by first | assumption | exact ir_of (by omega) (by omega)) (fun h230 => ?_) (fun h230 => ?_)
            · exfalso; omega
            · refine r_aload F dL_law_233 rfl ?_
              refine r_iload F dL_law_235 rfl ?_
              refine wg_28 F dL_law_237 hs28 (by omega) (by omega) (by omega) ?_
              refine r_iconst F dL_law_238 ?_
              refine r_icmp_ge (tgt := 253) F dL_law_239 (by decide) (by first | assumption | exact ir_of (by omega) (by omega)) (by first | assumption | exact ir_of (by omega) (by omega)) (fun h239 => ?_) (fun h239 => ?_)
              · refine r_aload F dL_law_253 rfl ?_
                refine r_iload F dL_law_255 rfl ?_
                refine wg_28 F dL_law_257 hs28 (by omega) (by omega) (by omega) ?_
                refine r_if_ne (tgt := 265) F dL_law_258 (by decide) (by first | assumption | exact ir_of (by omega) (by omega)) (fun h258 => ?_) (fun h258 => ?_)
                · refine r_iconst F dL_law_265 ?_
                  refine r_aload F dL_law_266 rfl ?_
                  refine r_iload F dL_law_268 rfl ?_
                  refine wg_26 F dL_law_270 hs26 (by omega) (by omega) (by omega) ?_
                  refine r_if_ge (tgt := 287) F dL_law_271 (by decide) (by first | assumption | exact ir_of (by omega) (by omega)) (fun h271 => ?_) (fun h271 => ?_)
                  · refine r_iconst F dL_law_287 ?_
                    refine r_icmp_ne (tgt := 404) F dL_law_288 (by decide) (by first | assumption | exact ir_of (by omega) (by omega)) (by first | assumption | exact ir_of (by omega) (by omega)) (fun h288 => ?_) (fun h288 => ?_)
                    · exfalso; omega
                    · refine r_aload F dL_law_291 rfl ?_
                      refine r_iload F dL_law_293 rfl ?_
                      refine wg_28 F dL_law_295 hs28 (by omega) (by omega) (by omega) ?_
                      refine r_iconst F dL_law_296 ?_
                      refine r_icmp_ne (tgt := 304) F dL_law_297 (by decide) (by first | assumption | exact ir_of (by omega) (by omega)) (by first | assumption | exact ir_of (by omega) (by omega)) (fun h297 => ?_) (fun h297 => ?_)
                      · refine r_iconst F dL_law_304 ?_
                        refine r_aload F dL_law_305 rfl ?_
                        refine r_iload F dL_law_307 rfl ?_
                        refine wg_26 F dL_law_309 hs26 (by omega) (by omega) (by omega) ?_
                        refine r_aload F dL_law_310 rfl ?_
                        refine r_iload F dL_law_312 rfl ?_
                        refine wg_25 F dL_law_314 hs25 (by omega) (by omega) (by omega) ?_
                        refine r_icmp_ne (tgt := 331) F dL_law_315 (by decide) (by first | assumption | exact ir_of (by omega) (by omega)) (by first | assumption | exact ir_of (by omega) (by omega)) (fun h315 => ?_) (fun h315 => ?_)
                        · refine r_iconst F dL_law_331 ?_
                          refine r_icmp_ne (tgt := 404) F dL_law_332 (by decide) (by first | assumption | exact ir_of (by omega) (by omega)) (by first | assumption | exact ir_of (by omega) (by omega)) (fun h332 => ?_) (fun h332 => ?_)
                          · exfalso; omega
                          · refine r_aload F dL_law_335 rfl ?_
                            refine r_iload F dL_law_337 rfl ?_
                            refine wg_28 F dL_law_339 hs28 (by omega) (by omega) (by omega) ?_
                            refine r_iconst F dL_law_340 ?_
                            refine r_icmp_ne (tgt := 348) F dL_law_341 (by decide) (by first | assumption | exact ir_of (by omega) (by omega)) (by first | assumption | exact ir_of (by omega) (by omega)) (fun h341 => ?_) (fun h341 => ?_)
                            · exfalso; omega
                            · refine r_iconst F dL_law_344 ?_
                              refine r_goto (tgt := 349) F dL_law_345 (by decide) ?_
                              refine r_aload F dL_law_349 rfl ?_
                              refine r_iload F dL_law_351 rfl ?_
                              refine wg_27 F dL_law_353 hs27 (by omega) (by omega) (by omega) ?_
                              refine r_if_ne (tgt := 361) F dL_law_354 (by decide) (by first | assumption | exact ir_of (by omega) (by omega)) (fun h354 => ?_) (fun h354 => ?_)
                              · exfalso; omega
                              · refine r_iconst F dL_law_357 ?_
                                refine r_goto (tgt := 362) F dL_law_358 (by decide) ?_
                                refine r_icmp_ne (tgt := 404) F dL_law_362 (by decide) (by first | assumption | exact ir_of (by omega) (by omega)) (by first | assumption | exact ir_of (by omega) (by omega)) (fun h362 => ?_) (fun h362 => ?_)
                                · exfalso; omega
                                · refine r_aload F dL_law_365 rfl ?_
                                  refine r_iload F dL_law_367 rfl ?_
                                  refine wg_28 F dL_law_369 hs28 (by omega) (by omega) (by omega) ?_
                                  refine r_iconst F dL_law_370 ?_
                                  refine r_icmp_ne (tgt := 383) F dL_law_371 (by decide) (by first | assumption | exact ir_of (by omega) (by omega)) (by first | assumption | exact ir_of (by omega) (by omega)) (fun h371 => ?_) (fun h371 => ?_)
                                  · refine r_aload_n (i := 1) F dL_law_383 rfl rfl ?_
                                    refine r_iload F dL_law_384 rfl ?_
                                    refine r_iconst F dL_law_386 ?_
                                    refine r_callV F (K_t5 (mm_0 _ _ _ _) hI ⟨by omega, by omega⟩) dL_law_387 lkv_L_112 rfl rfl rfl rfl rfl cd_X4_told (by decide) ⟨by show _ ≤ 630427; omega, by show _ ≤ 7210188; omega⟩ (Nat.le_of_ble_eq_true rfl) ?_
                                    refine r_if_le (tgt := 406) F dL_law_390 (by decide) (by first | assumption | exact ir_of (by omega) (by omega)) (fun h390 => ?_) (fun h390 => ?_)
                                    · refine r_iinc (lv1 := [_, _, _, _, _, _, _, _, _, _, _, _, _, _, _, _, _, _, _, _, _, _, _, _, _, _, _]) F dL_law_406 rfl (by decide) rfl rfl ?_
                                      refine r_goto (tgt := 111) F dL_law_409 (by decide) ?_
                                      have t := ih (j + 1) _ W2 (by omega) (by omega) (tr_go hI hD (unt S j 120 0)) hW2
                                      rw [sm_S _ h0, sm_S _ h0] at t
                                      rw [show balF S j = 0 from if_neg (by omega)] at t
                                      exact t
                                    · refine r_aload_n (i := 1) F dL_law_393 rfl rfl ?_
                                      refine r_iload F dL_law_394 rfl ?_
                                      refine r_bipush F dL_law_396 (by decide) ?_
                                      refine r_callV F (K_t6 (mm_0 _ _ _ _) hI ⟨by omega, by omega⟩) dL_law_398 lkv_L_112 rfl rfl rfl rfl rfl cd_X4_told (by decide) ⟨by show _ ≤ 630427; omega, by show _ ≤ 7210188; omega⟩ (Nat.le_of_ble_eq_true rfl) ?_
                                      refine r_if_ne (tgt := 406) F dL_law_401 (by decide) (by first | assumption | exact ir_of (by omega) (by omega)) (fun h401 => ?_) (fun h401 => ?_)
                                      · refine r_iinc (lv1 := [_, _, _, _, _, _, _, _, _, _, _, _, _, _, _, _, _, _, _, _, _, _, _, _, _, _, _]) F dL_law_406 rfl (by decide) rfl rfl ?_
                                        refine r_goto (tgt := 111) F dL_law_409 (by decide) ?_
                                        have t := ih (j + 1) _ W2 (by omega) (by omega) (tr_go hI hD (unt S j 120 0)) hW2
                                        rw [sm_S _ h0, sm_S _ h0] at t
                                        rw [show balF S j = 0 from if_neg (by omega)] at t
                                        exact t
                                      · exfalso; omega
                                  · exfalso; omega
                        · refine r_aload F dL_law_318 rfl ?_
                          refine r_iload F dL_law_320 rfl ?_
                          refine wg_28 F dL_law_322 hs28 (by omega) (by omega) (by omega) ?_
                          refine r_iconst F dL_law_323 ?_
                          refine r_icmp_ge (tgt := 331) F dL_law_324 (by decide) (by first | assumption | exact ir_of (by omega) (by omega)) (by first | assumption | exact ir_of (by omega) (by omega)) (fun h324 => ?_) (fun h324 => ?_)
                          · refine r_iconst F dL_law_331 ?_
                            refine r_icmp_ne (tgt := 404) F dL_law_332 (by decide) (by first | assumption | exact ir_of (by omega) (by omega)) (by first | assumption | exact ir_of (by omega) (by omega)) (fun h332 => ?_) (fun h332 => ?_)
                            · exfalso; omega
                            · refine r_aload F dL_law_335 rfl ?_
                              refine r_iload F dL_law_337 rfl ?_
                              refine wg_28 F dL_law_339 hs28 (by omega) (by omega) (by omega) ?_
                              refine r_iconst F dL_law_340 ?_
                              refine r_icmp_ne (tgt := 348) F dL_law_341 (by decide) (by first | assumption | exact ir_of (by omega) (by omega)) (by first | assumption | exact ir_of (by omega) (by omega)) (fun h341 => ?_) (fun h341 => ?_)
                              · exfalso; omega
                              · refine r_iconst F dL_law_344 ?_
                                refine r_goto (tgt := 349) F dL_law_345 (by decide) ?_
                                refine r_aload F dL_law_349 rfl ?_
                                refine r_iload F dL_law_351 rfl ?_
                                refine wg_27 F dL_law_353 hs27 (by omega) (by omega) (by omega) ?_
                                refine r_if_ne (tgt := 361) F dL_law_354 (by decide) (by first | assumption | exact ir_of (by omega) (by omega)) (fun h354 => ?_) (fun h354 => ?_)
                                · exfalso; omega
                                · refine r_iconst F dL_law_357 ?_
                                  refine r_goto (tgt := 362) F dL_law_358 (by decide) ?_
                                  refine r_icmp_ne (tgt := 404) F dL_law_362 (by decide) (by first | assumption | exact ir_of (by omega) (by omega)) (by first | assumption | exact ir_of (by omega) (by omega)) (fun h362 => ?_) (fun h362 => ?_)
                                  · exfalso; omega
                                  · refine r_aload F dL_law_365 rfl ?_
                                    refine r_iload F dL_law_367 rfl ?_
                                    refine wg_28 F dL_law_369 hs28 (by omega) (by omega) (by omega) ?_
                                    refine r_iconst F dL_law_370 ?_
                                    refine r_icmp_ne (tgt := 383) F dL_law_371 (by decide) (by first | assumption | exact ir_of (by omega) (by omega)) (by first | assumption | exact ir_of (by omega) (by omega)) (fun h371 => ?_) (fun h371 => ?_)
                                    · refine r_aload_n (i := 1) F dL_law_383 rfl rfl ?_
                                      refine r_iload F dL_law_384 rfl ?_
                                      refine r_iconst F dL_law_386 ?_
                                      refine r_callV F (K_t5 (mm_0 _ _ _ _) hI ⟨by omega, by omega⟩) dL_law_387 lkv_L_112 rfl rfl rfl rfl rfl cd_X4_told (by decide) ⟨by show _ ≤ 630427; omega, by show _ ≤ 7210188; omega⟩ (Nat.le_of_ble_eq_true rfl) ?_
                                      refine r_if_le (tgt := 406) F dL_law_390 (by decide) (by first | assumption | exact ir_of (by omega) (by omega)) (fun h390 => ?_) (fun h390 => ?_)
                                      · refine r_iinc (lv1 := [_, _, _, _, _, _, _, _, _, _, _, _, _, _, _, _, _, _, _, _, _, _, _, _, _, _, _]) F dL_law_406 rfl (by decide) rfl rfl ?_
                                        refine r_goto (tgt := 111) F dL_law_409 (by decide) ?_
                                        have t := ih (j + 1) _ W2 (by omega) (by omega) (tr_go hI hD (unt S j 120 0)) hW2
                                        rw [sm_S _ h0, sm_S _ h0] at t
                                        rw [show balF S j = 0 from if_neg (by omega)] at t
                                        exact t
                                      · refine r_aload_n (i := 1) F dL_law_393 rfl rfl ?_
                                        refine r_iload F dL_law_394 rfl ?_
                                        refine r_bipush F dL_law_396 (by decide) ?_
                                        refine r_callV F (K_t6 (mm_0 _ _ _ _) hI ⟨by omega, by omega⟩) dL_law_398 lkv_L_112 rfl rfl rfl rfl rfl cd_X4_told (by decide) ⟨by show _ ≤ 630427; omega, by show _ ≤ 7210188; omega⟩ (Nat.le_of_ble_eq_true rfl) ?_
                                        refine r_if_ne (tgt := 406) F dL_law_401 (by decide) (by first | assumption | exact ir_of (by omega) (by omega)) (fun h401 => ?_) (fun h401 => ?_)
                                        · refine r_iinc (lv1 := [_, _, _, _, _, _, _, _, _, _, _, _, _, _, _, _, _, _, _, _, _, _, _, _, _, _, _]) F dL_law_406 rfl (by decide) rfl rfl ?_
                                          refine r_goto (tgt := 111) F dL_law_409 (by decide) ?_
                                          have t := ih (j + 1) _ W2 (by omega) (by omega) (tr_go hI hD (unt S j 120 0)) hW2
                                          rw [sm_S _ h0, sm_S _ h0] at t
                                          rw [show balF S j = 0 from if_neg (by omega)] at t
                                          exact t
                                        · exfalso; omega
                                    · exfalso; omega
                          · exfalso; omega
                      · exfalso; omega
                  · refine r_aload F dL_law_274 rfl ?_
                    refine r_iload F dL_law_276 rfl ?_
                    refine wg_28 F dL_law_278 hs28 (by omega) (by omega) (by omega) ?_
                    refine r_iconst F dL_law_279 ?_
                    refine r_icmp_ge (tgt := 287) F dL_law_280 (by decide) (by first | assumption | exact ir_of (by omega) (by omega)) (by first | assumption | exact ir_of (by omega) (by omega)) (fun h280 => ?_) (fun h280 => ?_)
                    · refine r_iconst F dL_law_287 ?_
                      refine r_icmp_ne (tgt := 404) F dL_law_288 (by decide) (by first | assumption | exact ir_of (by omega) (by omega)) (by first | assumption | exact ir_of (by omega) (by omega)) (fun h288 => ?_) (fun h288 => ?_)
                      · exfalso; omega
                      · refine r_aload F dL_law_291 rfl ?_
                        refine r_iload F dL_law_293 rfl ?_
                        refine wg_28 F dL_law_295 hs28 (by omega) (by omega) (by omega) ?_
                        refine r_iconst F dL_law_296 ?_
                        refine r_icmp_ne (tgt := 304) F dL_law_297 (by decide) (by first | assumption | exact ir_of (by omega) (by omega)) (by first | assumption | exact ir_of (by omega) (by omega)) (fun h297 => ?_) (fun h297 => ?_)
                        · refine r_iconst F dL_law_304 ?_
                          refine r_aload F dL_law_305 rfl ?_
                          refine r_iload F dL_law_307 rfl ?_
                          refine wg_26 F dL_law_309 hs26 (by omega) (by omega) (by omega) ?_
                          refine r_aload F dL_law_310 rfl ?_
                          refine r_iload F dL_law_312 rfl ?_
                          refine wg_25 F dL_law_314 hs25 (by omega) (by omega) (by omega) ?_
                          refine r_icmp_ne (tgt := 331) F dL_law_315 (by decide) (by first | assumption | exact ir_of (by omega) (by omega)) (by first | assumption | exact ir_of (by omega) (by omega)) (fun h315 => ?_) (fun h315 => ?_)
                          · refine r_iconst F dL_law_331 ?_
                            refine r_icmp_ne (tgt := 404) F dL_law_332 (by decide) (by first | assumption | exact ir_of (by omega) (by omega)) (by first | assumption | exact ir_of (by omega) (by omega)) (fun h332 => ?_) (fun h332 => ?_)
                            · exfalso; omega
                            · refine r_aload F dL_law_335 rfl ?_
                              refine r_iload F dL_law_337 rfl ?_
                              refine wg_28 F dL_law_339 hs28 (by omega) (by omega) (by omega) ?_
                              refine r_iconst F dL_law_340 ?_
                              refine r_icmp_ne (tgt := 348) F dL_law_341 (by decide) (by first | assumption | exact ir_of (by omega) (by omega)) (by first | assumption | exact ir_of (by omega) (by omega)) (fun h341 => ?_) (fun h341 => ?_)
                              · exfalso; omega
                              · refine r_iconst F dL_law_344 ?_
                                refine r_goto (tgt := 349) F dL_law_345 (by decide) ?_
                                refine r_aload F dL_law_349 rfl ?_
                                refine r_iload F dL_law_351 rfl ?_
                                refine wg_27 F dL_law_353 hs27 (by omega) (by omega) (by omega) ?_
                                refine r_if_ne (tgt := 361) F dL_law_354 (by decide) (by first | assumption | exact ir_of (by omega) (by omega)) (fun h354 => ?_) (fun h354 => ?_)
                                · exfalso; omega
                                · refine r_iconst F dL_law_357 ?_
                                  refine r_goto (tgt := 362) F dL_law_358 (by decide) ?_
                                  refine r_icmp_ne (tgt := 404) F dL_law_362 (by decide) (by first | assumption | exact ir_of (by omega) (by omega)) (by first | assumption | exact ir_of (by omega) (by omega)) (fun h362 => ?_) (fun h362 => ?_)
                                  · exfalso; omega
                                  · refine r_aload F dL_law_365 rfl ?_
                                    refine r_iload F dL_law_367 rfl ?_
                                    refine wg_28 F dL_law_369 hs28 (by omega) (by omega) (by omega) ?_
                                    refine r_iconst F dL_law_370 ?_
                                    refine r_icmp_ne (tgt := 383) F dL_law_371 (by decide) (by first | assumption | exact ir_of (by omega) (by omega)) (by first | assumption | exact ir_of (by omega) (by omega)) (fun h371 => ?_) (fun h371 => ?_)
                                    · refine r_aload_n (i := 1) F dL_law_383 rfl rfl ?_
                                      refine r_iload F dL_law_384 rfl ?_
                                      refine r_iconst F dL_law_386 ?_
                                      refine r_callV F (K_t5 (mm_0 _ _ _ _) hI ⟨by omega, by omega⟩) dL_law_387 lkv_L_112 rfl rfl rfl rfl rfl cd_X4_told (by decide) ⟨by show _ ≤ 630427; omega, by show _ ≤ 7210188; omega⟩ (Nat.le_of_ble_eq_true rfl) ?_
                                      refine r_if_le (tgt := 406) F dL_law_390 (by decide) (by first | assumption | exact ir_of (by omega) (by omega)) (fun h390 => ?_) (fun h390 => ?_)
                                      · refine r_iinc (lv1 := [_, _, _, _, _, _, _, _, _, _, _, _, _, _, _, _, _, _, _, _, _, _, _, _, _, _, _]) F dL_law_406 rfl (by decide) rfl rfl ?_
                                        refine r_goto (tgt := 111) F dL_law_409 (by decide) ?_
                                        have t := ih (j + 1) _ W2 (by omega) (by omega) (tr_go hI hD (unt S j 120 0)) hW2
                                        rw [sm_S _ h0, sm_S _ h0] at t
                                        rw [show balF S j = 0 from if_neg (by omega)] at t
                                        exact t
                                      · refine r_aload_n (i := 1) F dL_law_393 rfl rfl ?_
                                        refine r_iload F dL_law_394 rfl ?_
                                        refine r_bipush F dL_law_396 (by decide) ?_
                                        refine r_callV F (K_t6 (mm_0 _ _ _ _) hI ⟨by omega, by omega⟩) dL_law_398 lkv_L_112 rfl rfl rfl rfl rfl cd_X4_told (by decide) ⟨by show _ ≤ 630427; omega, by show _ ≤ 7210188; omega⟩ (Nat.le_of_ble_eq_true rfl) ?_
                                        refine r_if_ne (tgt := 406) F dL_law_401 (by decide) (by first | assumption | exact ir_of (by omega) (by omega)) (fun h401 => ?_) (fun h401 => ?_)
                                        · refine r_iinc (lv1 := [_, _, _, _, _, _, _, _, _, _, _, _, _, _, _, _, _, _, _, _, _, _, _, _, _, _, _]) F dL_law_406 rfl (by decide) rfl rfl ?_
                                          refine r_goto (tgt := 111) F dL_law_409 (by decide) ?_
                                          have t := ih (j + 1) _ W2 (by omega) (by omega) (tr_go hI hD (unt S j 120 0)) hW2
                                          rw [sm_S _ h0, sm_S _ h0] at t
                                          rw [show balF S j = 0 from if_neg (by omega)] at t
                                          exact t
                                        · exfalso; omega
                                    · exfalso; omega
                          · refine r_aload F dL_law_318 rfl ?_
                            refine r_iload F dL_law_320 rfl ?_
                            refine wg_28 F dL_law_322 hs28 (by omega) (by omega) (by omega) ?_
                            refine r_iconst F dL_law_323 ?_
                            refine r_icmp_ge (tgt := 331) F dL_law_324 (by decide) (by first | assumption | exact ir_of (by omega) (by omega)) (by first | assumption | exact ir_of (by omega) (by omega)) (fun h324 => ?_) (fun h324 => ?_)
                            · refine r_iconst F dL_law_331 ?_
                              refine r_icmp_ne (tgt := 404) F dL_law_332 (by decide) (by first | assumption | exact ir_of (by omega) (by omega)) (by first | assumption | exact ir_of (by omega) (by omega)) (fun h332 => ?_) (fun h332 => ?_)
                              · exfalso; omega
                              · refine r_aload F dL_law_335 rfl ?_
                                refine r_iload F dL_law_337 rfl ?_
                                refine wg_28 F dL_law_339 hs28 (by omega) (by omega) (by omega) ?_
                                refine r_iconst F dL_law_340 ?_
                                refine r_icmp_ne (tgt := 348) F dL_law_341 (by decide) (by first | assumption | exact ir_of (by omega) (by omega)) (by first | assumption | exact ir_of (by omega) (by omega)) (fun h341 => ?_) (fun h341 => ?_)
                                · exfalso; omega
                                · refine r_iconst F dL_law_344 ?_
                                  refine r_goto (tgt := 349) F dL_law_345 (by decide) ?_
                                  refine r_aload F dL_law_349 rfl ?_
                                  refine r_iload F dL_law_351 rfl ?_
                                  refine wg_27 F dL_law_353 hs27 (by omega) (by omega) (by omega) ?_
                                  refine r_if_ne (tgt := 361) F dL_law_354 (by decide) (by first | assumption | exact ir_of (by omega) (by omega)) (fun h354 => ?_) (fun h354 => ?_)
                                  · exfalso; omega
                                  · refine r_iconst F dL_law_357 ?_
                                    refine r_goto (tgt := 362) F dL_law_358 (by decide) ?_
                                    refine r_icmp_ne (tgt := 404) F dL_law_362 (by decide) (by first | assumption | exact ir_of (by omega) (by omega)) (by first | assumption | exact ir_of (by omega) (by omega)) (fun h362 => ?_) (fun h362 => ?_)
                                    · exfalso; omega
                                    · refine r_aload F dL_law_365 rfl ?_
                                      refine r_iload F dL_law_367 rfl ?_
                                      refine wg_28 F dL_law_369 hs28 (by omega) (by omega) (by omega) ?_
                                      refine r_iconst F dL_law_370 ?_
                                      refine r_icmp_ne (tgt := 383) F dL_law_371 (by decide) (by first | assumption | exact ir_of (by omega) (by omega)) (by first | assumption | exact ir_of (by omega) (by omega)) (fun h371 => ?_) (fun h371 => ?_)
                                      · refine r_aload_n (i := 1) F dL_law_383 rfl rfl ?_
                                        refine r_iload F dL_law_384 rfl ?_
                                        refine r_iconst F dL_law_386 ?_
                                        refine r_callV F (K_t5 (mm_0 _ _ _ _) hI ⟨by omega, by omega⟩) dL_law_387 lkv_L_112 rfl rfl rfl rfl rfl cd_X4_told (by decide) ⟨by show _ ≤ 630427; omega, by show _ ≤ 7210188; omega⟩ (Nat.le_of_ble_eq_true rfl) ?_
                                        refine r_if_le (tgt := 406) F dL_law_390 (by decide) (by first | assumption | exact ir_of (by omega) (by omega)) (fun h390 => ?_) (fun h390 => ?_)
                                        · refine r_iinc (lv1 := [_, _, _, _, _, _, _, _, _, _, _, _, _, _, _, _, _, _, _, _, _, _, _, _, _, _, _]) F dL_law_406 rfl (by decide) rfl rfl ?_
                                          refine r_goto (tgt := 111) F dL_law_409 (by decide) ?_
                                          have t := ih (j + 1) _ W2 (by omega) (by omega) (tr_go hI hD (unt S j 120 0)) hW2
                                          rw [sm_S _ h0, sm_S _ h0] at t
                                          rw [show balF S j = 0 from if_neg (by omega)] at t
                                          exact t
                                        · refine r_aload_n (i := 1) F dL_law_393 rfl rfl ?_
                                          refine r_iload F dL_law_394 rfl ?_
                                          refine r_bipush F dL_law_396 (by decide) ?_
                                          refine r_callV F (K_t6 (mm_0 _ _ _ _) hI ⟨by omega, by omega⟩) dL_law_398 lkv_L_112 rfl rfl rfl rfl rfl cd_X4_told (by decide) ⟨by show _ ≤ 630427; omega, by show _ ≤ 7210188; omega⟩ (Nat.le_of_ble_eq_true rfl) ?_
                                          refine r_if_ne (tgt := 406) F dL_law_401 (by decide) (by first | assumption | exact ir_of (by omega) (by omega)) (fun h401 => ?_) (fun h401 => ?_)
                                          · refine r_iinc (lv1 := [_, _, _, _, _, _, _, _, _, _, _, _, _, _, _, _, _, _, _, _, _, _, _, _, _, _, _]) F dL_law_406 rfl (by decide) rfl rfl ?_
                                            refine r_goto (tgt := 111) F dL_law_409 (by decide) ?_
                                            have t := ih (j + 1) _ W2 (by omega) (by omega) (tr_go hI hD (unt S j 120 0)) hW2
                                            rw [sm_S _ h0, sm_S _ h0] at t
                                            rw [show balF S j = 0 from if_neg (by omega)] at t
                                            exact t
                                          · exfalso; omega
                                      · exfalso; omega
                            · exfalso; omega
                        · exfalso; omega
                    · exfalso; omega
                · exfalso; omega
              · exfalso; omega
        · exfalso; omega
      · refine r_iload F dL_law_166 rfl ?_
        refine r_aload_n (i := 1) F dL_law_168 rfl rfl ?_
        refine r_iload F dL_law_169 rfl ?_
        refine r_iconst F dL_law_171 ?_
        refine r_callV F (K_t4 (mm_0 _ _ _ _) hI ⟨by omega, by omega⟩) dL_law_172 lkv_L_112 rfl rfl rfl rfl rfl cd_X4_told (by decide) ⟨by show _ ≤ 630427; omega, by show _ ≤ 7210188; omega⟩ (Nat.le_of_ble_eq_true rfl) ?_
        refine r_iadd F dL_law_175 ?_
        refine r_istore (lv1 := [_, _, _, _, _, _, _, _, _, _, _, _, _, _, _, _, _, _, _, _, _, _, _, _, _, _, _]) F dL_law_176 (by decide) rfl rfl ?_
        refine r_iload F dL_law_178 rfl ?_
        refine r_aload F dL_law_180 rfl ?_
        refine r_iload F dL_law_182 rfl ?_
        refine wg_28 F dL_law_184 hs28 (by omega) (by omega) (by omega) ?_
        refine r_iconst F dL_law_185 ?_
        refine r_icmp_ge (tgt := 199) F dL_law_186 (by decide) (by first | assumption | exact ir_of (by omega) (by omega)) (by first | assumption | exact ir_of (by omega) (by omega)) (fun h186 => ?_) (fun h186 => ?_)
        · refine r_iconst F dL_law_199 ?_
          refine r_iadd F dL_law_200 ?_
          refine r_istore (lv1 := [_, _, _, _, _, _, _, _, _, _, _, _, _, _, _, _, _, _, _, _, _, _, _, _, _, _, _]) F dL_law_201 (by decide) rfl rfl ?_
          refine r_aload F dL_law_203 rfl ?_
          refine r_iload F dL_law_205 rfl ?_
          refine r_aload_n (i := 1) F dL_law_207 rfl rfl ?_
          refine r_iload F dL_law_208 rfl ?_
          refine r_callV F (Ct.mm01 (a := S) (b := T) (C_X4_until hI hD hT.1 hT.2 hh9 (ir_of (by omega) (by omega)) (by unfold cRng1; rw [if_neg (by omega)]))) dL_law_210 lkv_L_115 rfl rfl rfl rfl rfl cd_X4_until (by decide) ⟨by show _ ≤ 630427; omega, by show _ ≤ 7210188; omega⟩ (Nat.le_of_ble_eq_true rfl) ?_
          refine ws_27 F dL_law_213 hs27 (by omega) (by omega) (by omega) ?_
          refine V.gen4 (fun W2 eW2 => ?_)
          obtain ⟨⟨q4, q1, q2, q3⟩, hW2⟩ := la_2 (W2 := W2) h0 eW1 (by rw [eW2, eW3]) hW
          refine r_aload F dL_law_214 rfl ?_
          refine r_iload F dL_law_216 rfl ?_
          refine wg_28 F dL_law_218 hs28 (by omega) (by omega) (by omega) ?_
          refine r_iconst F dL_law_219 ?_
          refine r_icmp_le (tgt := 233) F dL_law_220 (by decide) (by first | assumption | exact ir_of (by omega) (by omega)) (by first | assumption | exact ir_of (by omega) (by omega)) (fun h220 => ?_) (fun h220 => ?_)
          · exfalso; omega
          · refine r_aload_n (i := 1) F dL_law_223 rfl rfl ?_
            refine r_iload F dL_law_224 rfl ?_
            refine r_iconst F dL_law_226 ?_
            refine r_callV F (K_t1 (mm_0 _ _ _ _) hI ⟨by omega, by omega⟩) dL_law_227 lkv_L_112 rfl rfl rfl rfl rfl cd_X4_told (by decide) ⟨by show _ ≤ 630427; omega, by show _ ≤ 7210188; omega⟩ (Nat.le_of_ble_eq_true rfl) ?_
            refine r_if_ne (tgt := 404) F dL_law_230 (by decide) (by first | assumption | exact ir_of (by omega) (by omega)) (fun h230 => ?_) (fun h230 => ?_)
            · exfalso; omega
            · refine r_aload F dL_law_233 rfl ?_
              refine r_iload F dL_law_235 rfl ?_
              refine wg_28 F dL_law_237 hs28 (by omega) (by omega) (by omega) ?_
              refine r_iconst F dL_law_238 ?_
              refine r_icmp_ge (tgt := 253) F dL_law_239 (by decide) (by first | assumption | exact ir_of (by omega) (by omega)) (by first | assumption | exact ir_of (by omega) (by omega)) (fun h239 => ?_) (fun h239 => ?_)
              · refine r_aload F dL_law_253 rfl ?_
                refine r_iload F dL_law_255 rfl ?_
                refine wg_28 F dL_law_257 hs28 (by omega) (by omega) (by omega) ?_
                refine r_if_ne (tgt := 265) F dL_law_258 (by decide) (by first | assumption | exact ir_of (by omega) (by omega)) (fun h258 => ?_) (fun h258 => ?_)
                · refine r_iconst F dL_law_265 ?_
                  refine r_aload F dL_law_266 rfl ?_
                  refine r_iload F dL_law_268 rfl ?_
                  refine wg_26 F dL_law_270 hs26 (by omega) (by omega) (by omega) ?_
                  refine r_if_ge (tgt := 287) F dL_law_271 (by decide) (by first | assumption | exact ir_of (by omega) (by omega)) (fun h271 => ?_) (fun h271 => ?_)
                  · refine r_iconst F dL_law_287 ?_
                    refine r_icmp_ne (tgt := 404) F dL_law_288 (by decide) (by first | assumption | exact ir_of (by omega) (by omega)) (by first | assumption | exact ir_of (by omega) (by omega)) (fun h288 => ?_) (fun h288 => ?_)
                    · exfalso; omega
                    · refine r_aload F dL_law_291 rfl ?_
                      refine r_iload F dL_law_293 rfl ?_
                      refine wg_28 F dL_law_295 hs28 (by omega) (by omega) (by omega) ?_
                      refine r_iconst F dL_law_296 ?_
                      refine r_icmp_ne (tgt := 304) F dL_law_297 (by decide) (by first | assumption | exact ir_of (by omega) (by omega)) (by first | assumption | exact ir_of (by omega) (by omega)) (fun h297 => ?_) (fun h297 => ?_)
                      · refine r_iconst F dL_law_304 ?_
                        refine r_aload F dL_law_305 rfl ?_
                        refine r_iload F dL_law_307 rfl ?_
                        refine wg_26 F dL_law_309 hs26 (by omega) (by omega) (by omega) ?_
                        refine r_aload F dL_law_310 rfl ?_
                        refine r_iload F dL_law_312 rfl ?_
                        refine wg_25 F dL_law_314 hs25 (by omega) (by omega) (by omega) ?_
                        refine r_icmp_ne (tgt := 331) F dL_law_315 (by decide) (by first | assumption | exact ir_of (by omega) (by omega)) (by first | assumption | exact ir_of (by omega) (by omega)) (fun h315 => ?_) (fun h315 => ?_)
                        · refine r_iconst F dL_law_331 ?_
                          refine r_icmp_ne (tgt := 404) F dL_law_332 (by decide) (by first | assumption | exact ir_of (by omega) (by omega)) (by first | assumption | exact ir_of (by omega) (by omega)) (fun h332 => ?_) (fun h332 => ?_)
                          · exfalso; omega
                          · refine r_aload F dL_law_335 rfl ?_
                            refine r_iload F dL_law_337 rfl ?_
                            refine wg_28 F dL_law_339 hs28 (by omega) (by omega) (by omega) ?_
                            refine r_iconst F dL_law_340 ?_
                            refine r_icmp_ne (tgt := 348) F dL_law_341 (by decide) (by first | assumption | exact ir_of (by omega) (by omega)) (by first | assumption | exact ir_of (by omega) (by omega)) (fun h341 => ?_) (fun h341 => ?_)
                            · refine r_iconst F dL_law_348 ?_
                              refine r_aload F dL_law_349 rfl ?_
                              refine r_iload F dL_law_351 rfl ?_
                              refine wg_27 F dL_law_353 hs27 (by omega) (by omega) (by omega) ?_
                              refine r_if_ne (tgt := 361) F dL_law_354 (by decide) (by first | assumption | exact ir_of (by omega) (by omega)) (fun h354 => ?_) (fun h354 => ?_)
                              · refine r_iconst F dL_law_361 ?_
                                refine r_icmp_ne (tgt := 404) F dL_law_362 (by decide) (by first | assumption | exact ir_of (by omega) (by omega)) (by first | assumption | exact ir_of (by omega) (by omega)) (fun h362 => ?_) (fun h362 => ?_)
                                · exfalso; omega
                                · refine r_aload F dL_law_365 rfl ?_
                                  refine r_iload F dL_law_367 rfl ?_
                                  refine wg_28 F dL_law_369 hs28 (by omega) (by omega) (by omega) ?_
                                  refine r_iconst F dL_law_370 ?_
                                  refine r_icmp_ne (tgt := 383) F dL_law_371 (by decide) (by first | assumption | exact ir_of (by omega) (by omega)) (by first | assumption | exact ir_of (by omega) (by omega)) (fun h371 => ?_) (fun h371 => ?_)
                                  · exfalso; omega
                                  · refine r_aload F dL_law_374 rfl ?_
                                    refine r_iload F dL_law_376 rfl ?_
                                    refine wg_27 F dL_law_378 hs27 (by omega) (by omega) (by omega) ?_
                                    refine r_iconst F dL_law_379 ?_
                                    refine r_icmp_ne (tgt := 404) F dL_law_380 (by decide) (by first | assumption | exact ir_of (by omega) (by omega)) (by first | assumption | exact ir_of (by omega) (by omega)) (fun h380 => ?_) (fun h380 => ?_)
                                    · exfalso; omega
                                    · refine r_aload_n (i := 1) F dL_law_383 rfl rfl ?_
                                      refine r_iload F dL_law_384 rfl ?_
                                      refine r_iconst F dL_law_386 ?_
                                      refine r_callV F (K_t5 (mm_0 _ _ _ _) hI ⟨by omega, by omega⟩) dL_law_387 lkv_L_112 rfl rfl rfl rfl rfl cd_X4_told (by decide) ⟨by show _ ≤ 630427; omega, by show _ ≤ 7210188; omega⟩ (Nat.le_of_ble_eq_true rfl) ?_
                                      refine r_if_le (tgt := 406) F dL_law_390 (by decide) (by first | assumption | exact ir_of (by omega) (by omega)) (fun h390 => ?_) (fun h390 => ?_)
                                      · refine r_iinc (lv1 := [_, _, _, _, _, _, _, _, _, _, _, _, _, _, _, _, _, _, _, _, _, _, _, _, _, _, _]) F dL_law_406 rfl (by decide) rfl rfl ?_
                                        refine r_goto (tgt := 111) F dL_law_409 (by decide) ?_
                                        have t := ih (j + 1) _ W2 (by omega) (by omega) (tr_go hI hD (unt S j 120 0)) hW2
                                        rw [sm_S _ h0, sm_S _ h0] at t
                                        rw [show balF S j = 0 from if_neg (by omega)] at t
                                        exact t
                                      · refine r_aload_n (i := 1) F dL_law_393 rfl rfl ?_
                                        refine r_iload F dL_law_394 rfl ?_
                                        refine r_bipush F dL_law_396 (by decide) ?_
                                        refine r_callV F (K_t6 (mm_0 _ _ _ _) hI ⟨by omega, by omega⟩) dL_law_398 lkv_L_112 rfl rfl rfl rfl rfl cd_X4_told (by decide) ⟨by show _ ≤ 630427; omega, by show _ ≤ 7210188; omega⟩ (Nat.le_of_ble_eq_true rfl) ?_
                                        refine r_if_ne (tgt := 406) F dL_law_401 (by decide) (by first | assumption | exact ir_of (by omega) (by omega)) (fun h401 => ?_) (fun h401 => ?_)
                                        · refine r_iinc (lv1 := [_, _, _, _, _, _, _, _, _, _, _, _, _, _, _, _, _, _, _, _, _, _, _, _, _, _, _]) F dL_law_406 rfl (by decide) rfl rfl ?_
                                          refine r_goto (tgt := 111) F dL_law_409 (by decide) ?_
                                          have t := ih (j + 1) _ W2 (by omega) (by omega) (tr_go hI hD (unt S j 120 0)) hW2
                                          rw [sm_S _ h0, sm_S _ h0] at t
                                          rw [show balF S j = 0 from if_neg (by omega)] at t
                                          exact t
                                        · exfalso; omega
                              · exfalso; omega
                            · exfalso; omega
                        · refine r_aload F dL_law_318 rfl ?_
                          refine r_iload F dL_law_320 rfl ?_
                          refine wg_28 F dL_law_322 hs28 (by omega) (by omega) (by omega) ?_
                          refine r_iconst F dL_law_323 ?_
                          refine r_icmp_ge (tgt := 331) F dL_law_324 (by decide) (by first | assumption | exact ir_of (by omega) (by omega)) (by first | assumption | exact ir_of (by omega) (by omega)) (fun h324 => ?_) (fun h324 => ?_)
                          · refine r_iconst F dL_law_331 ?_
                            refine r_icmp_ne (tgt := 404) F dL_law_332 (by decide) (by first | assumption | exact ir_of (by omega) (by omega)) (by first | assumption | exact ir_of (by omega) (by omega)) (fun h332 => ?_) (fun h332 => ?_)
                            · exfalso; omega
                            · refine r_aload F dL_law_335 rfl ?_
                              refine r_iload F dL_law_337 rfl ?_
                              refine wg_28 F dL_law_339 hs28 (by omega) (by omega) (by omega) ?_
                              refine r_iconst F dL_law_340 ?_
                              refine r_icmp_ne (tgt := 348) F dL_law_341 (by decide) (by first | assumption | exact ir_of (by omega) (by omega)) (by first | assumption | exact ir_of (by omega) (by omega)) (fun h341 => ?_) (fun h341 => ?_)
                              · refine r_iconst F dL_law_348 ?_
                                refine r_aload F dL_law_349 rfl ?_
                                refine r_iload F dL_law_351 rfl ?_
                                refine wg_27 F dL_law_353 hs27 (by omega) (by omega) (by omega) ?_
                                refine r_if_ne (tgt := 361) F dL_law_354 (by decide) (by first | assumption | exact ir_of (by omega) (by omega)) (fun h354 => ?_) (fun h354 => ?_)
                                · refine r_iconst F dL_law_361 ?_
                                  refine r_icmp_ne (tgt := 404) F dL_law_362 (by decide) (by first | assumption | exact ir_of (by omega) (by omega)) (by first | assumption | exact ir_of (by omega) (by omega)) (fun h362 => ?_) (fun h362 => ?_)
                                  · exfalso; omega
                                  · refine r_aload F dL_law_365 rfl ?_
                                    refine r_iload F dL_law_367 rfl ?_
                                    refine wg_28 F dL_law_369 hs28 (by omega) (by omega) (by omega) ?_
                                    refine r_iconst F dL_law_370 ?_
                                    refine r_icmp_ne (tgt := 383) F dL_law_371 (by decide) (by first | assumption | exact ir_of (by omega) (by omega)) (by first | assumption | exact ir_of (by omega) (by omega)) (fun h371 => ?_) (fun h371 => ?_)
                                    · exfalso; omega
                                    · refine r_aload F dL_law_374 rfl ?_
                                      refine r_iload F dL_law_376 rfl ?_
                                      refine wg_27 F dL_law_378 hs27 (by omega) (by omega) (by omega) ?_
                                      refine r_iconst F dL_law_379 ?_
                                      refine r_icmp_ne (tgt := 404) F dL_law_380 (by decide) (by first | assumption | exact ir_of (by omega) (by omega)) (by first | assumption | exact ir_of (by omega) (by omega)) (fun h380 => ?_) (fun h380 => ?_)
                                      · exfalso; omega
                                      · refine r_aload_n (i := 1) F dL_law_383 rfl rfl ?_
                                        refine r_iload F dL_law_384 rfl ?_
                                        refine r_iconst F dL_law_386 ?_
                                        refine r_callV F (K_t5 (mm_0 _ _ _ _) hI ⟨by omega, by omega⟩) dL_law_387 lkv_L_112 rfl rfl rfl rfl rfl cd_X4_told (by decide) ⟨by show _ ≤ 630427; omega, by show _ ≤ 7210188; omega⟩ (Nat.le_of_ble_eq_true rfl) ?_
                                        refine r_if_le (tgt := 406) F dL_law_390 (by decide) (by first | assumption | exact ir_of (by omega) (by omega)) (fun h390 => ?_) (fun h390 => ?_)
                                        · refine r_iinc (lv1 := [_, _, _, _, _, _, _, _, _, _, _, _, _, _, _, _, _, _, _, _, _, _, _, _, _, _, _]) F dL_law_406 rfl (by decide) rfl rfl ?_
                                          refine r_goto (tgt := 111) F dL_law_409 (by decide) ?_
                                          have t := ih (j + 1) _ W2 (by omega) (by omega) (tr_go hI hD (unt S j 120 0)) hW2
                                          rw [sm_S _ h0, sm_S _ h0] at t
                                          rw [show balF S j = 0 from if_neg (by omega)] at t
                                          exact t
                                        · refine r_aload_n (i := 1) F dL_law_393 rfl rfl ?_
                                          refine r_iload F dL_law_394 rfl ?_
                                          refine r_bipush F dL_law_396 (by decide) ?_
                                          refine r_callV F (K_t6 (mm_0 _ _ _ _) hI ⟨by omega, by omega⟩) dL_law_398 lkv_L_112 rfl rfl rfl rfl rfl cd_X4_told (by decide) ⟨by show _ ≤ 630427; omega, by show _ ≤ 7210188; omega⟩ (Nat.le_of_ble_eq_true rfl) ?_
                                          refine r_if_ne (tgt := 406) F dL_law_401 (by decide) (by first | assumption | exact ir_of (by omega) (by omega)) (fun h401 => ?_) (fun h401 => ?_)
                                          · refine r_iinc (lv1 := [_, _, _, _, _, _, _, _, _, _, _, _, _, _, _, _, _, _, _, _, _, _, _, _, _, _, _]) F dL_law_406 rfl (by decide) rfl rfl ?_
                                            refine r_goto (tgt := 111) F dL_law_409 (by decide) ?_
                                            have t := ih (j + 1) _ W2 (by omega) (by omega) (tr_go hI hD (unt S j 120 0)) hW2
                                            rw [sm_S _ h0, sm_S _ h0] at t
                                            rw [show balF S j = 0 from if_neg (by omega)] at t
                                            exact t
                                          · exfalso; omega
                                · exfalso; omega
                              · exfalso; omega
                          · exfalso; omega
                      · exfalso; omega
                  · refine r_aload F dL_law_274 rfl ?_
                    refine r_iload F dL_law_276 rfl ?_
                    refine wg_28 F dL_law_278 hs28 (by omega) (by omega) (by omega) ?_
                    refine r_iconst F dL_law_279 ?_
                    refine r_icmp_ge (tgt := 287) F dL_law_280 (by decide) (by first | assumption | exact ir_of (by omega) (by omega)) (by first | assumption | exact ir_of (by omega) (by omega)) (fun h280 => ?_) (fun h280 => ?_)
                    · refine r_iconst F dL_law_287 ?_
                      refine r_icmp_ne (tgt := 404) F dL_law_288 (by decide) (by first | assumption | exact ir_of (by omega) (by omega)) (by first | assumption | exact ir_of (by omega) (by omega)) (fun h288 => ?_) (fun h288 => ?_)
                      · exfalso; omega
                      · refine r_aload F dL_law_291 rfl ?_
                        refine r_iload F dL_law_293 rfl ?_
                        refine wg_28 F dL_law_295 hs28 (by omega) (by omega) (by omega) ?_
                        refine r_iconst F dL_law_296 ?_
                        refine r_icmp_ne (tgt := 304) F dL_law_297 (by decide) (by first | assumption | exact ir_of (by omega) (by omega)) (by first | assumption | exact ir_of (by omega) (by omega)) (fun h297 => ?_) (fun h297 => ?_)
                        · refine r_iconst F dL_law_304 ?_
                          refine r_aload F dL_law_305 rfl ?_
                          refine r_iload F dL_law_307 rfl ?_
                          refine wg_26 F dL_law_309 hs26 (by omega) (by omega) (by omega) ?_
                          refine r_aload F dL_law_310 rfl ?_
                          refine r_iload F dL_law_312 rfl ?_
                          refine wg_25 F dL_law_314 hs25 (by omega) (by omega) (by omega) ?_
                          refine r_icmp_ne (tgt := 331) F dL_law_315 (by decide) (by first | assumption | exact ir_of (by omega) (by omega)) (by first | assumption | exact ir_of (by omega) (by omega)) (fun h315 => ?_) (fun h315 => ?_)
                          · refine r_iconst F dL_law_331 ?_
                            refine r_icmp_ne (tgt := 404) F dL_law_332 (by decide) (by first | assumption | exact ir_of (by omega) (by omega)) (by first | assumption | exact ir_of (by omega) (by omega)) (fun h332 => ?_) (fun h332 => ?_)
                            · exfalso; omega
                            · refine r_aload F dL_law_335 rfl ?_
                              refine r_iload F dL_law_337 rfl ?_
                              refine wg_28 F dL_law_339 hs28 (by omega) (by omega) (by omega) ?_
                              refine r_iconst F dL_law_340 ?_
                              refine r_icmp_ne (tgt := 348) F dL_law_341 (by decide) (by first | assumption | exact ir_of (by omega) (by omega)) (by first | assumption | exact ir_of (by omega) (by omega)) (fun h341 => ?_) (fun h341 => ?_)
                              · refine r_iconst F dL_law_348 ?_
                                refine r_aload F dL_law_349 rfl ?_
                                refine r_iload F dL_law_351 rfl ?_
                                refine wg_27 F dL_law_353 hs27 (by omega) (by omega) (by omega) ?_
                                refine r_if_ne (tgt := 361) F dL_law_354 (by decide) (by first | assumption | exact ir_of (by omega) (by omega)) (fun h354 => ?_) (fun h354 => ?_)
                                · refine r_iconst F dL_law_361 ?_
                                  refine r_icmp_ne (tgt := 404) F dL_law_362 (by decide) (by first | assumption | exact ir_of (by omega) (by omega)) (by first | assumption | exact ir_of (by omega) (by omega)) (fun h362 => ?_) (fun h362 => ?_)
                                  · exfalso; omega
                                  · refine r_aload F dL_law_365 rfl ?_
                                    refine r_iload F dL_law_367 rfl ?_
                                    refine wg_28 F dL_law_369 hs28 (by omega) (by omega) (by omega) ?_
                                    refine r_iconst F dL_law_370 ?_
                                    refine r_icmp_ne (tgt := 383) F dL_law_371 (by decide) (by first | assumption | exact ir_of (by omega) (by omega)) (by first | assumption | exact ir_of (by omega) (by omega)) (fun h371 => ?_) (fun h371 => ?_)
                                    · exfalso; omega
                                    · refine r_aload F dL_law_374 rfl ?_
                                      refine r_iload F dL_law_376 rfl ?_
                                      refine wg_27 F dL_law_378 hs27 (by omega) (by omega) (by omega) ?_
                                      refine r_iconst F dL_law_379 ?_
                                      refine r_icmp_ne (tgt := 404) F dL_law_380 (by decide) (by first | assumption | exact ir_of (by omega) (by omega)) (by first | assumption | exact ir_of (by omega) (by omega)) (fun h380 => ?_) (fun h380 => ?_)
                                      · exfalso; omega
                                      · refine r_aload_n (i := 1) F dL_law_383 rfl rfl ?_
                                        refine r_iload F dL_law_384 rfl ?_
                                        refine r_iconst F dL_law_386 ?_
                                        refine r_callV F (K_t5 (mm_0 _ _ _ _) hI ⟨by omega, by omega⟩) dL_law_387 lkv_L_112 rfl rfl rfl rfl rfl cd_X4_told (by decide) ⟨by show _ ≤ 630427; omega, by show _ ≤ 7210188; omega⟩ (Nat.le_of_ble_eq_true rfl) ?_
                                        refine r_if_le (tgt := 406) F dL_law_390 (by decide) (by first | assumption | exact ir_of (by omega) (by omega)) (fun h390 => ?_) (fun h390 => ?_)
                                        · refine r_iinc (lv1 := [_, _, _, _, _, _, _, _, _, _, _, _, _, _, _, _, _, _, _, _, _, _, _, _, _, _, _]) F dL_law_406 rfl (by decide) rfl rfl ?_
                                          refine r_goto (tgt := 111) F dL_law_409 (by decide) ?_
                                          have t := ih (j + 1) _ W2 (by omega) (by omega) (tr_go hI hD (unt S j 120 0)) hW2
                                          rw [sm_S _ h0, sm_S _ h0] at t
                                          rw [show balF S j = 0 from if_neg (by omega)] at t
                                          exact t
                                        · refine r_aload_n (i := 1) F dL_law_393 rfl rfl ?_
                                          refine r_iload F dL_law_394 rfl ?_
                                          refine r_bipush F dL_law_396 (by decide) ?_
                                          refine r_callV F (K_t6 (mm_0 _ _ _ _) hI ⟨by omega, by omega⟩) dL_law_398 lkv_L_112 rfl rfl rfl rfl rfl cd_X4_told (by decide) ⟨by show _ ≤ 630427; omega, by show _ ≤ 7210188; omega⟩ (Nat.le_of_ble_eq_true rfl) ?_
                                          refine r_if_ne (tgt := 406) F dL_law_401 (by decide) (by first | assumption | exact ir_of (by omega) (by omega)) (fun h401 => ?_) (fun h401 => ?_)
                                          · refine r_iinc (lv1 := [_, _, _, _, _, _, _, _, _, _, _, _, _, _, _, _, _, _, _, _, _, _, _, _, _, _, _]) F dL_law_406 rfl (by decide) rfl rfl ?_
                                            refine r_goto (tgt := 111) F dL_law_409 (by decide) ?_
                                            have t := ih (j + 1) _ W2 (by omega) (by omega) (tr_go hI hD (unt S j 120 0)) hW2
                                            rw [sm_S _ h0, sm_S _ h0] at t
                                            rw [show balF S j = 0 from if_neg (by omega)] at t
                                            exact t
                                          · exfalso; omega
                                · exfalso; omega
                              · exfalso; omega
                          · refine r_aload F dL_law_318 rfl ?_
                            refine r_iload F dL_law_320 rfl ?_
                            refine wg_28 F dL_law_322 hs28 (by omega) (by omega) (by omega) ?_
                            refine r_iconst F dL_law_323 ?_
                            refine r_icmp_ge (tgt := 331) F dL_law_324 (by decide) (by first | assumption | exact ir_of (by omega) (by omega)) (by first | assumption | exact ir_of (by omega) (by omega)) (fun h324 => ?_) (fun h324 => ?_)
                            · refine r_iconst F dL_law_331 ?_
                              refine r_icmp_ne (tgt := 404) F dL_law_332 (by decide) (by first | assumption | exact ir_of (by omega) (by omega)) (by first | assumption | exact ir_of (by omega) (by omega)) (fun h332 => ?_) (fun h332 => ?_)
                              · exfalso; omega
                              · refine r_aload F dL_law_335 rfl ?_
                                refine r_iload F dL_law_337 rfl ?_
                                refine wg_28 F dL_law_339 hs28 (by omega) (by omega) (by omega) ?_
                                refine r_iconst F dL_law_340 ?_
                                refine r_icmp_ne (tgt := 348) F dL_law_341 (by decide) (by first | assumption | exact ir_of (by omega) (by omega)) (by first | assumption | exact ir_of (by omega) (by omega)) (fun h341 => ?_) (fun h341 => ?_)
                                · refine r_iconst F dL_law_348 ?_
                                  refine r_aload F dL_law_349 rfl ?_
                                  refine r_iload F dL_law_351 rfl ?_
                                  refine wg_27 F dL_law_353 hs27 (by omega) (by omega) (by omega) ?_
                                  refine r_if_ne (tgt := 361) F dL_law_354 (by decide) (by first | assumption | exact ir_of (by omega) (by omega)) (fun h354 => ?_) (fun h354 => ?_)
                                  · refine r_iconst F dL_law_361 ?_
                                    refine r_icmp_ne (tgt := 404) F dL_law_362 (by decide) (by first | assumption | exact ir_of (by omega) (by omega)) (by first | assumption | exact ir_of (by omega) (by omega)) (fun h362 => ?_) (fun h362 => ?_)
                                    · exfalso; omega
                                    · refine r_aload F dL_law_365 rfl ?_
                                      refine r_iload F dL_law_367 rfl ?_
                                      refine wg_28 F dL_law_369 hs28 (by omega) (by omega) (by omega) ?_
                                      refine r_iconst F dL_law_370 ?_
                                      refine r_icmp_ne (tgt := 383) F dL_law_371 (by decide) (by first | assumption | exact ir_of (by omega) (by omega)) (by first | assumption | exact ir_of (by omega) (by omega)) (fun h371 => ?_) (fun h371 => ?_)
                                      · exfalso; omega
                                      · refine r_aload F dL_law_374 rfl ?_
                                        refine r_iload F dL_law_376 rfl ?_
                                        refine wg_27 F dL_law_378 hs27 (by omega) (by omega) (by omega) ?_
                                        refine r_iconst F dL_law_379 ?_
                                        refine r_icmp_ne (tgt := 404) F dL_law_380 (by decide) (by first | assumption | exact ir_of (by omega) (by omega)) (by first | assumption | exact ir_of (by omega) (by omega)) (fun h380 => ?_) (fun h380 => ?_)
                                        · exfalso; omega
                                        · refine r_aload_n (i := 1) F dL_law_383 rfl rfl ?_
                                          refine r_iload F dL_law_384 rfl ?_
                                          refine r_iconst F dL_law_386 ?_
                                          refine r_callV F (K_t5 (mm_0 _ _ _ _) hI ⟨by omega, by omega⟩) dL_law_387 lkv_L_112 rfl rfl rfl rfl rfl cd_X4_told (by decide) ⟨by show _ ≤ 630427; omega, by show _ ≤ 7210188; omega⟩ (Nat.le_of_ble_eq_true rfl) ?_
                                          refine r_if_le (tgt := 406) F dL_law_390 (by decide) (by first | assumption | exact ir_of (by omega) (by omega)) (fun h390 => ?_) (fun h390 => ?_)
                                          · refine r_iinc (lv1 := [_, _, _, _, _, _, _, _, _, _, _, _, _, _, _, _, _, _, _, _, _, _, _, _, _, _, _]) F dL_law_406 rfl (by decide) rfl rfl ?_
                                            refine r_goto (tgt := 111) F dL_law_409 (by decide) ?_
                                            have t := ih (j + 1) _ W2 (by omega) (by omega) (tr_go hI hD (unt S j 120 0)) hW2
                                            rw [sm_S _ h0, sm_S _ h0] at t
                                            rw [show balF S j = 0 from if_neg (by omega)] at t
                                            exact t
                                          · refine r_aload_n (i := 1) F dL_law_393 rfl rfl ?_
                                            refine r_iload F dL_law_394 rfl ?_
                                            refine r_bipush F dL_law_396 (by decide) ?_
                                            refine r_callV F (K_t6 (mm_0 _ _ _ _) hI ⟨by omega, by omega⟩) dL_law_398 lkv_L_112 rfl rfl rfl rfl rfl cd_X4_told (by decide) ⟨by show _ ≤ 630427; omega, by show _ ≤ 7210188; omega⟩ (Nat.le_of_ble_eq_true rfl) ?_
                                            refine r_if_ne (tgt := 406) F dL_law_401 (by decide) (by first | assumption | exact ir_of (by omega) (by omega)) (fun h401 => ?_) (fun h401 => ?_)
                                            · refine r_iinc (lv1 := [_, _, _, _, _, _, _, _, _, _, _, _, _, _, _, _, _, _, _, _, _, _, _, _, _, _, _]) F dL_law_406 rfl (by decide) rfl rfl ?_
                                              refine r_goto (tgt := 111) F dL_law_409 (by decide) ?_
                                              have t := ih (j + 1) _ W2 (by omega) (by omega) (tr_go hI hD (unt S j 120 0)) hW2
                                              rw [sm_S _ h0, sm_S _ h0] at t
                                              rw [show balF S j = 0 from if_neg (by omega)] at t
                                              exact t
                                            · exfalso; omega
                                  · exfalso; omega
                                · exfalso; omega
                            · exfalso; omega
                        · exfalso; omega
                    · exfalso; omega
                · exfalso; omega
              · exfalso; omega
        · exfalso; omega
      · refine r_iload F dL_law_166 rfl ?_
        refine r_aload_n (i := 1) F dL_law_168 rfl rfl ?_
        refine r_iload F dL_law_169 rfl ?_
        refine r_iconst F dL_law_171 ?_
        refine r_callV F (K_t4 (mm_0 _ _ _ _) hI ⟨by omega, by omega⟩) dL_law_172 lkv_L_112 rfl rfl rfl rfl rfl cd_X4_told (by decide) ⟨by show _ ≤ 630427; omega, by show _ ≤ 7210188; omega⟩ (Nat.le_of_ble_eq_true rfl) ?_
        refine r_iadd F dL_law_175 ?_
        refine r_istore (lv1 := [_, _, _, _, _, _, _, _, _, _, _, _, _, _, _, _, _, _, _, _, _, _, _, _, _, _, _]) F dL_law_176 (by decide) rfl rfl ?_
        refine r_iload F dL_law_178 rfl ?_
        refine r_aload F dL_law_180 rfl ?_
        refine r_iload F dL_law_182 rfl ?_
        refine wg_28 F dL_law_184 hs28 (by omega) (by omega) (by omega) ?_
        refine r_iconst F dL_law_185 ?_
        refine r_icmp_ge (tgt := 199) F dL_law_186 (by decide) (by first | assumption | exact ir_of (by omega) (by omega)) (by first | assumption | exact ir_of (by omega) (by omega)) (fun h186 => ?_) (fun h186 => ?_)
        · exfalso; omega
        · refine r_aload_n (i := 1) F dL_law_189 rfl rfl ?_
          refine r_iload F dL_law_190 rfl ?_
          refine r_iconst F dL_law_192 ?_
          refine r_callV F (K_t1 (mm_0 _ _ _ _) hI ⟨by omega, by omega⟩) dL_law_193 lkv_L_112 rfl rfl rfl rfl rfl cd_X4_told (by decide) ⟨by show _ ≤ 630427; omega, by show _ ≤ 7210188; omega⟩ (Nat.le_of_ble_eq_true rfl) ?_
          refine r_goto (tgt := 200) F dL_law_196 (by decide) ?_
          refine r_iadd F dL_law_200 ?_
          refine r_istore (lv1 := [_, _, _, _, _, _, _, _, _, _, _, _, _, _, _, _, _, _, _, _, _, _, _, _, _, _, _]) F dL_law_201 (by decide) rfl rfl ?_
          refine r_aload F dL_law_203 rfl ?_
          refine r_iload F dL_law_205 rfl ?_
          refine r_aload_n (i := 1) F dL_law_207 rfl rfl ?_
          refine r_iload F dL_law_208 rfl ?_
          refine r_callV F (Ct.mm01 (a := S) (b := T) (C_X4_until hI hD hT.1 hT.2 hh9 (ir_of (by omega) (by omega)) (by unfold cRng1; rw [if_neg (by omega)]))) dL_law_210 lkv_L_115 rfl rfl rfl rfl rfl cd_X4_until (by decide) ⟨by show _ ≤ 630427; omega, by show _ ≤ 7210188; omega⟩ (Nat.le_of_ble_eq_true rfl) ?_
          refine ws_27 F dL_law_213 hs27 (by omega) (by omega) (by omega) ?_
          refine V.gen4 (fun W2 eW2 => ?_)
          obtain ⟨⟨q4, q1, q2, q3⟩, hW2⟩ := la_2 (W2 := W2) h0 eW1 (by rw [eW2, eW3]) hW
          refine r_aload F dL_law_214 rfl ?_
          refine r_iload F dL_law_216 rfl ?_
          refine wg_28 F dL_law_218 hs28 (by omega) (by omega) (by omega) ?_
          refine r_iconst F dL_law_219 ?_
          refine r_icmp_le (tgt := 233) F dL_law_220 (by decide) (by first | assumption | exact ir_of (by omega) (by omega)) (by first | assumption | exact ir_of (by omega) (by omega)) (fun h220 => ?_) (fun h220 => ?_)
          · refine r_aload F dL_law_233 rfl ?_
            refine r_iload F dL_law_235 rfl ?_
            refine wg_28 F dL_law_237 hs28 (by omega) (by omega) (by omega) ?_
            refine r_iconst F dL_law_238 ?_
            refine r_icmp_ge (tgt := 253) F dL_law_239 (by decide) (by first | assumption | exact ir_of (by omega) (by omega)) (by first | assumption | exact ir_of (by omega) (by omega)) (fun h239 => ?_) (fun h239 => ?_)
            · exfalso; omega
            · refine r_aload_n (i := 1) F dL_law_242 rfl rfl ?_
              refine r_iload F dL_law_243 rfl ?_
              refine r_iconst F dL_law_245 ?_
              refine r_callV F (K_t1 (mm_0 _ _ _ _) hI ⟨by omega, by omega⟩) dL_law_246 lkv_L_112 rfl rfl rfl rfl rfl cd_X4_told (by decide) ⟨by show _ ≤ 630427; omega, by show _ ≤ 7210188; omega⟩ (Nat.le_of_ble_eq_true rfl) ?_
              refine r_iconst F dL_law_249 ?_
              refine r_icmp_lt (tgt := 404) F dL_law_250 (by decide) (by first | assumption | exact ir_of (by omega) (by omega)) (by first | assumption | exact ir_of (by omega) (by omega)) (fun h250 => ?_) (fun h250 => ?_)
              · exfalso; omega
              · refine r_aload F dL_law_253 rfl ?_
                refine r_iload F dL_law_255 rfl ?_
                refine wg_28 F dL_law_257 hs28 (by omega) (by omega) (by omega) ?_
                refine r_if_ne (tgt := 265) F dL_law_258 (by decide) (by first | assumption | exact ir_of (by omega) (by omega)) (fun h258 => ?_) (fun h258 => ?_)
                · exfalso; omega
                · refine r_iconst F dL_law_261 ?_
                  refine r_goto (tgt := 266) F dL_law_262 (by decide) ?_
                  refine r_aload F dL_law_266 rfl ?_
                  refine r_iload F dL_law_268 rfl ?_
                  refine wg_26 F dL_law_270 hs26 (by omega) (by omega) (by omega) ?_
                  refine r_if_ge (tgt := 287) F dL_law_271 (by decide) (by first | assumption | exact ir_of (by omega) (by omega)) (fun h271 => ?_) (fun h271 => ?_)
                  · exfalso; omega
                  · refine r_aload F dL_law_274 rfl ?_
                    refine r_iload F dL_law_276 rfl ?_
                    refine wg_28 F dL_law_278 hs28 (by omega) (by omega) (by omega) ?_
                    refine r_iconst F dL_law_279 ?_
                    refine r_icmp_ge (tgt := 287) F dL_law_280 (by decide) (by first | assumption | exact ir_of (by omega) (by omega)) (by first | assumption | exact ir_of (by omega) (by omega)) (fun h280 => ?_) (fun h280 => ?_)
                    · exfalso; omega
                    · refine r_iconst F dL_law_283 ?_
                      refine r_goto (tgt := 288) F dL_law_284 (by decide) ?_
                      refine r_icmp_ne (tgt := 404) F dL_law_288 (by decide) (by first | assumption | exact ir_of (by omega) (by omega)) (by first | assumption | exact ir_of (by omega) (by omega)) (fun h288 => ?_) (fun h288 => ?_)
                      · exfalso; omega
                      · refine r_aload F dL_law_291 rfl ?_
                        refine r_iload F dL_law_293 rfl ?_
                        refine wg_28 F dL_law_295 hs28 (by omega) (by omega) (by omega) ?_
                        refine r_iconst F dL_law_296 ?_
                        refine r_icmp_ne (tgt := 304) F dL_law_297 (by decide) (by first | assumption | exact ir_of (by omega) (by omega)) (by first | assumption | exact ir_of (by omega) (by omega)) (fun h297 => ?_) (fun h297 => ?_)
                        · refine r_iconst F dL_law_304 ?_
                          refine r_aload F dL_law_305 rfl ?_
                          refine r_iload F dL_law_307 rfl ?_
                          refine wg_26 F dL_law_309 hs26 (by omega) (by omega) (by omega) ?_
                          refine r_aload F dL_law_310 rfl ?_
                          refine r_iload F dL_law_312 rfl ?_
                          refine wg_25 F dL_law_314 hs25 (by omega) (by omega) (by omega) ?_
                          refine r_icmp_ne (tgt := 331) F dL_law_315 (by decide) (by first | assumption | exact ir_of (by omega) (by omega)) (by first | assumption | exact ir_of (by omega) (by omega)) (fun h315 => ?_) (fun h315 => ?_)
                          · refine r_iconst F dL_law_331 ?_
                            refine r_icmp_ne (tgt := 404) F dL_law_332 (by decide) (by first | assumption | exact ir_of (by omega) (by omega)) (by first | assumption | exact ir_of (by omega) (by omega)) (fun h332 => ?_) (fun h332 => ?_)
                            · exfalso; omega
                            · refine r_aload F dL_law_335 rfl ?_
                              refine r_iload F dL_law_337 rfl ?_
                              refine wg_28 F dL_law_339 hs28 (by omega) (by omega) (by omega) ?_
                              refine r_iconst F dL_law_340 ?_
                              refine r_icmp_ne (tgt := 348) F dL_law_341 (by decide) (by first | assumption | exact ir_of (by omega) (by omega)) (by first | assumption | exact ir_of (by omega) (by omega)) (fun h341 => ?_) (fun h341 => ?_)
                              · refine r_iconst F dL_law_348 ?_
                                refine r_aload F dL_law_349 rfl ?_
                                refine r_iload F dL_law_351 rfl ?_
                                refine wg_27 F dL_law_353 hs27 (by omega) (by omega) (by omega) ?_
                                refine r_if_ne (tgt := 361) F dL_law_354 (by decide) (by first | assumption | exact ir_of (by omega) (by omega)) (fun h354 => ?_) (fun h354 => ?_)
                                · refine r_iconst F dL_law_361 ?_
                                  refine r_icmp_ne (tgt := 404) F dL_law_362 (by decide) (by first | assumption | exact ir_of (by omega) (by omega)) (by first | assumption | exact ir_of (by omega) (by omega)) (fun h362 => ?_) (fun h362 => ?_)
                                  · exfalso; omega
                                  · refine r_aload F dL_law_365 rfl ?_
                                    refine r_iload F dL_law_367 rfl ?_
                                    refine wg_28 F dL_law_369 hs28 (by omega) (by omega) (by omega) ?_
                                    refine r_iconst F dL_law_370 ?_
                                    refine r_icmp_ne (tgt := 383) F dL_law_371 (by decide) (by first | assumption | exact ir_of (by omega) (by omega)) (by first | assumption | exact ir_of (by omega) (by omega)) (fun h371 => ?_) (fun h371 => ?_)
                                    · refine r_aload_n (i := 1) F dL_law_383 rfl rfl ?_
                                      refine r_iload F dL_law_384 rfl ?_
                                      refine r_iconst F dL_law_386 ?_
                                      refine r_callV F (K_t5 (mm_0 _ _ _ _) hI ⟨by omega, by omega⟩) dL_law_387 lkv_L_112 rfl rfl rfl rfl rfl cd_X4_told (by decide) ⟨by show _ ≤ 630427; omega, by show _ ≤ 7210188; omega⟩ (Nat.le_of_ble_eq_true rfl) ?_
                                      refine r_if_le (tgt := 406) F dL_law_390 (by decide) (by first | assumption | exact ir_of (by omega) (by omega)) (fun h390 => ?_) (fun h390 => ?_)
                                      · refine r_iinc (lv1 := [_, _, _, _, _, _, _, _, _, _, _, _, _, _, _, _, _, _, _, _, _, _, _, _, _, _, _]) F dL_law_406 rfl (by decide) rfl rfl ?_
                                        refine r_goto (tgt := 111) F dL_law_409 (by decide) ?_
                                        have t := ih (j + 1) _ W2 (by omega) (by omega) (tr_go hI hD (unt S j 120 0)) hW2
                                        rw [sm_S _ h0, sm_S _ h0] at t
                                        rw [show balF S j = S 14 j from if_pos (by omega)] at t
                                        exact t
                                      · refine r_aload_n (i := 1) F dL_law_393 rfl rfl ?_
                                        refine r_iload F dL_law_394 rfl ?_
                                        refine r_bipush F dL_law_396 (by decide) ?_
                                        refine r_callV F (K_t6 (mm_0 _ _ _ _) hI ⟨by omega, by omega⟩) dL_law_398 lkv_L_112 rfl rfl rfl rfl rfl cd_X4_told (by decide) ⟨by show _ ≤ 630427; omega, by show _ ≤ 7210188; omega⟩ (Nat.le_of_ble_eq_true rfl) ?_
                                        refine r_if_ne (tgt := 406) F dL_law_401 (by decide) (by first | assumption | exact ir_of (by omega) (by omega)) (fun h401 => ?_) (fun h401 => ?_)
                                        · refine r_iinc (lv1 := [_, _, _, _, _, _, _, _, _, _, _, _, _, _, _, _, _, _, _, _, _, _, _, _, _, _, _]) F dL_law_406 rfl (by decide) rfl rfl ?_
                                          refine r_goto (tgt := 111) F dL_law_409 (by decide) ?_
                                          have t := ih (j + 1) _ W2 (by omega) (by omega) (tr_go hI hD (unt S j 120 0)) hW2
                                          rw [sm_S _ h0, sm_S _ h0] at t
                                          rw [show balF S j = S 14 j from if_pos (by omega)] at t
                                          exact t
                                        · exfalso; omega
                                    · exfalso; omega
                                · exfalso; omega
                              · exfalso; omega
                          · exfalso; omega
                        · exfalso; omega
          · exfalso; omega
      · refine r_iload F dL_law_166 rfl ?_
        refine r_aload_n (i := 1) F dL_law_168 rfl rfl ?_
        refine r_iload F dL_law_169 rfl ?_
        refine r_iconst F dL_law_171 ?_
        refine r_callV F (K_t4 (mm_0 _ _ _ _) hI ⟨by omega, by omega⟩) dL_law_172 lkv_L_112 rfl rfl rfl rfl rfl cd_X4_told (by decide) ⟨by show _ ≤ 630427; omega, by show _ ≤ 7210188; omega⟩ (Nat.le_of_ble_eq_true rfl) ?_
        refine r_iadd F dL_law_175 ?_
        refine r_istore (lv1 := [_, _, _, _, _, _, _, _, _, _, _, _, _, _, _, _, _, _, _, _, _, _, _, _, _, _, _]) F dL_law_176 (by decide) rfl rfl ?_
        refine r_iload F dL_law_178 rfl ?_
        refine r_aload F dL_law_180 rfl ?_
        refine r_iload F dL_law_182 rfl ?_
        refine wg_28 F dL_law_184 hs28 (by omega) (by omega) (by omega) ?_
        refine r_iconst F dL_law_185 ?_
        refine r_icmp_ge (tgt := 199) F dL_law_186 (by decide) (by first | assumption | exact ir_of (by omega) (by omega)) (by first | assumption | exact ir_of (by omega) (by omega)) (fun h186 => ?_) (fun h186 => ?_)
        · exfalso; omega
        · refine r_aload_n (i := 1) F dL_law_189 rfl rfl ?_
          refine r_iload F dL_law_190 rfl ?_
          refine r_iconst F dL_law_192 ?_
          refine r_callV F (K_t1 (mm_0 _ _ _ _) hI ⟨by omega, by omega⟩) dL_law_193 lkv_L_112 rfl rfl rfl rfl rfl cd_X4_told (by decide) ⟨by show _ ≤ 630427; omega, by show _ ≤ 7210188; omega⟩ (Nat.le_of_ble_eq_true rfl) ?_
          refine r_goto (tgt := 200) F dL_law_196 (by decide) ?_
          refine r_iadd F dL_law_200 ?_
          refine r_istore (lv1 := [_, _, _, _, _, _, _, _, _, _, _, _, _, _, _, _, _, _, _, _, _, _, _, _, _, _, _]) F dL_law_201 (by decide) rfl rfl ?_
          refine r_aload F dL_law_203 rfl ?_
          refine r_iload F dL_law_205 rfl ?_
          refine r_aload_n (i := 1) F dL_law_207 rfl rfl ?_
          refine r_iload F dL_law_208 rfl ?_
          refine r_callV F (Ct.mm01 (a := S) (b := T) (C_X4_until hI hD hT.1 hT.2 hh9 (ir_of (by omega) (by omega)) (by unfold cRng1; rw [if_neg (by omega)]))) dL_law_210 lkv_L_115 rfl rfl rfl rfl rfl cd_X4_until (by decide) ⟨by show _ ≤ 630427; omega, by show _ ≤ 7210188; omega⟩ (Nat.le_of_ble_eq_true rfl) ?_
          refine ws_27 F dL_law_213 hs27 (by omega) (by omega) (by omega) ?_
          refine V.gen4 (fun W2 eW2 => ?_)
          obtain ⟨⟨q4, q1, q2, q3⟩, hW2⟩ := la_2 (W2 := W2) h0 eW1 (by rw [eW2, eW3]) hW
          refine r_aload F dL_law_214 rfl ?_
          refine r_iload F dL_law_216 rfl ?_
          refine wg_28 F dL_law_218 hs28 (by omega) (by omega) (by omega) ?_
          refine r_iconst F dL_law_219 ?_
          refine r_icmp_le (tgt := 233) F dL_law_220 (by decide) (by first | assumption | exact ir_of (by omega) (by omega)) (by first | assumption | exact ir_of (by omega) (by omega)) (fun h220 => ?_) (fun h220 => ?_)
          · refine r_aload F dL_law_233 rfl ?_
            refine r_iload F dL_law_235 rfl ?_
            refine wg_28 F dL_law_237 hs28 (by omega) (by omega) (by omega) ?_
            refine r_iconst F dL_law_238 ?_
            refine r_icmp_ge (tgt := 253) F dL_law_239 (by decide) (by first | assumption | exact ir_of (by omega) (by omega)) (by first | assumption | exact ir_of (by omega) (by omega)) (fun h239 => ?_) (fun h239 => ?_)
            · exfalso; omega
            · refine r_aload_n (i := 1) F dL_law_242 rfl rfl ?_
              refine r_iload F dL_law_243 rfl ?_
              refine r_iconst F dL_law_245 ?_
              refine r_callV F (K_t1 (mm_0 _ _ _ _) hI ⟨by omega, by omega⟩) dL_law_246 lkv_L_112 rfl rfl rfl rfl rfl cd_X4_told (by decide) ⟨by show _ ≤ 630427; omega, by show _ ≤ 7210188; omega⟩ (Nat.le_of_ble_eq_true rfl) ?_
              refine r_iconst F dL_law_249 ?_
              refine r_icmp_lt (tgt := 404) F dL_law_250 (by decide) (by first | assumption | exact ir_of (by omega) (by omega)) (by first | assumption | exact ir_of (by omega) (by omega)) (fun h250 => ?_) (fun h250 => ?_)
              · exfalso; omega
              · refine r_aload F dL_law_253 rfl ?_
                refine r_iload F dL_law_255 rfl ?_
                refine wg_28 F dL_law_257 hs28 (by omega) (by omega) (by omega) ?_
                refine r_if_ne (tgt := 265) F dL_law_258 (by decide) (by first | assumption | exact ir_of (by omega) (by omega)) (fun h258 => ?_) (fun h258 => ?_)
                · refine r_iconst F dL_law_265 ?_
                  refine r_aload F dL_law_266 rfl ?_
                  refine r_iload F dL_law_268 rfl ?_
                  refine wg_26 F dL_law_270 hs26 (by omega) (by omega) (by omega) ?_
                  refine r_if_ge (tgt := 287) F dL_law_271 (by decide) (by first | assumption | exact ir_of (by omega) (by omega)) (fun h271 => ?_) (fun h271 => ?_)
                  · refine r_iconst F dL_law_287 ?_
                    refine r_icmp_ne (tgt := 404) F dL_law_288 (by decide) (by first | assumption | exact ir_of (by omega) (by omega)) (by first | assumption | exact ir_of (by omega) (by omega)) (fun h288 => ?_) (fun h288 => ?_)
                    · exfalso; omega
                    · refine r_aload F dL_law_291 rfl ?_
                      refine r_iload F dL_law_293 rfl ?_
                      refine wg_28 F dL_law_295 hs28 (by omega) (by omega) (by omega) ?_
                      refine r_iconst F dL_law_296 ?_
                      refine r_icmp_ne (tgt := 304) F dL_law_297 (by decide) (by first | assumption | exact ir_of (by omega) (by omega)) (by first | assumption | exact ir_of (by omega) (by omega)) (fun h297 => ?_) (fun h297 => ?_)
                      · exfalso; omega
                      · refine r_iconst F dL_law_300 ?_
                        refine r_goto (tgt := 305) F dL_law_301 (by decide) ?_
                        refine r_aload F dL_law_305 rfl ?_
                        refine r_iload F dL_law_307 rfl ?_
                        refine wg_26 F dL_law_309 hs26 (by omega) (by omega) (by omega) ?_
                        refine r_aload F dL_law_310 rfl ?_
                        refine r_iload F dL_law_312 rfl ?_
                        refine wg_25 F dL_law_314 hs25 (by omega) (by omega) (by omega) ?_
                        refine r_icmp_ne (tgt := 331) F dL_law_315 (by decide) (by first | assumption | exact ir_of (by omega) (by omega)) (by first | assumption | exact ir_of (by omega) (by omega)) (fun h315 => ?_) (fun h315 => ?_)
                        · exfalso; omega
                        · refine r_aload F dL_law_318 rfl ?_
                          refine r_iload F dL_law_320 rfl ?_
                          refine wg_28 F dL_law_322 hs28 (by omega) (by omega) (by omega) ?_
                          refine r_iconst F dL_law_323 ?_
                          refine r_icmp_ge (tgt := 331) F dL_law_324 (by decide) (by first | assumption | exact ir_of (by omega) (by omega)) (by first | assumption | exact ir_of (by omega) (by omega)) (fun h324 => ?_) (fun h324 => ?_)
                          · exfalso; omega
                          · refine r_iconst F dL_law_327 ?_
                            refine r_goto (tgt := 332) F dL_law_328 (by decide) ?_
                            refine r_icmp_ne (tgt := 404) F dL_law_332 (by decide) (by first | assumption | exact ir_of (by omega) (by omega)) (by first | assumption | exact ir_of (by omega) (by omega)) (fun h332 => ?_) (fun h332 => ?_)
                            · exfalso; omega
                            · refine r_aload F dL_law_335 rfl ?_
                              refine r_iload F dL_law_337 rfl ?_
                              refine wg_28 F dL_law_339 hs28 (by omega) (by omega) (by omega) ?_
                              refine r_iconst F dL_law_340 ?_
                              refine r_icmp_ne (tgt := 348) F dL_law_341 (by decide) (by first | assumption | exact ir_of (by omega) (by omega)) (by first | assumption | exact ir_of (by omega) (by omega)) (fun h341 => ?_) (fun h341 => ?_)
                              · refine r_iconst F dL_law_348 ?_
                                refine r_aload F dL_law_349 rfl ?_
                                refine r_iload F dL_law_351 rfl ?_
                                refine wg_27 F dL_law_353 hs27 (by omega) (by omega) (by omega) ?_
                                refine r_if_ne (tgt := 361) F dL_law_354 (by decide) (by first | assumption | exact ir_of (by omega) (by omega)) (fun h354 => ?_) (fun h354 => ?_)
                                · refine r_iconst F dL_law_361 ?_
                                  refine r_icmp_ne (tgt := 404) F dL_law_362 (by decide) (by first | assumption | exact ir_of (by omega) (by omega)) (by first | assumption | exact ir_of (by omega) (by omega)) (fun h362 => ?_) (fun h362 => ?_)
                                  · exfalso; omega
                                  · refine r_aload F dL_law_365 rfl ?_
                                    refine r_iload F dL_law_367 rfl ?_
                                    refine wg_28 F dL_law_369 hs28 (by omega) (by omega) (by omega) ?_
                                    refine r_iconst F dL_law_370 ?_
                                    refine r_icmp_ne (tgt := 383) F dL_law_371 (by decide) (by first | assumption | exact ir_of (by omega) (by omega)) (by first | assumption | exact ir_of (by omega) (by omega)) (fun h371 => ?_) (fun h371 => ?_)
                                    · refine r_aload_n (i := 1) F dL_law_383 rfl rfl ?_
                                      refine r_iload F dL_law_384 rfl ?_
                                      refine r_iconst F dL_law_386 ?_
                                      refine r_callV F (K_t5 (mm_0 _ _ _ _) hI ⟨by omega, by omega⟩) dL_law_387 lkv_L_112 rfl rfl rfl rfl rfl cd_X4_told (by decide) ⟨by show _ ≤ 630427; omega, by show _ ≤ 7210188; omega⟩ (Nat.le_of_ble_eq_true rfl) ?_
                                      refine r_if_le (tgt := 406) F dL_law_390 (by decide) (by first | assumption | exact ir_of (by omega) (by omega)) (fun h390 => ?_) (fun h390 => ?_)
                                      · refine r_iinc (lv1 := [_, _, _, _, _, _, _, _, _, _, _, _, _, _, _, _, _, _, _, _, _, _, _, _, _, _, _]) F dL_law_406 rfl (by decide) rfl rfl ?_
                                        refine r_goto (tgt := 111) F dL_law_409 (by decide) ?_
                                        have t := ih (j + 1) _ W2 (by omega) (by omega) (tr_go hI hD (unt S j 120 0)) hW2
                                        rw [sm_S _ h0, sm_S _ h0] at t
                                        rw [show balF S j = S 14 j from if_pos (by omega)] at t
                                        exact t
                                      · refine r_aload_n (i := 1) F dL_law_393 rfl rfl ?_
                                        refine r_iload F dL_law_394 rfl ?_
                                        refine r_bipush F dL_law_396 (by decide) ?_
                                        refine r_callV F (K_t6 (mm_0 _ _ _ _) hI ⟨by omega, by omega⟩) dL_law_398 lkv_L_112 rfl rfl rfl rfl rfl cd_X4_told (by decide) ⟨by show _ ≤ 630427; omega, by show _ ≤ 7210188; omega⟩ (Nat.le_of_ble_eq_true rfl) ?_
                                        refine r_if_ne (tgt := 406) F dL_law_401 (by decide) (by first | assumption | exact ir_of (by omega) (by omega)) (fun h401 => ?_) (fun h401 => ?_)
                                        · refine r_iinc (lv1 := [_, _, _, _, _, _, _, _, _, _, _, _, _, _, _, _, _, _, _, _, _, _, _, _, _, _, _]) F dL_law_406 rfl (by decide) rfl rfl ?_
                                          refine r_goto (tgt := 111) F dL_law_409 (by decide) ?_
                                          have t := ih (j + 1) _ W2 (by omega) (by omega) (tr_go hI hD (unt S j 120 0)) hW2
                                          rw [sm_S _ h0, sm_S _ h0] at t
                                          rw [show balF S j = S 14 j from if_pos (by omega)] at t
                                          exact t
                                        · exfalso; omega
                                    · exfalso; omega
                                · exfalso; omega
                              · exfalso; omega
                  · exfalso; omega
                · exfalso; omega
          · exfalso; omega
      · refine r_iload F dL_law_166 rfl ?_
        refine r_aload_n (i := 1) F dL_law_168 rfl rfl ?_
        refine r_iload F dL_law_169 rfl ?_
        refine r_iconst F dL_law_171 ?_
        refine r_callV F (K_t4 (mm_0 _ _ _ _) hI ⟨by omega, by omega⟩) dL_law_172 lkv_L_112 rfl rfl rfl rfl rfl cd_X4_told (by decide) ⟨by show _ ≤ 630427; omega, by show _ ≤ 7210188; omega⟩ (Nat.le_of_ble_eq_true rfl) ?_
        refine r_iadd F dL_law_175 ?_
        refine r_istore (lv1 := [_, _, _, _, _, _, _, _, _, _, _, _, _, _, _, _, _, _, _, _, _, _, _, _, _, _, _]) F dL_law_176 (by decide) rfl rfl ?_
        refine r_iload F dL_law_178 rfl ?_
        refine r_aload F dL_law_180 rfl ?_
        refine r_iload F dL_law_182 rfl ?_
        refine wg_28 F dL_law_184 hs28 (by omega) (by omega) (by omega) ?_
        refine r_iconst F dL_law_185 ?_
        refine r_icmp_ge (tgt := 199) F dL_law_186 (by decide) (by first | assumption | exact ir_of (by omega) (by omega)) (by first | assumption | exact ir_of (by omega) (by omega)) (fun h186 => ?_) (fun h186 => ?_)
        · exfalso; omega
        · refine r_aload_n (i := 1) F dL_law_189 rfl rfl ?_
          refine r_iload F dL_law_190 rfl ?_
          refine r_iconst F dL_law_192 ?_
          refine r_callV F (K_t1 (mm_0 _ _ _ _) hI ⟨by omega, by omega⟩) dL_law_193 lkv_L_112 rfl rfl rfl rfl rfl cd_X4_told (by decide) ⟨by show _ ≤ 630427; omega, by show _ ≤ 7210188; omega⟩ (Nat.le_of_ble_eq_true rfl) ?_
          refine r_goto (tgt := 200) F dL_law_196 (by decide) ?_
          refine r_iadd F dL_law_200 ?_
          refine r_istore (lv1 := [_, _, _, _, _, _, _, _, _, _, _, _, _, _, _, _, _, _, _, _, _, _, _, _, _, _, _]) F dL_law_201 (by decide) rfl rfl ?_
          refine r_aload F dL_law_203 rfl ?_
          refine r_iload F dL_law_205 rfl ?_
          refine r_aload_n (i := 1) F dL_law_207 rfl rfl ?_
          refine r_iload F dL_law_208 rfl ?_
          refine r_callV F (Ct.mm01 (a := S) (b := T) (C_X4_until hI hD hT.1 hT.2 hh9 (ir_of (by omega) (by omega)) (by unfold cRng1; rw [if_neg (by omega)]))) dL_law_210 lkv_L_115 rfl rfl rfl rfl rfl cd_X4_until (by decide) ⟨by show _ ≤ 630427; omega, by show _ ≤ 7210188; omega⟩ (Nat.le_of_ble_eq_true rfl) ?_
          refine ws_27 F dL_law_213 hs27 (by omega) (by omega) (by omega) ?_
          refine V.gen4 (fun W2 eW2 => ?_)
          obtain ⟨⟨q4, q1, q2, q3⟩, hW2⟩ := la_2 (W2 := W2) h0 eW1 (by rw [eW2, eW3]) hW
          refine r_aload F dL_law_214 rfl ?_
          refine r_iload F dL_law_216 rfl ?_
          refine wg_28 F dL_law_218 hs28 (by omega) (by omega) (by omega) ?_
          refine r_iconst F dL_law_219 ?_
          refine r_icmp_le (tgt := 233) F dL_law_220 (by decide) (by first | assumption | exact ir_of (by omega) (by omega)) (by first | assumption | exact ir_of (by omega) (by omega)) (fun h220 => ?_) (fun h220 => ?_)
          · refine r_aload F dL_law_233 rfl ?_
            refine r_iload F dL_law_235 rfl ?_
            refine wg_28 F dL_law_237 hs28 (by omega) (by omega) (by omega) ?_
            refine r_iconst F dL_law_238 ?_
            refine r_icmp_ge (tgt := 253) F dL_law_239 (by decide) (by first | assumption | exact ir_of (by omega) (by omega)) (by first | assumption | exact ir_of (by omega) (by omega)) (fun h239 => ?_) (fun h239 => ?_)
            · exfalso; omega
            · refine r_aload_n (i := 1) F dL_law_242 rfl rfl ?_
              refine r_iload F dL_law_243 rfl ?_
              refine r_iconst F dL_law_245 ?_
              refine r_callV F (K_t1 (mm_0 _ _ _ _) hI ⟨by omega, by omega⟩) dL_law_246 lkv_L_112 rfl rfl rfl rfl rfl cd_X4_told (by decide) ⟨by show _ ≤ 630427; omega, by show _ ≤ 7210188; omega⟩ (Nat.le_of_ble_eq_true rfl) ?_
              refine r_iconst F dL_law_249 ?_
              refine r_icmp_lt (tgt := 404) F dL_law_250 (by decide) (by first | assumption | exact ir_of (by omega) (by omega)) (by first | assumption | exact ir_of (by omega) (by omega)) (fun h250 => ?_) (fun h250 => ?_)
              · exfalso; omega
              · refine r_aload F dL_law_253 rfl ?_
                refine r_iload F dL_law_255 rfl ?_
                refine wg_28 F dL_law_257 hs28 (by omega) (by omega) (by omega) ?_
                refine r_if_ne (tgt := 265) F dL_law_258 (by decide) (by first | assumption | exact ir_of (by omega) (by omega)) (fun h258 => ?_) (fun h258 => ?_)
                · refine r_iconst F dL_law_265 ?_
                  refine r_aload F dL_law_266 rfl ?_
                  refine r_iload F dL_law_268 rfl ?_
                  refine wg_26 F dL_law_270 hs26 (by omega) (by omega) (by omega) ?_
                  refine r_if_ge (tgt := 287) F dL_law_271 (by decide) (by first | assumption | exact ir_of (by omega) (by omega)) (fun h271 => ?_) (fun h271 => ?_)
                  · refine r_iconst F dL_law_287 ?_
                    refine r_icmp_ne (tgt := 404) F dL_law_288 (by decide) (by first | assumption | exact ir_of (by omega) (by omega)) (by first | assumption | exact ir_of (by omega) (by omega)) (fun h288 => ?_) (fun h288 => ?_)
                    · exfalso; omega
                    · refine r_aload F dL_law_291 rfl ?_
                      refine r_iload F dL_law_293 rfl ?_
                      refine wg_28 F dL_law_295 hs28 (by omega) (by omega) (by omega) ?_
                      refine r_iconst F dL_law_296 ?_
                      refine r_icmp_ne (tgt := 304) F dL_law_297 (by decide) (by first | assumption | exact ir_of (by omega) (by omega)) (by first | assumption | exact ir_of (by omega) (by omega)) (fun h297 => ?_) (fun h297 => ?_)
                      · refine r_iconst F dL_law_304 ?_
                        refine r_aload F dL_law_305 rfl ?_
                        refine r_iload F dL_law_307 rfl ?_
                        refine wg_26 F dL_law_309 hs26 (by omega) (by omega) (by omega) ?_
                        refine r_aload F dL_law_310 rfl ?_
                        refine r_iload F dL_law_312 rfl ?_
                        refine wg_25 F dL_law_314 hs25 (by omega) (by omega) (by omega) ?_
                        refine r_icmp_ne (tgt := 331) F dL_law_315 (by decide) (by first | assumption | exact ir_of (by omega) (by omega)) (by first | assumption | exact ir_of (by omega) (by omega)) (fun h315 => ?_) (fun h315 => ?_)
                        · refine r_iconst F dL_law_331 ?_
                          refine r_icmp_ne (tgt := 404) F dL_law_332 (by decide) (by first | assumption | exact ir_of (by omega) (by omega)) (by first | assumption | exact ir_of (by omega) (by omega)) (fun h332 => ?_) (fun h332 => ?_)
                          · exfalso; omega
                          · refine r_aload F dL_law_335 rfl ?_
                            refine r_iload F dL_law_337 rfl ?_
                            refine wg_28 F dL_law_339 hs28 (by omega) (by omega) (by omega) ?_
                            refine r_iconst F dL_law_340 ?_
                            refine r_icmp_ne (tgt := 348) F dL_law_341 (by decide) (by first | assumption | exact ir_of (by omega) (by omega)) (by first | assumption | exact ir_of (by omega) (by omega)) (fun h341 => ?_) (fun h341 => ?_)
                            · refine r_iconst F dL_law_348 ?_
                              refine r_aload F dL_law_349 rfl ?_
                              refine r_iload F dL_law_351 rfl ?_
                              refine wg_27 F dL_law_353 hs27 (by omega) (by omega) (by omega) ?_
                              refine r_if_ne (tgt := 361) F dL_law_354 (by decide) (by first | assumption | exact ir_of (by omega) (by omega)) (fun h354 => ?_) (fun h354 => ?_)
                              · refine r_iconst F dL_law_361 ?_
                                refine r_icmp_ne (tgt := 404) F dL_law_362 (by decide) (by first | assumption | exact ir_of (by omega) (by omega)) (by first | assumption | exact ir_of (by omega) (by omega)) (fun h362 => ?_) (fun h362 => ?_)
                                · exfalso; omega
                                · refine r_aload F dL_law_365 rfl ?_
                                  refine r_iload F dL_law_367 rfl ?_
                                  refine wg_28 F dL_law_369 hs28 (by omega) (by omega) (by omega) ?_
                                  refine r_iconst F dL_law_370 ?_
                                  refine r_icmp_ne (tgt := 383) F dL_law_371 (by decide) (by first | assumption | exact ir_of (by omega) (by omega)) (by first | assumption | exact ir_of (by omega) (by omega)) (fun h371 => ?_) (fun h371 => ?_)
                                  · refine r_aload_n (i := 1) F dL_law_383 rfl rfl ?_
                                    refine r_iload F dL_law_384 rfl ?_
                                    refine r_iconst F dL_law_386 ?_
                                    refine r_callV F (K_t5 (mm_0 _ _ _ _) hI ⟨by omega, by omega⟩) dL_law_387 lkv_L_112 rfl rfl rfl rfl rfl cd_X4_told (by decide) ⟨by show _ ≤ 630427; omega, by show _ ≤ 7210188; omega⟩ (Nat.le_of_ble_eq_true rfl) ?_
                                    refine r_if_le (tgt := 406) F dL_law_390 (by decide) (by first | assumption | exact ir_of (by omega) (by omega)) (fun h390 => ?_) (fun h390 => ?_)
                                    · refine r_iinc (lv1 := [_, _, _, _, _, _, _, _, _, _, _, _, _, _, _, _, _, _, _, _, _, _, _, _, _, _, _]) F dL_law_406 rfl (by decide) rfl rfl ?_
                                      refine r_goto (tgt := 111) F dL_law_409 (by decide) ?_
                                      have t := ih (j + 1) _ W2 (by omega) (by omega) (tr_go hI hD (unt S j 120 0)) hW2
                                      rw [sm_S _ h0, sm_S _ h0] at t
                                      rw [show balF S j = S 14 j from if_pos (by omega)] at t
                                      exact t
                                    · refine r_aload_n (i := 1) F dL_law_393 rfl rfl ?_
                                      refine r_iload F dL_law_394 rfl ?_
                                      refine r_bipush F dL_law_396 (by decide) ?_
                                      refine r_callV F (K_t6 (mm_0 _ _ _ _) hI ⟨by omega, by omega⟩) dL_law_398 lkv_L_112 rfl rfl rfl rfl rfl cd_X4_told (by decide) ⟨by show _ ≤ 630427; omega, by show _ ≤ 7210188; omega⟩ (Nat.le_of_ble_eq_true rfl) ?_
                                      refine r_if_ne (tgt := 406) F dL_law_401 (by decide) (by first | assumption | exact ir_of (by omega) (by omega)) (fun h401 => ?_) (fun h401 => ?_)
                                      · refine r_iinc (lv1 := [_, _, _, _, _, _, _, _, _, _, _, _, _, _, _, _, _, _, _, _, _, _, _, _, _, _, _]) F dL_law_406 rfl (by decide) rfl rfl ?_
                                        refine r_goto (tgt := 111) F dL_law_409 (by decide) ?_
                                        have t := ih (j + 1) _ W2 (by omega) (by omega) (tr_go hI hD (unt S j 120 0)) hW2
                                        rw [sm_S _ h0, sm_S _ h0] at t
                                        rw [show balF S j = S 14 j from if_pos (by omega)] at t
                                        exact t
                                      · exfalso; omega
                                  · exfalso; omega
                              · exfalso; omega
                            · exfalso; omega
                        · exfalso; omega
                      · exfalso; omega
                  · exfalso; omega
                · exfalso; omega
          · exfalso; omega
set_option maxHeartbeats 4000000 in
set_option maxRecDepth 100000 in
theorem law_B {S : St} {X : Mem} {tm v : Int} {dg : Int64} (F : Fx p s m #[Value.ref b] meth c RL cL_law 27 ret cy D ad A) (hX : X 0 = S) (hI : Inv S) (hG : Gd S) (hh : 0 ≤ S 20 0 ∧ S 20 0 < 800000) (hR : kc ≤ 630427 ∧ ks ≤ 7210188) (kk : V p l e RW s m #[Value.ref b] below meth c 27 cy D ad A kc ks Q 489 [some (.ref b), some (.ref (ad 0 0 0)), some (.ref (ad 13 2 0)), some (.int (i32 tm)), some (.int (i32 v)), some (.long dg), none, some (.int (i32 (S 20 3))), some (.int (i32 0)), some (.int (i32 (sm (balF S) (S 20 3).toNat))), some (.int (i32 (sm (S 19) (S 20 3).toNat))), some (.ref (ad 24 2 0)), some (.ref (ad 25 2 0)), some (.ref (ad 26 2 0)), some (.ref (ad 27 2 0)), some (.ref (ad 28 2 0)), some (.int (i32 (caves S))), none, none, none, none, none, none, none, none, none, none] [] (X)) : V p l e RW s m #[Value.ref b] below meth c 27 cy D ad A kc ks Q 412 [some (.ref b), some (.ref (ad 0 0 0)), some (.ref (ad 13 2 0)), some (.int (i32 tm)), some (.int (i32 v)), some (.long dg), none, some (.int (i32 (S 20 3))), some (.int (i32 0)), some (.int (i32 (sm (balF S) (S 20 3).toNat))), some (.int (i32 (sm (S 19) (S 20 3).toNat))), some (.ref (ad 24 2 0)), some (.ref (ad 25 2 0)), some (.ref (ad 26 2 0)), some (.ref (ad 27 2 0)), some (.ref (ad 28 2 0)), none, none, none, none, none, none, none, none, none, none, none] [] (X) := by
  have hh9 : 0 ≤ S 20 0 ∧ S 20 0 < 900000 := ⟨hh.1, by omega⟩
  have ic := hI.pc
  have h1 : ∀ (n : Nat) (j : Int), 0 ≤ j → j + (n : Int) = 16 → V p l e RW s m #[Value.ref b] below meth c 27 cy D ad A kc ks Q 418 [some (.ref b), some (.ref (ad 0 0 0)), some (.ref (ad 13 2 0)), some (.int (i32 tm)), some (.int (i32 v)), some (.long dg), none, some (.int (i32 (S 20 3))), some (.int (i32 0)), some (.int (i32 (sm (balF S) (S 20 3).toNat))), some (.int (i32 (sm (S 19) (S 20 3).toNat))), some (.ref (ad 24 2 0)), some (.ref (ad 25 2 0)), some (.ref (ad 26 2 0)), some (.ref (ad 27 2 0)), some (.ref (ad 28 2 0)), some (.int (i32 (sm (S 1) j.toNat))), some (.int (i32 j)), none, none, none, none, none, none, none, none, none] [] (X) := by
    intro n
    induction n with
    | zero =>
      intro j h0 h1
      have ej : j = 16 := by omega
      subst ej
      refine r_iload F dL_law_418 rfl ?_
      refine r_bipush F dL_law_420 (by decide) ?_
      refine r_icmp_ge (tgt := 489) F dL_law_422 (by decide) (by first | assumption | exact ir_of (by omega) (by omega)) (by first | assumption | exact ir_of (by omega) (by omega)) (fun h422 => ?_) (fun h422 => ?_)
      · refine V.kill (lv1 := [_, _, _, _, _, _, _, _, _, _, _, _, _, _, _, _, _, _, _, _, _, _, _, _, _, _, _]) 17 rfl ?_
        exact kk
      · exfalso; omega
    | succ n ih =>
      intro j h0 h1
      have p := hI.p01 j
      have a1 := nAtW_le hI j
      have a2 : 0 ≤ nAtW S j ∧ nAtW S j ≤ 4 := by have := cnt_bd (atW S j) (S 20 2).toNat; unfold nAtW; omega
      have a3 : 0 ≤ wP S j ∧ wP S j ≤ 4 := by have := cnt_bd (seesP S j) (S 20 2).toNat; unfold wP; omega
      refine r_iload F dL_law_418 rfl ?_
      refine r_bipush F dL_law_420 (by decide) ?_
      refine r_icmp_ge (tgt := 489) F dL_law_422 (by decide) (by first | assumption | exact ir_of (by omega) (by omega)) (by first | assumption | exact ir_of (by omega) (by omega)) (fun h422 => ?_) (fun h422 => ?_)
      · exfalso; omega
      · refine r_iload F dL_law_425 rfl ?_
        refine r_aload_n (i := 1) F dL_law_427 rfl rfl ?_
        refine r_iload F dL_law_428 rfl ?_
        refine r_iconst F dL_law_430 ?_
        refine r_callV F (K_q1 hX hI hh9 ⟨by omega, by omega⟩) dL_law_431 lkv_L_118 rfl rfl rfl rfl rfl cd_X4_place (by decide) ⟨by show _ ≤ 630427; omega, by show _ ≤ 7210188; omega⟩ (Nat.le_of_ble_eq_true rfl) ?_
        refine r_iadd F dL_law_434 ?_
        refine r_istore (lv1 := [_, _, _, _, _, _, _, _, _, _, _, _, _, _, _, _, _, _, _, _, _, _, _, _, _, _, _]) F dL_law_435 (by decide) rfl rfl ?_
        refine r_aload_n (i := 1) F dL_law_437 rfl rfl ?_
        refine r_iload F dL_law_438 rfl ?_
        refine r_iconst F dL_law_440 ?_
        refine r_callV F (K_q1 hX hI hh9 ⟨by omega, by omega⟩) dL_law_441 lkv_L_118 rfl rfl rfl rfl rfl cd_X4_place (by decide) ⟨by show _ ≤ 630427; omega, by show _ ≤ 7210188; omega⟩ (Nat.le_of_ble_eq_true rfl) ?_
        refine r_aload_n (i := 1) F dL_law_444 rfl rfl ?_
        refine r_iload F dL_law_445 rfl ?_
        refine r_iconst F dL_law_447 ?_
        refine r_callV F (K_q0 hX hI hh9 ⟨by omega, by omega⟩) dL_law_448 lkv_L_118 rfl rfl rfl rfl rfl cd_X4_place (by decide) ⟨by show _ ≤ 630427; omega, by show _ ≤ 7210188; omega⟩ (Nat.le_of_ble_eq_true rfl) ?_
        refine r_icmp_gt (tgt := 481) F dL_law_451 (by decide) (by first | assumption | exact ir_of (by omega) (by omega)) (by first | assumption | exact ir_of (by omega) (by omega)) (fun h451 => ?_) (fun h451 => ?_)
        · exfalso; omega
        · refine r_aload_n (i := 1) F dL_law_454 rfl rfl ?_
          refine r_iload F dL_law_455 rfl ?_
          refine r_iconst F dL_law_457 ?_
          refine r_callV F (K_q1 hX hI hh9 ⟨by omega, by omega⟩) dL_law_458 lkv_L_118 rfl rfl rfl rfl rfl cd_X4_place (by decide) ⟨by show _ ≤ 630427; omega, by show _ ≤ 7210188; omega⟩ (Nat.le_of_ble_eq_true rfl) ?_
          refine r_if_lt (tgt := 481) F dL_law_461 (by decide) (by first | assumption | exact ir_of (by omega) (by omega)) (fun h461 => ?_) (fun h461 => ?_)
          · exfalso; omega
          · refine r_aload_n (i := 1) F dL_law_464 rfl rfl ?_
            refine r_iload F dL_law_465 rfl ?_
            refine r_iconst F dL_law_467 ?_
            refine r_callV F (K_q2 hX hI hh9 ⟨by omega, by omega⟩) dL_law_468 lkv_L_118 rfl rfl rfl rfl rfl cd_X4_place (by decide) ⟨by show _ ≤ 630427; omega, by show _ ≤ 7210188; omega⟩ (Nat.le_of_ble_eq_true rfl) ?_
            refine r_aload_n (i := 1) F dL_law_471 rfl rfl ?_
            refine r_iload F dL_law_472 rfl ?_
            refine r_iconst F dL_law_474 ?_
            refine r_callV F (K_q4 hX hI hh9 ⟨by omega, by omega⟩) dL_law_475 lkv_L_118 rfl rfl rfl rfl rfl cd_X4_place (by decide) ⟨by show _ ≤ 630427; omega, by show _ ≤ 7210188; omega⟩ (Nat.le_of_ble_eq_true rfl) ?_
            refine r_icmp_le (tgt := 483) F dL_law_478 (by decide) (by first | assumption | exact ir_of (by omega) (by omega)) (by first | assumption | exact ir_of (by omega) (by omega)) (fun h478 => ?_) (fun h478 => ?_)
            · refine r_iinc (lv1 := [_, _, _, _, _, _, _, _, _, _, _, _, _, _, _, _, _, _, _, _, _, _, _, _, _, _, _]) F dL_law_483 rfl (by decide) rfl rfl ?_
              refine r_goto (tgt := 418) F dL_law_486 (by decide) ?_
              have t := ih (j + 1) (by omega) (by omega)
              rw [sm_S _ h0] at t
              exact t
            · exfalso; omega
  refine r_iconst F dL_law_412 ?_
  refine r_istore (lv1 := [_, _, _, _, _, _, _, _, _, _, _, _, _, _, _, _, _, _, _, _, _, _, _, _, _, _, _]) F dL_law_413 (by decide) rfl rfl ?_
  refine r_iconst F dL_law_415 ?_
  refine r_istore (lv1 := [_, _, _, _, _, _, _, _, _, _, _, _, _, _, _, _, _, _, _, _, _, _, _, _, _, _, _]) F dL_law_416 (by decide) rfl rfl ?_
  exact h1 16 0 (by decide) (by decide)
set_option maxHeartbeats 4000000 in
set_option maxRecDepth 100000 in
theorem law_C {S T W : St} {tm v : Int} {dg : Int64} (F : Fx p s m #[Value.ref b] meth c RL cL_law 27 ret cy D ad A) (hI : Inv S) (hG : Gd S) (hh : 0 ≤ S 20 0 ∧ S 20 0 < 800000) (hR : kc ≤ 630427 ∧ ks ≤ 7210188) (hAr : Ar ad (S 20 3)) (hW : LA S (S 20 3) W) (kk : V p l e RW s m #[Value.ref b] below meth c 27 cy D ad A kc ks Q 607 [some (.ref b), some (.ref (ad 0 0 0)), some (.ref (ad 13 2 0)), some (.int (i32 tm)), some (.int (i32 v)), some (.long dg), none, some (.int (i32 (S 20 3))), some (.int (i32 (sm (S 19) (S 20 3).toNat + sm (balF S) (S 20 3).toNat + S 20 4))), none, none, some (.ref (ad 24 2 0)), some (.ref (ad 25 2 0)), some (.ref (ad 26 2 0)), some (.ref (ad 27 2 0)), some (.ref (ad 28 2 0)), some (.int (i32 (caves S))), none, none, none, none, none, none, none, none, none, none] [] (mm S T S (setc M 4 W))) : V p l e RW s m #[Value.ref b] below meth c 27 cy D ad A kc ks Q 489 [some (.ref b), some (.ref (ad 0 0 0)), some (.ref (ad 13 2 0)), some (.int (i32 tm)), some (.int (i32 v)), some (.long dg), none, some (.int (i32 (S 20 3))), some (.int (i32 0)), some (.int (i32 (sm (balF S) (S 20 3).toNat))), some (.int (i32 (sm (S 19) (S 20 3).toNat))), some (.ref (ad 24 2 0)), some (.ref (ad 25 2 0)), some (.ref (ad 26 2 0)), some (.ref (ad 27 2 0)), some (.ref (ad 28 2 0)), some (.int (i32 (caves S))), none, none, none, none, none, none, none, none, none, none] [] (mm S T S (setc M 4 W)) := by
  have hh9 : 0 ≤ S 20 0 ∧ S 20 0 < 900000 := ⟨hh.1, by omega⟩
  have ic := hI.pc
  obtain ⟨⟨hs24, hl24⟩, ⟨hs25, hl25⟩, ⟨hs26, hl26⟩, ⟨hs27, hl27⟩, ⟨hs28, hl28⟩⟩ := hAr
  have ib := cnt_bd (isF S 0) (S 20 3).toNat
  have ib2 : 0 ≤ inF S 0 ∧ inF S 0 ≤ 6 := by unfold inF; omega
  have sb := sm_bd (f := balF S) (B := 20) (fun i => by have := hI.p14 i; unfold balF; split <;> omega) (S 20 3).toNat
  have w := stK_cnt hI (S 20 3).toNat
  have k0 : W 0 0 + W 0 1 + W 0 2 = inF S 0 := by rw [hW.1 0 (by decide) (by decide), hW.1 1 (by decide) (by decide), hW.1 2 (by decide) (by decide)]; exact w.1
  have k3 : W 0 3 = inF S 1 := (hW.1 3 (by decide) (by decide)).trans w.2.1
  have k4 : W 0 4 = inF S 2 := (hW.1 4 (by decide) (by decide)).trans w.2.2
  refine r_iload F dL_law_489 rfl ?_
  refine r_iload F dL_law_491 rfl ?_
  refine r_iadd F dL_law_493 ?_
  refine r_aload_n (i := 1) F dL_law_494 rfl rfl ?_
  refine r_bipush F dL_law_495 (by decide) ?_
  refine r_callV F (K_n8 (mm_0 _ _ _ _) hI) dL_law_497 lkv_L_109 rfl rfl rfl rfl rfl cd_X4_count (by decide) ⟨by show _ ≤ 630427; omega, by show _ ≤ 7210188; omega⟩ (Nat.le_of_ble_eq_true rfl) ?_
  refine r_iadd F dL_law_500 ?_
  refine r_istore (lv1 := [_, _, _, _, _, _, _, _, _, _, _, _, _, _, _, _, _, _, _, _, _, _, _, _, _, _, _]) F dL_law_501 (by decide) rfl rfl ?_
  refine r_iload F dL_law_503 rfl ?_
  refine r_iload F dL_law_505 rfl ?_
  refine r_aload_n (i := 1) F dL_law_507 rfl rfl ?_
  refine r_bipush F dL_law_508 (by decide) ?_
  refine r_callV F (K_n9 (mm_0 _ _ _ _) hI) dL_law_510 lkv_L_109 rfl rfl rfl rfl rfl cd_X4_count (by decide) ⟨by show _ ≤ 630427; omega, by show _ ≤ 7210188; omega⟩ (Nat.le_of_ble_eq_true rfl) ?_
  refine r_iadd F dL_law_513 ?_
  refine r_cne (tgt := 605) F dL_law_514 (by decide) hG.1 ?_
  refine r_aload F dL_law_517 rfl ?_
  refine r_iconst F dL_law_519 ?_
  refine wg_24 F dL_law_520 hs24 (by omega) (by omega) (by omega) ?_
  refine r_aload F dL_law_521 rfl ?_
  refine r_iconst F dL_law_523 ?_
  refine wg_24 F dL_law_524 hs24 (by omega) (by omega) (by omega) ?_
  refine r_iadd F dL_law_525 ?_
  refine r_aload F dL_law_526 rfl ?_
  refine r_iconst F dL_law_528 ?_
  refine wg_24 F dL_law_529 hs24 (by omega) (by omega) (by omega) ?_
  refine r_iadd F dL_law_530 ?_
  refine r_aload_n (i := 1) F dL_law_531 rfl rfl ?_
  refine r_iconst F dL_law_532 ?_
  refine r_callV F (K_n4 (mm_0 _ _ _ _) hI) dL_law_533 lkv_L_109 rfl rfl rfl rfl rfl cd_X4_count (by decide) ⟨by show _ ≤ 630427; omega, by show _ ≤ 7210188; omega⟩ (Nat.le_of_ble_eq_true rfl) ?_
  refine r_cne (tgt := 605) F dL_law_536 (by decide) k0 ?_
  refine r_aload F dL_law_539 rfl ?_
  refine r_iconst F dL_law_541 ?_
  refine wg_24 F dL_law_542 hs24 (by omega) (by omega) (by omega) ?_
  refine r_aload_n (i := 1) F dL_law_543 rfl rfl ?_
  refine r_iconst F dL_law_544 ?_
  refine r_callV F (K_n5 (mm_0 _ _ _ _) hI) dL_law_545 lkv_L_109 rfl rfl rfl rfl rfl cd_X4_count (by decide) ⟨by show _ ≤ 630427; omega, by show _ ≤ 7210188; omega⟩ (Nat.le_of_ble_eq_true rfl) ?_
  refine r_cne (tgt := 605) F dL_law_548 (by decide) k3 ?_
  refine r_aload F dL_law_551 rfl ?_
  refine r_iconst F dL_law_553 ?_
  refine wg_24 F dL_law_554 hs24 (by omega) (by omega) (by omega) ?_
  refine r_aload_n (i := 1) F dL_law_555 rfl rfl ?_
  refine r_bipush F dL_law_556 (by decide) ?_
  refine r_callV F (K_n6 (mm_0 _ _ _ _) hI) dL_law_558 lkv_L_109 rfl rfl rfl rfl rfl cd_X4_count (by decide) ⟨by show _ ≤ 630427; omega, by show _ ≤ 7210188; omega⟩ (Nat.le_of_ble_eq_true rfl) ?_
  refine r_cne (tgt := 605) F dL_law_561 (by decide) k4 ?_
  refine r_iload F dL_law_564 rfl ?_
  refine r_aload_n (i := 1) F dL_law_566 rfl rfl ?_
  refine r_bipush F dL_law_567 (by decide) ?_
  refine r_callV F (K_n7 (mm_0 _ _ _ _) hI) dL_law_569 lkv_L_109 rfl rfl rfl rfl rfl cd_X4_count (by decide) ⟨by show _ ≤ 630427; omega, by show _ ≤ 7210188; omega⟩ (Nat.le_of_ble_eq_true rfl) ?_
  refine r_cne (tgt := 605) F dL_law_572 (by decide) rfl ?_
  refine r_aload_n (i := 1) F dL_law_575 rfl rfl ?_
  refine r_callV F (K_X4_mean (mm_0 _ _ _ _) hI) dL_law_576 lkv_L_121 rfl rfl rfl rfl rfl cd_X4_mean (by decide) ⟨by show _ ≤ 630427; omega, by show _ ≤ 7210188; omega⟩ (Nat.le_of_ble_eq_true rfl) ?_
  refine r_aload_n (i := 1) F dL_law_579 rfl rfl ?_
  refine r_iconst F dL_law_580 ?_
  refine r_callV F (K_n4 (mm_0 _ _ _ _) hI) dL_law_581 lkv_L_109 rfl rfl rfl rfl rfl cd_X4_count (by decide) ⟨by show _ ≤ 630427; omega, by show _ ≤ 7210188; omega⟩ (Nat.le_of_ble_eq_true rfl) ?_
  refine r_if_ne (tgt := 591) F dL_law_584 (by decide) (by first | assumption | exact ir_of (by omega) (by omega)) (fun h584 => ?_) (fun h584 => ?_)
  · refine r_iload F dL_law_591 rfl ?_
    refine r_i2d F dL_law_593 ?_
    refine r_aload_n (i := 1) F dL_law_594 rfl rfl ?_
    refine r_iconst F dL_law_595 ?_
    refine r_callV F (K_n4 (mm_0 _ _ _ _) hI) dL_law_596 lkv_L_109 rfl rfl rfl rfl rfl cd_X4_count (by decide) ⟨by show _ ≤ 630427; omega, by show _ ≤ 7210188; omega⟩ (Nat.le_of_ble_eq_true rfl) ?_
    refine r_i2d F dL_law_599 ?_
    refine r_ddiv F dL_law_600 (fp_two (by omega) (by omega)).1 ?_
    refine V.cg (st1 := [.double (meanF S), .double (meanF S)]) rfl (by unfold meanF; first | (rw [if_pos h584] <;> rfl) | (rw [if_neg h584] <;> rfl)) ?_
    refine r_dcmpE F dL_law_601 (mean_cmp hI) ?_
    refine r_if_eq (tgt := 607) F dL_law_602 (by decide) (by first | assumption | exact ir_of (by omega) (by omega)) (fun h602 => ?_) (fun h602 => ?_)
    · refine V.kill (lv1 := [_, _, _, _, _, _, _, _, _, _, _, _, _, _, _, _, _, _, _, _, _, _, _, _, _, _, _]) 9 rfl ?_
      refine V.kill (lv1 := [_, _, _, _, _, _, _, _, _, _, _, _, _, _, _, _, _, _, _, _, _, _, _, _, _, _, _]) 10 rfl ?_
      exact kk
    · exfalso; omega
  · refine r_dconst0 F dL_law_587 ?_
    refine r_goto (tgt := 601) F dL_law_588 (by decide) ?_
    refine V.cg (st1 := [.double (meanF S), .double (meanF S)]) rfl (by unfold meanF; first | (rw [if_pos h584] <;> rfl) | (rw [if_neg h584] <;> rfl)) ?_
    refine r_dcmpE F dL_law_601 (mean_cmp hI) ?_
    refine r_if_eq (tgt := 607) F dL_law_602 (by decide) (by first | assumption | exact ir_of (by omega) (by omega)) (fun h602 => ?_) (fun h602 => ?_)
    · refine V.kill (lv1 := [_, _, _, _, _, _, _, _, _, _, _, _, _, _, _, _, _, _, _, _, _, _, _, _, _, _, _]) 9 rfl ?_
      refine V.kill (lv1 := [_, _, _, _, _, _, _, _, _, _, _, _, _, _, _, _, _, _, _, _, _, _, _, _, _, _, _]) 10 rfl ?_
      exact kk
    · exfalso; omega
set_option maxHeartbeats 4000000 in
set_option maxRecDepth 100000 in
theorem law_K {S : St} {X : Mem} {tm v : Int} {dg : Int64} (F : Fx p s m #[Value.ref b] meth c RL cL_law 27 ret cy D ad A) (hX : X 0 = S) (hI : Inv S) (hG : Gd S) (hh : 0 ≤ S 20 0 ∧ S 20 0 < 800000) (hR : kc ≤ 630427 ∧ ks ≤ 7210188) (kk : V p l e RW s m #[Value.ref b] below meth c 27 cy D ad A kc ks Q 694 [some (.ref b), some (.ref (ad 0 0 0)), some (.ref (ad 13 2 0)), some (.int (i32 tm)), some (.int (i32 v)), some (.long dg), none, some (.int (i32 (S 20 3))), some (.int (i32 (sm (S 19) (S 20 3).toNat + sm (balF S) (S 20 3).toNat + S 20 4))), none, none, some (.ref (ad 24 2 0)), some (.ref (ad 25 2 0)), some (.ref (ad 26 2 0)), some (.ref (ad 27 2 0)), some (.ref (ad 28 2 0)), some (.int (i32 (caves S))), none, none, none, none, none, none, none, none, none, none] [] (X)) : V p l e RW s m #[Value.ref b] below meth c 27 cy D ad A kc ks Q 607 [some (.ref b), some (.ref (ad 0 0 0)), some (.ref (ad 13 2 0)), some (.int (i32 tm)), some (.int (i32 v)), some (.long dg), none, some (.int (i32 (S 20 3))), some (.int (i32 (sm (S 19) (S 20 3).toNat + sm (balF S) (S 20 3).toNat + S 20 4))), none, none, some (.ref (ad 24 2 0)), some (.ref (ad 25 2 0)), some (.ref (ad 26 2 0)), some (.ref (ad 27 2 0)), some (.ref (ad 28 2 0)), some (.int (i32 (caves S))), none, none, none, none, none, none, none, none, none, none] [] (X) := by
  have hh9 : 0 ≤ S 20 0 ∧ S 20 0 < 900000 := ⟨hh.1, by omega⟩
  have ic := hI.pc
  have ib2 : 0 ≤ inF S 0 ∧ inF S 0 ≤ 6 := by have := cnt_bd (isF S 0) (S 20 3).toNat; unfold inF; omega
  have h1 : ∀ (n : Nat) (j : Int), 0 ≤ j → j + (n : Int) = 7 → V p l e RW s m #[Value.ref b] below meth c 27 cy D ad A kc ks Q 613 [some (.ref b), some (.ref (ad 0 0 0)), some (.ref (ad 13 2 0)), some (.int (i32 tm)), some (.int (i32 v)), some (.long dg), none, some (.int (i32 (S 20 3))), some (.int (i32 (sm (S 19) (S 20 3).toNat + sm (balF S) (S 20 3).toNat + S 20 4))), none, none, some (.ref (ad 24 2 0)), some (.ref (ad 25 2 0)), some (.ref (ad 26 2 0)), some (.ref (ad 27 2 0)), some (.ref (ad 28 2 0)), some (.int (i32 (caves S))), some (.int (i32 (cnt (kn1 S) j.toNat))), some (.int (i32 (j + 1))), none, none, none, none, none, none, none, none] [] (X) := by
    intro n
    induction n with
    | zero =>
      intro j h0 h1
      have ej : j = 7 := by omega
      subst ej
      refine r_iload F dL_law_613 rfl ?_
      refine r_bipush F dL_law_615 (by decide) ?_
      refine r_icmp_ge (tgt := 681) F dL_law_617 (by decide) (by first | assumption | exact ir_of (by omega) (by omega)) (by first | assumption | exact ir_of (by omega) (by omega)) (fun h617 => ?_) (fun h617 => ?_)
      · refine r_iload F dL_law_681 rfl ?_
        refine r_aload_n (i := 1) F dL_law_683 rfl rfl ?_
        refine r_bipush F dL_law_684 (by decide) ?_
        refine r_callV F (K_n10 hX hI) dL_law_686 lkv_L_109 rfl rfl rfl rfl rfl cd_X4_count (by decide) ⟨by show _ ≤ 630427; omega, by show _ ≤ 7210188; omega⟩ (Nat.le_of_ble_eq_true rfl) ?_
        refine r_ceq (tgt := 694) F dL_law_689 (by decide) rfl ?_
        refine V.kill (lv1 := [_, _, _, _, _, _, _, _, _, _, _, _, _, _, _, _, _, _, _, _, _, _, _, _, _, _, _]) 17 rfl ?_
        refine V.kill (lv1 := [_, _, _, _, _, _, _, _, _, _, _, _, _, _, _, _, _, _, _, _, _, _, _, _, _, _, _]) 18 rfl ?_
        exact kk
      · exfalso; omega
    | succ n ih =>
      intro j h0 h1
      have a1 := nLdB_le S (j + 1)
      have a2 : 0 ≤ nLdB S (j + 1) := by have := cnt_bd (ldB S (j + 1)) (S 20 3).toNat; unfold nLdB; omega
      refine r_iload F dL_law_613 rfl ?_
      refine r_bipush F dL_law_615 (by decide) ?_
      refine r_icmp_ge (tgt := 681) F dL_law_617 (by decide) (by first | assumption | exact ir_of (by omega) (by omega)) (by first | assumption | exact ir_of (by omega) (by omega)) (fun h617 => ?_) (fun h617 => ?_)
      · exfalso; omega
      · refine r_iload F dL_law_620 rfl ?_
        refine r_aload_n (i := 1) F dL_law_622 rfl rfl ?_
        refine r_iload F dL_law_623 rfl ?_
        refine r_iconst F dL_law_625 ?_
        refine r_callV F (K_c2 hX hI ⟨by omega, by omega⟩) dL_law_626 lkv_L_125 rfl rfl rfl rfl rfl cd_X4_code (by decide) ⟨by show _ ≤ 630427; omega, by show _ ≤ 7210188; omega⟩ (Nat.le_of_ble_eq_true rfl) ?_
        refine r_iadd F dL_law_629 ?_
        refine r_istore (lv1 := [_, _, _, _, _, _, _, _, _, _, _, _, _, _, _, _, _, _, _, _, _, _, _, _, _, _, _]) F dL_law_630 (by decide) rfl rfl ?_
        refine r_aload_n (i := 1) F dL_law_632 rfl rfl ?_
        refine r_iload F dL_law_633 rfl ?_
        refine r_iconst F dL_law_635 ?_
        refine r_callV F (K_c2 hX hI ⟨by omega, by omega⟩) dL_law_636 lkv_L_125 rfl rfl rfl rfl rfl cd_X4_code (by decide) ⟨by show _ ≤ 630427; omega, by show _ ≤ 7210188; omega⟩ (Nat.le_of_ble_eq_true rfl) ?_
        refine r_aload_n (i := 1) F dL_law_639 rfl rfl ?_
        refine r_iload F dL_law_640 rfl ?_
        refine r_iconst F dL_law_642 ?_
        refine r_callV F (K_c1 hX hI ⟨by omega, by omega⟩) dL_law_643 lkv_L_125 rfl rfl rfl rfl rfl cd_X4_code (by decide) ⟨by show _ ≤ 630427; omega, by show _ ≤ 7210188; omega⟩ (Nat.le_of_ble_eq_true rfl) ?_
        refine r_iconst F dL_law_646 ?_
        refine r_rcmp_ge (tgt := 654) F dL_law_647 (by decide) (fun h647 => ?_) (fun h647 => ?_)
        · refine r_iconst F dL_law_654 ?_
          refine r_cne (tgt := 673) F dL_law_655 (by decide) (by first | exact kn_ge (by omega) h647 | exact kn_lt h647) ?_
          refine r_aload_n (i := 1) F dL_law_658 rfl rfl ?_
          refine r_iload F dL_law_659 rfl ?_
          refine r_iconst F dL_law_661 ?_
          refine r_callV F (K_c3 hX hI ⟨by omega, by omega⟩) dL_law_662 lkv_L_125 rfl rfl rfl rfl rfl cd_X4_code (by decide) ⟨by show _ ≤ 630427; omega, by show _ ≤ 7210188; omega⟩ (Nat.le_of_ble_eq_true rfl) ?_
          refine r_aload_n (i := 1) F dL_law_665 rfl rfl ?_
          refine r_iconst F dL_law_666 ?_
          refine r_callV F (K_n4 hX hI) dL_law_667 lkv_L_109 rfl rfl rfl rfl rfl cd_X4_count (by decide) ⟨by show _ ≤ 630427; omega, by show _ ≤ 7210188; omega⟩ (Nat.le_of_ble_eq_true rfl) ?_
          refine r_icmp_le (tgt := 675) F dL_law_670 (by decide) (by first | assumption | exact ir_of (by omega) (by omega)) (by first | assumption | exact ir_of (by omega) (by omega)) (fun h670 => ?_) (fun h670 => ?_)
          · refine r_iinc (lv1 := [_, _, _, _, _, _, _, _, _, _, _, _, _, _, _, _, _, _, _, _, _, _, _, _, _, _, _]) F dL_law_675 rfl (by decide) rfl rfl ?_
            refine r_goto (tgt := 613) F dL_law_678 (by decide) ?_
            have t := ih (j + 1) (by omega) (by omega)
            rw [cnt_S _ h0] at t
            exact t
          · exfalso; omega
        · refine r_iconst F dL_law_650 ?_
          refine r_goto (tgt := 655) F dL_law_651 (by decide) ?_
          refine r_cne (tgt := 673) F dL_law_655 (by decide) (by first | exact kn_ge (by omega) h647 | exact kn_lt h647) ?_
          refine r_aload_n (i := 1) F dL_law_658 rfl rfl ?_
          refine r_iload F dL_law_659 rfl ?_
          refine r_iconst F dL_law_661 ?_
          refine r_callV F (K_c3 hX hI ⟨by omega, by omega⟩) dL_law_662 lkv_L_125 rfl rfl rfl rfl rfl cd_X4_code (by decide) ⟨by show _ ≤ 630427; omega, by show _ ≤ 7210188; omega⟩ (Nat.le_of_ble_eq_true rfl) ?_
          refine r_aload_n (i := 1) F dL_law_665 rfl rfl ?_
          refine r_iconst F dL_law_666 ?_
          refine r_callV F (K_n4 hX hI) dL_law_667 lkv_L_109 rfl rfl rfl rfl rfl cd_X4_count (by decide) ⟨by show _ ≤ 630427; omega, by show _ ≤ 7210188; omega⟩ (Nat.le_of_ble_eq_true rfl) ?_
          refine r_icmp_le (tgt := 675) F dL_law_670 (by decide) (by first | assumption | exact ir_of (by omega) (by omega)) (by first | assumption | exact ir_of (by omega) (by omega)) (fun h670 => ?_) (fun h670 => ?_)
          · refine r_iinc (lv1 := [_, _, _, _, _, _, _, _, _, _, _, _, _, _, _, _, _, _, _, _, _, _, _, _, _, _, _]) F dL_law_675 rfl (by decide) rfl rfl ?_
            refine r_goto (tgt := 613) F dL_law_678 (by decide) ?_
            have t := ih (j + 1) (by omega) (by omega)
            rw [cnt_S _ h0] at t
            exact t
          · exfalso; omega
  refine r_iconst F dL_law_607 ?_
  refine r_istore (lv1 := [_, _, _, _, _, _, _, _, _, _, _, _, _, _, _, _, _, _, _, _, _, _, _, _, _, _, _]) F dL_law_608 (by decide) rfl rfl ?_
  refine r_iconst F dL_law_610 ?_
  refine r_istore (lv1 := [_, _, _, _, _, _, _, _, _, _, _, _, _, _, _, _, _, _, _, _, _, _, _, _, _, _, _]) F dL_law_611 (by decide) rfl rfl ?_
  exact h1 7 0 (by decide) (by decide)
set_option maxHeartbeats 4000000 in
set_option maxRecDepth 100000 in
theorem law_D {S : St} {X : Mem} {tm v : Int} (F : Fx p s m #[Value.ref b] meth c RL cL_law 27 ret cy D ad A) (hX : X 0 = S) (hI : Inv S) (hG : Gd S) (hh : 0 ≤ S 20 0 ∧ S 20 0 < 800000) (hR : kc ≤ 630427 ∧ ks ≤ 7210188) (kk : V p l e RW s m #[Value.ref b] below meth c 27 cy D ad A kc ks Q 803 [some (.ref b), some (.ref (ad 0 0 0)), some (.ref (ad 13 2 0)), some (.int (i32 tm)), some (.int (i32 v)), none, none, some (.int (i32 (S 20 3))), some (.int (i32 (sm (S 19) (S 20 3).toNat + sm (balF S) (S 20 3).toNat + S 20 4))), none, none, some (.ref (ad 24 2 0)), some (.ref (ad 25 2 0)), some (.ref (ad 26 2 0)), some (.ref (ad 27 2 0)), some (.ref (ad 28 2 0)), some (.int (i32 (caves S))), none, none, none, none, none, none, none, none, none, none] [] (X)) : V p l e RW s m #[Value.ref b] below meth c 27 cy D ad A kc ks Q 694 [some (.ref b), some (.ref (ad 0 0 0)), some (.ref (ad 13 2 0)), some (.int (i32 tm)), some (.int (i32 v)), some (.long (dB S)), none, some (.int (i32 (S 20 3))), some (.int (i32 (sm (S 19) (S 20 3).toNat + sm (balF S) (S 20 3).toNat + S 20 4))), none, none, some (.ref (ad 24 2 0)), some (.ref (ad 25 2 0)), some (.ref (ad 26 2 0)), some (.ref (ad 27 2 0)), some (.ref (ad 28 2 0)), some (.int (i32 (caves S))), none, none, none, none, none, none, none, none, none, none] [] (X) := by
  have hh9 : 0 ≤ S 20 0 ∧ S 20 0 < 900000 := ⟨hh.1, by omega⟩
  have ic := hI.pc
  have h1 : ∀ (n : Nat) (j : Int), 0 ≤ j → j + (n : Int) = S 20 2 → V p l e RW s m #[Value.ref b] below meth c 27 cy D ad A kc ks Q 700 [some (.ref b), some (.ref (ad 0 0 0)), some (.ref (ad 13 2 0)), some (.int (i32 tm)), some (.int (i32 v)), some (.long (dB S)), none, some (.int (i32 (S 20 3))), some (.int (i32 (sm (S 19) (S 20 3).toNat + sm (balF S) (S 20 3).toNat + S 20 4))), none, none, some (.ref (ad 24 2 0)), some (.ref (ad 25 2 0)), some (.ref (ad 26 2 0)), some (.ref (ad 27 2 0)), some (.ref (ad 28 2 0)), some (.int (i32 (caves S))), none, some (.int (i32 (sm (S 12) j.toNat))), some (.int (i32 j)), none, none, none, none, none, none, none] [] (X) := by
    intro n
    induction n with
    | zero =>
      intro j h0 h1
      have ej : j = S 20 2 := by omega
      subst ej
      refine r_iload F dL_law_700 rfl ?_
      refine r_aload_n (i := 1) F dL_law_702 rfl rfl ?_
      refine r_iconst F dL_law_703 ?_
      refine r_callV F (K_n2 hX hI) dL_law_704 lkv_L_109 rfl rfl rfl rfl rfl cd_X4_count (by decide) ⟨by show _ ≤ 630427; omega, by show _ ≤ 7210188; omega⟩ (Nat.le_of_ble_eq_true rfl) ?_
      refine r_icmp_ge (tgt := 780) F dL_law_707 (by decide) (by first | assumption | exact ir_of (by omega) (by omega)) (by first | assumption | exact ir_of (by omega) (by omega)) (fun h707 => ?_) (fun h707 => ?_)
      · refine r_iload F dL_law_780 rfl ?_
        refine r_aload_n (i := 1) F dL_law_782 rfl rfl ?_
        refine r_bipush F dL_law_783 (by decide) ?_
        refine r_callV F (K_n6 hX hI) dL_law_785 lkv_L_109 rfl rfl rfl rfl rfl cd_X4_count (by decide) ⟨by show _ ≤ 630427; omega, by show _ ≤ 7210188; omega⟩ (Nat.le_of_ble_eq_true rfl) ?_
        refine r_cne (tgt := 801) F dL_law_788 (by decide) hG.2.1 ?_
        refine r_aload_n (i := 1) F dL_law_791 rfl rfl ?_
        refine r_callV F (K_X4_digest hX hI hh9) dL_law_792 lkv_L_105 rfl rfl rfl rfl rfl cd_X4_digest (by decide) ⟨by show _ ≤ 630427; omega, by show _ ≤ 7210188; omega⟩ (Nat.le_of_ble_eq_true rfl) ?_
        refine r_lload F dL_law_795 rfl ?_
        refine r_lcmpE F dL_law_797 ?_
        refine r_if_eq (tgt := 803) F dL_law_798 (by decide) (by first | assumption | exact ir_of (by omega) (by omega)) (fun h798 => ?_) (fun h798 => ?_)
        · refine V.kill (lv1 := [_, _, _, _, _, _, _, _, _, _, _, _, _, _, _, _, _, _, _, _, _, _, _, _, _, _, _]) 18 rfl ?_
          refine V.kill (lv1 := [_, _, _, _, _, _, _, _, _, _, _, _, _, _, _, _, _, _, _, _, _, _, _, _, _, _, _]) 19 rfl ?_
          refine V.kill (lv1 := [_, _, _, _, _, _, _, _, _, _, _, _, _, _, _, _, _, _, _, _, _, _, _, _, _, _, _]) 5 rfl ?_
          exact kk
        · exfalso; omega
      · exfalso; omega
    | succ n ih =>
      intro j h0 h1
      have p11 := hI.p11 j h0 (by omega)
      have pw := hI.pw j
      have sg := sg_pos hI j
      have sg2 : sgP S j ≤ 100 ∧ sgL S j ≤ 100 := by have a := hI.p9 j; have m9 := mo_bd S; unfold sgP sgL; omega
      have ia : iabs (S 11 j) = 1 := by have := iabs_or (S 11 j); omega
      have n1 := nAtW_one (S := S) h0 (show j < S 20 2 by omega)
      have n2 : nAtW S (S 10 j) ≤ 4 := by have := cnt_bd (atW S (S 10 j)) (S 20 2).toNat; unfold nAtW; omega
      refine r_iload F dL_law_700 rfl ?_
      refine r_aload_n (i := 1) F dL_law_702 rfl rfl ?_
      refine r_iconst F dL_law_703 ?_
      refine r_callV F (K_n2 hX hI) dL_law_704 lkv_L_109 rfl rfl rfl rfl rfl cd_X4_count (by decide) ⟨by show _ ≤ 630427; omega, by show _ ≤ 7210188; omega⟩ (Nat.le_of_ble_eq_true rfl) ?_
      refine r_icmp_ge (tgt := 780) F dL_law_707 (by decide) (by first | assumption | exact ir_of (by omega) (by omega)) (by first | assumption | exact ir_of (by omega) (by omega)) (fun h707 => ?_) (fun h707 => ?_)
      · exfalso; omega
      · refine r_iload F dL_law_710 rfl ?_
        refine r_aload_n (i := 1) F dL_law_712 rfl rfl ?_
        refine r_iload F dL_law_713 rfl ?_
        refine r_iconst F dL_law_715 ?_
        refine r_callV F (K_a4 hX hI hh9 ⟨by omega, by omega⟩) dL_law_716 lkv_L_128 rfl rfl rfl rfl rfl cd_X4_about (by decide) ⟨by show _ ≤ 630427; omega, by show _ ≤ 7210188; omega⟩ (Nat.le_of_ble_eq_true rfl) ?_
        refine r_iadd F dL_law_719 ?_
        refine r_istore (lv1 := [_, _, _, _, _, _, _, _, _, _, _, _, _, _, _, _, _, _, _, _, _, _, _, _, _, _, _]) F dL_law_720 (by decide) rfl rfl ?_
        refine r_aload_n (i := 1) F dL_law_722 rfl rfl ?_
        refine r_iload F dL_law_723 rfl ?_
        refine r_iconst F dL_law_725 ?_
        refine r_callV F (K_a1 hX hI hh9 ⟨by omega, by omega⟩) dL_law_726 lkv_L_128 rfl rfl rfl rfl rfl cd_X4_about (by decide) ⟨by show _ ≤ 630427; omega, by show _ ≤ 7210188; omega⟩ (Nat.le_of_ble_eq_true rfl) ?_
        refine r_mabs F dL_law_729 lks_L_131.1.1 lks_L_131.1.2.1 lks_L_131.1.2.2 cd_J9_abs_0f7a4 (by decide) (Nat.le_of_ble_eq_true rfl) ⟨by show _ ≤ 630427; omega, by show _ ≤ 7210188; omega⟩ (by first | assumption | exact ir_of (by omega) (by omega)) ?_
        refine r_iconst F dL_law_732 ?_
        refine r_cne (tgt := 772) F dL_law_733 (by decide) ia ?_
        refine r_aload_n (i := 1) F dL_law_736 rfl rfl ?_
        refine r_iload F dL_law_737 rfl ?_
        refine r_iconst F dL_law_739 ?_
        refine r_callV F (K_a2 hX hI hh9 ⟨by omega, by omega⟩) dL_law_740 lkv_L_128 rfl rfl rfl rfl rfl cd_X4_about (by decide) ⟨by show _ ≤ 630427; omega, by show _ ≤ 7210188; omega⟩ (Nat.le_of_ble_eq_true rfl) ?_
        refine r_if_lt (tgt := 772) F dL_law_743 (by decide) (by first | assumption | exact ir_of (by omega) (by omega)) (fun h743 => ?_) (fun h743 => ?_)
        · exfalso; omega
        · refine r_aload_n (i := 1) F dL_law_746 rfl rfl ?_
          refine r_iload F dL_law_747 rfl ?_
          refine r_iconst F dL_law_749 ?_
          refine r_callV F (K_a3 hX hI hh9 ⟨by omega, by omega⟩) dL_law_750 lkv_L_128 rfl rfl rfl rfl rfl cd_X4_about (by decide) ⟨by show _ ≤ 630427; omega, by show _ ≤ 7210188; omega⟩ (Nat.le_of_ble_eq_true rfl) ?_
          refine r_if_lt (tgt := 772) F dL_law_753 (by decide) (by first | assumption | exact ir_of (by omega) (by omega)) (fun h753 => ?_) (fun h753 => ?_)
          · exfalso; omega
          · refine r_aload_n (i := 1) F dL_law_756 rfl rfl ?_
            refine r_aload_n (i := 1) F dL_law_757 rfl rfl ?_
            refine r_iload F dL_law_758 rfl ?_
            refine r_iconst F dL_law_760 ?_
            refine r_callV F (K_a0 hX hI hh9 ⟨by omega, by omega⟩) dL_law_761 lkv_L_128 rfl rfl rfl rfl rfl cd_X4_about (by decide) ⟨by show _ ≤ 630427; omega, by show _ ≤ 7210188; omega⟩ (Nat.le_of_ble_eq_true rfl) ?_
            refine r_iconst F dL_law_764 ?_
            refine r_callV F (K_q2 hX hI hh9 ⟨by omega, by omega⟩) dL_law_765 lkv_L_118 rfl rfl rfl rfl rfl cd_X4_place (by decide) ⟨by show _ ≤ 630427; omega, by show _ ≤ 7210188; omega⟩ (Nat.le_of_ble_eq_true rfl) ?_
            refine r_iconst F dL_law_768 ?_
            refine r_icmp_ge (tgt := 774) F dL_law_769 (by decide) (by first | assumption | exact ir_of (by omega) (by omega)) (by first | assumption | exact ir_of (by omega) (by omega)) (fun h769 => ?_) (fun h769 => ?_)
            · refine r_iinc (lv1 := [_, _, _, _, _, _, _, _, _, _, _, _, _, _, _, _, _, _, _, _, _, _, _, _, _, _, _]) F dL_law_774 rfl (by decide) rfl rfl ?_
              refine r_goto (tgt := 700) F dL_law_777 (by decide) ?_
              have t := ih (j + 1) (by omega) (by omega)
              rw [sm_S _ h0] at t
              exact t
            · exfalso; omega
  refine r_iconst F dL_law_694 ?_
  refine r_istore (lv1 := [_, _, _, _, _, _, _, _, _, _, _, _, _, _, _, _, _, _, _, _, _, _, _, _, _, _, _]) F dL_law_695 (by decide) rfl rfl ?_
  refine r_iconst F dL_law_697 ?_
  refine r_istore (lv1 := [_, _, _, _, _, _, _, _, _, _, _, _, _, _, _, _, _, _, _, _, _, _, _, _, _, _, _]) F dL_law_698 (by decide) rfl rfl ?_
  exact h1 (S 20 2).toNat 0 (by decide) (by omega)
end LAWA
