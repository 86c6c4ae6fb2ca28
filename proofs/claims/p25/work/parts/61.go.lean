/-! The coast by hand: an hour. -/
def unlK (S : St) (b m : Int) : St := u2 (u2 (u2 S 1 (S 13 b) (S 1 (S 13 b) + m)) 14 b (S 14 b - m)) 19 b (S 19 b + m)
theorem unlK_0 (S : St) (b : Int) : unlK S b 0 = S := by
  unfold unlK
  rw [Int.add_zero, Int.sub_zero, Int.add_zero, u2_self, u2_self, u2_self]
theorem unlK_14 (S : St) (b m : Int) : unlK S b m 14 b = S 14 b - m := by unfold unlK; rw [u2_k (by decide), u2_at]
theorem unlK_1 (S : St) (b m : Int) : unlK S b m 1 (S 13 b) = S 1 (S 13 b) + m := by unfold unlK; rw [u2_k (by decide), u2_k (by decide), u2_at]
theorem unlK_19 (S : St) (b m : Int) : unlK S b m 19 b = S 19 b + m := by unfold unlK; rw [u2_at]
theorem unlK_k {S : St} {b m : Int} {k : Nat} {i : Int} (h : k ≠ 1 ∧ k ≠ 14 ∧ k ≠ 19) : unlK S b m k i = S k i := by unfold unlK; rw [u2_k h.2.2, u2_k h.2.1, u2_k h.1]
theorem unlK_step {S U : St} {b k : Int} (hU : U = unlK S b k) : u2 (u2 (u2 U 14 b (U 14 b - 1)) 19 b (U 19 b + 1)) 1 (U 13 b) (U 1 (U 13 b) + 1) = unlK S b (k + 1) := by
  have e13 : U 13 b = S 13 b := by rw [hU]; exact unlK_k ⟨by decide, by decide, by decide⟩
  rw [e13, show U 14 b = S 14 b - k from by rw [hU]; exact unlK_14 _ _ _, show U 19 b = S 19 b + k from by rw [hU]; exact unlK_19 _ _ _, show U 1 (S 13 b) = S 1 (S 13 b) + k from by rw [hU]; exact unlK_1 _ _ _]
  funext k' i
  by_cases h1 : k' = 1
  · subst h1
    unfold unlK at *
    by_cases hi : i = S 13 b
    · subst hi; rw [u2_at, u2_k (by decide), u2_k (by decide), u2_at]; omega
    · rw [u2_i hi, u2_k (by decide), u2_k (by decide), hU, u2_k (by decide), u2_k (by decide), u2_i hi, u2_k (by decide), u2_k (by decide), u2_i hi]
  · rw [u2_k h1]
    by_cases h2 : k' = 19
    · subst h2
      by_cases hi : i = b
      · subst hi; rw [u2_at, unlK_19]; omega
      · rw [u2_i hi, u2_k (by decide), hU]
        simp [unlK, u2, hi]
    · rw [u2_k h2]
      by_cases h3 : k' = 14
      · subst h3
        by_cases hi : i = b
        · subst hi; rw [u2_at, unlK_14]; omega
        · rw [u2_i hi, hU]
          simp [unlK, u2, hi]
      · rw [u2_k h3, hU, unlK_k ⟨h1, h3, h2⟩, unlK_k ⟨h1, h3, h2⟩]
theorem unlS_K (S : St) (b : Int) : unlS S b = if S 14 b - unlM S b = 0 then u2 (unlK S b (unlM S b)) 18 b 1 else unlK S b (unlM S b) := rfl
def sailK (X : St) (b k : Int) : St := u2 X 13 b (X 13 b + max (-k) (min k (X 15 b - X 13 b)))
theorem sailK_0 (X : St) (b : Int) : sailK X b 0 = X := by
  unfold sailK
  rw [show X 13 b + max (-0) (min 0 (X 15 b - X 13 b)) = X 13 b by omega, u2_self]
theorem sailK_13 (X : St) (b k : Int) : sailK X b k 13 b = X 13 b + max (-k) (min k (X 15 b - X 13 b)) := u2_at _ _ _ _
theorem sailK_step {X U : St} {b k v : Int} (hU : U = sailK X b k) (hv : U 13 b + v = X 13 b + max (-(k + 1)) (min (k + 1) (X 15 b - X 13 b))) : u2 U 13 b (U 13 b + v) = sailK X b (k + 1) := by
  rw [hv, hU]
  unfold sailK
  rw [u2_u2]
theorem sailK_mv {X U : St} {b k : Int} (hU : U = sailK X b k) (h : (X 15 b = -1 ∧ k = 0) ∨ (X 15 b ≠ -1 ∧ max (-k) (min k (X 15 b - X 13 b)) = max (-2) (min 2 (X 15 b - X 13 b)))) : U = mvS X b := by
  unfold mvS
  rcases h with ⟨h1, h2⟩ | ⟨h1, h2⟩
  · rw [if_pos h1, hU, h2, sailK_0]
  · rw [if_neg h1, hU]
    unfold sailK
    rw [h2]
theorem read_ord {S : St} {b l : Int} (h : l = bst S b (S 20 1).toNat) (h2 : l ≠ -1) : u2 (u2 S 15 b (S 2 (shw S l))) 16 b (shw S l) = readS S b := by
  unfold readS
  rw [← h, if_neg h2, u2_comm S (Or.inl (by decide : (16 : Nat) ≠ 15))]
theorem cat_ord (U : St) (j i : Int) : u2 (u2 (u2 (u2 U 18 i 2) 20 4 (U 20 4 + U 14 i)) 14 i 0) 12 j (U 12 j + 1) = catS U j i := by
  unfold catS
  rw [u2_comm U (k := 18) (k2 := 20) (Or.inl (by decide)), u2_comm (u2 U 20 4 (U 20 4 + U 14 i)) (k := 18) (k2 := 14) (Or.inl (by decide))]
theorem cat_sees {U : St} {j i z : Int} (h1 : U 18 i = 0) (h2 : U 13 i = U 15 i) (hz : z = if kn U (U 16 i) = true then 3 else 0) : catB U j i = seesM U j (U 13 i) z := by
  unfold catB there seesM
  rw [decide_eq_true h1, decide_eq_true h2.symm, hz]
  rfl
theorem cat_not {U : St} {j i : Int} (h : U 18 i ≠ 0 ∨ U 13 i ≠ U 15 i) : catB U j i = false := by
  unfold catB there
  rcases h with h | h
  · rw [decide_eq_false h]; rfl
  · rw [decide_eq_false (Ne.symm h), Bool.and_false]; rfl
theorem kn_t {U : St} {c : Int} (h : 0 < c) (h2 : ¬ i32 (U 3 c) ≤ i32 2) : kn U c = true := by
  unfold kn
  rw [decide_eq_true h, decide_eq_false (fun z => h2 ((lt3 _).mpr z))]
  rfl
theorem kn_f {U : St} {c : Int} (h : c ≤ 0 ∨ i32 (U 3 c) ≤ i32 2) : kn U c = false := by
  unfold kn
  rcases h with h | h
  · rw [decide_eq_false (by omega)]; rfl
  · rw [decide_eq_true ((lt3 _).mp h), Bool.not_true, Bool.and_false]

theorem walk_eq {S1 U : St} {j : Int} (h1 : S1 7 j ≤ S1 8 j) (h2 : S1 11 j = 1 ∨ S1 11 j = -1) (h3 : S1 7 j ≤ S1 10 j ∧ S1 10 j ≤ S1 8 j)
    (h : (S1 7 j = S1 8 j ∧ U = S1) ∨ (S1 7 j ≠ S1 8 j ∧ ((S1 11 j = 1 ∧ S1 10 j = S1 8 j) ∨ (S1 11 j = -1 ∧ S1 10 j = S1 7 j)) ∧ U = u2 (u2 S1 11 j (-S1 11 j)) 10 j (S1 10 j + -S1 11 j)) ∨ (S1 7 j ≠ S1 8 j ∧ ¬ (S1 11 j = 1 ∧ S1 10 j = S1 8 j) ∧ ¬ (S1 11 j = -1 ∧ S1 10 j = S1 7 j) ∧ U = u2 S1 10 j (S1 10 j + S1 11 j))) : U = walkS S1 j := by
  unfold walkS
  rcases h with ⟨a, b⟩ | ⟨a, b, d⟩ | ⟨a, b, b2, d⟩
  · rw [if_pos a, b]
  · have e : wg S1 j = -S1 11 j := by
      unfold wg
      rcases b with b | b
      · rw [show (if 0 < S1 11 j then S1 8 j else S1 7 j) = S1 8 j from if_pos (by omega), if_pos b.2]
      · rw [show (if 0 < S1 11 j then S1 8 j else S1 7 j) = S1 7 j from if_neg (by omega), if_pos b.2]
    rw [if_neg a, e, d]
  · have e : wg S1 j = S1 11 j := by
      unfold wg
      rcases h2 with h2 | h2
      · rw [show (if 0 < S1 11 j then S1 8 j else S1 7 j) = S1 8 j from if_pos (by omega), if_neg (fun z => b ⟨h2, z⟩)]
      · rw [show (if 0 < S1 11 j then S1 8 j else S1 7 j) = S1 7 j from if_neg (by omega), if_neg (fun z => b2 ⟨h2, z⟩)]
    rw [if_neg a, e, u2_self, d]

set_option maxHeartbeats 4000000 in
set_option maxRecDepth 100000 in
theorem C_X5_go {l : Launch} {cy : Nat → ClassId} {D : va_G} {ad : Nat → Nat → Int → Nat} {M : Mem} {S : St}  (hsh : Sh ad S) (hh : 0 ≤ S 20 0 ∧ S 20 0 < 1000000) (hI : Inv S) : Ct l cy D ad yX5_go cX5_go 9 (some FieldType.int) 3 [.ref (ad 13 2 0)] (setc M 2 S) (some (.int (i32 (goM S)))) (setc M 2 (go S)) := by
  refine Ct.mk (lv := [some _, none, none, none, none, none, none, none, none]) 8 (by decide) rfl (Nat.le_of_ble_eq_true rfl) (fun p e s m below meth c F => ?_)
  have hsh9 := hsh
  obtain ⟨hs, hn1, hn2, hn3⟩ := hsh
  have ic := hI.pc
  have q3 := go3_20 (S := S) (i := 0) (by decide)
  have hD : V p l e (RM 3) s m ([.ref (ad 13 2 0)] : List Value).toArray below meth c 9 cy D ad (Aw ad s.heap.size) 0 0 (MQ below (Qn cy D ad s.heap.size (some (.int (i32 (goM S)))) (setc M 2 (go S))) ([.ref (ad 13 2 0)] : List Value).toArray s 0 0 (Aw ad s.heap.size)) 530 [some (.ref (ad 13 2 0)), some (.int (i32 (goM S))), none, none, none, none, none, none, none] [] (setc M 2 (go3 S)) := by
    refine r_aload_n (i := 0) F dX5_go_530 rfl rfl ?_
    refine r_dup F dX5_go_531 rfl ?_
    refine gf_X5_40 F dX5_go_532 hs ?_
    refine r_iconst F dX5_go_535 ?_
    refine r_iadd F dX5_go_536 ?_
    refine pf_X5_40 F dX5_go_537 hs ?_
    refine r_iload_n (i := 1) F dX5_go_540 rfl rfl ?_
    exact r_iret F dX5_go_541 rfl rfl (by rw [q3] <;> rfl)
  have hC : ∀ (n : Nat) (j : Int) (S1 : St), 0 ≤ j → j + (n : Int) = S 20 2 → S1 = watchN (go2 S) j.toNat → V p l e (RM 3) s m ([.ref (ad 13 2 0)] : List Value).toArray below meth c 9 cy D ad (Aw ad s.heap.size) 0 0 (MQ below (Qn cy D ad s.heap.size (some (.int (i32 (goM S)))) (setc M 2 (go S))) ([.ref (ad 13 2 0)] : List Value).toArray s 0 0 (Aw ad s.heap.size)) 314 [some (.ref (ad 13 2 0)), some (.int (i32 (goM S))), some (.int (i32 j)), none, none, none, none, none, none] [] (setc M 2 S1) := by
    intro n
    induction n with
    | zero =>
      intro j S1 h0 h1 hS
      refine r_iload_n (i := 2) F dX5_go_314 rfl rfl ?_
      refine r_aload_n (i := 0) F dX5_go_315 rfl rfl ?_
      refine gf_X5_27 F dX5_go_316 hs ?_
      refine al_19 F dX5_go_319 hs hn2 ?_
      refine r_icmp_ge (tgt := 530) F dX5_go_320 (by decide) (by first | assumption | exact ir_of (by omega) (by omega)) (by first | assumption | exact ir_of (by omega) (by omega)) (fun h320 => ?_) (fun h320 => ?_)
      · refine V.kill (lv1 := [_, _, _, _, _, _, _, _, _]) 2 rfl ?_
        refine V.cast (congrArg (setc M 2) (show S1 = go3 S from by rw [hS, show j = S 20 2 by omega] <;> rfl)) hD
      · exfalso; omega
    | succ n ih =>
      intro j S1 h0 h1 hS
      have hI1 : Inv S1 := by rw [hS]; exact watchN_inv (go2_inv hI) _ (by rw [go2_20]; omega)
      have e20 : ∀ i, i ≠ 4 → S1 20 i = S 20 i := fun i hi => by rw [hS, watchN_k (by decide) (by decide) (by decide) (Or.inr hi) (by decide) (by decide)]; exact go2_20
      have e201 := e20 1 (by decide)
      have e202 := e20 2 (by decide)
      have e203 := e20 3 (by decide)
      have e200 := e20 0 (by decide)
      have bw := hI1.pw j
      have b11 := hI1.p11 j h0 (by omega)
      have hW : ∀ U : St, U = walkS S1 j → V p l e (RM 3) s m ([.ref (ad 13 2 0)] : List Value).toArray below meth c 9 cy D ad (Aw ad s.heap.size) 0 0 (MQ below (Qn cy D ad s.heap.size (some (.int (i32 (goM S)))) (setc M 2 (go S))) ([.ref (ad 13 2 0)] : List Value).toArray s 0 0 (Aw ad s.heap.size)) 391 [some (.ref (ad 13 2 0)), some (.int (i32 (goM S))), some (.int (i32 j)), some (.ref (ad 22 2 j)), none, none, none, none, none] [] (setc M 2 U) := by
        intro U hU
        have hIU : Inv U := by rw [hU]; exact walkS_inv hI1 h0 (by omega)
        have f20 : ∀ i, U 20 i = S1 20 i := fun i => by rw [hU]; exact walkS_k (by decide) (by decide)
        have f200 := f20 0
        have f201 := f20 1
        have f202 := f20 2
        have f203 := f20 3
        have hshU : Sh ad U := hsh9.same (by omega) (by omega) (by omega)
        have hN : ∀ (n9 : Nat) (i : Int), 0 ≤ i → i + (n9 : Int) = S 20 3 → V p l e (RM 3) s m ([.ref (ad 13 2 0)] : List Value).toArray below meth c 9 cy D ad (Aw ad s.heap.size) 0 0 (MQ below (Qn cy D ad s.heap.size (some (.int (i32 (goM S)))) (setc M 2 (go S))) ([.ref (ad 13 2 0)] : List Value).toArray s 0 0 (Aw ad s.heap.size)) 408 [some (.ref (ad 13 2 0)), some (.int (i32 (goM S))), some (.int (i32 j)), some (.ref (ad 22 2 j)), some (.int (i32 1)), some (.ref (ad 20 2 0)), some (.int (i32 (S 20 3))), some (.int (i32 i)), none] [] (setc M 2 (seizeS U j)) := by
          intro n9
          induction n9 with
          | zero =>
            intro i g0 g1
            refine r_iload F dX5_go_408 rfl ?_
            refine r_iload F dX5_go_410 rfl ?_
            refine r_icmp_ge (tgt := 524) F dX5_go_412 (by decide) (by first | assumption | exact ir_of (by omega) (by omega)) (by first | assumption | exact ir_of (by omega) (by omega)) (fun h412 => ?_) (fun h412 => ?_)
            · refine r_iinc (lv1 := [_, _, _, _, _, _, _, _, _]) F dX5_go_524 rfl (by decide) rfl rfl ?_
              refine r_goto (tgt := 314) F dX5_go_527 (by decide) ?_
              refine V.kill (lv1 := [_, _, _, _, _, _, _, _, _]) 3 rfl ?_
              refine V.kill (lv1 := [_, _, _, _, _, _, _, _, _]) 4 rfl ?_
              refine V.kill (lv1 := [_, _, _, _, _, _, _, _, _]) 5 rfl ?_
              refine V.kill (lv1 := [_, _, _, _, _, _, _, _, _]) 6 rfl ?_
              refine V.kill (lv1 := [_, _, _, _, _, _, _, _, _]) 7 rfl ?_
              exact ih (j + 1) _ (by omega) (by omega) (by rw [watchN_S _ h0, ← hS, hU] <;> rfl)
            · exfalso; omega
          | succ n9 ih9 =>
            intro i g0 g1
            refine r_iload F dX5_go_408 rfl ?_
            refine r_iload F dX5_go_410 rfl ?_
            refine r_icmp_ge (tgt := 524) F dX5_go_412 (by decide) (by first | assumption | exact ir_of (by omega) (by omega)) (by first | assumption | exact ir_of (by omega) (by omega)) (fun h412 => ?_) (fun h412 => ?_)
            · exfalso; omega
            · refine r_aload F dX5_go_415 rfl ?_
              refine r_iload F dX5_go_417 rfl ?_
              refine aa_20 F dX5_go_419 hs (by omega) (by omega) (by omega) ?_
              refine r_astore (lv1 := [_, _, _, _, _, _, _, _, _]) F dX5_go_420 (by decide) rfl rfl ?_
              refine r_iload F dX5_go_422 rfl ?_
              refine r_if_ne (tgt := 518) F dX5_go_424 (by decide) (by first | assumption | exact ir_of (by omega) (by omega)) (fun h424 => ?_) (fun h424 => ?_)
              · refine r_iinc (lv1 := [_, _, _, _, _, _, _, _, _]) F dX5_go_518 rfl (by decide) rfl rfl ?_
                refine r_goto (tgt := 408) F dX5_go_521 (by decide) ?_
                refine V.kill (lv1 := [_, _, _, _, _, _, _, _, _]) 8 rfl ?_
                exact ih9 (i + 1) (by omega) (by omega)
              · exfalso; omega
        have hB : ∀ (n9 : Nat) (i : Int), 0 ≤ i → i + (n9 : Int) = S 20 3 → (∀ b, 0 ≤ b → b < i → catB U j b = false) → V p l e (RM 3) s m ([.ref (ad 13 2 0)] : List Value).toArray below meth c 9 cy D ad (Aw ad s.heap.size) 0 0 (MQ below (Qn cy D ad s.heap.size (some (.int (i32 (goM S)))) (setc M 2 (go S))) ([.ref (ad 13 2 0)] : List Value).toArray s 0 0 (Aw ad s.heap.size)) 408 [some (.ref (ad 13 2 0)), some (.int (i32 (goM S))), some (.int (i32 j)), some (.ref (ad 22 2 j)), some (.int (i32 0)), some (.ref (ad 20 2 0)), some (.int (i32 (S 20 3))), some (.int (i32 i)), none] [] (setc M 2 U) := by
          intro n9
          induction n9 with
          | zero =>
            intro i g0 g1 hb
            refine r_iload F dX5_go_408 rfl ?_
            refine r_iload F dX5_go_410 rfl ?_
            refine r_icmp_ge (tgt := 524) F dX5_go_412 (by decide) (by first | assumption | exact ir_of (by omega) (by omega)) (by first | assumption | exact ir_of (by omega) (by omega)) (fun h412 => ?_) (fun h412 => ?_)
            · refine r_iinc (lv1 := [_, _, _, _, _, _, _, _, _]) F dX5_go_524 rfl (by decide) rfl rfl ?_
              refine r_goto (tgt := 314) F dX5_go_527 (by decide) ?_
              refine V.kill (lv1 := [_, _, _, _, _, _, _, _, _]) 3 rfl ?_
              refine V.kill (lv1 := [_, _, _, _, _, _, _, _, _]) 4 rfl ?_
              refine V.kill (lv1 := [_, _, _, _, _, _, _, _, _]) 5 rfl ?_
              refine V.kill (lv1 := [_, _, _, _, _, _, _, _, _]) 6 rfl ?_
              refine V.kill (lv1 := [_, _, _, _, _, _, _, _, _]) 7 rfl ?_
              exact ih (j + 1) _ (by omega) (by omega) (by rw [watchN_S _ h0, ← hS]; show U = seizeS (walkS S1 j) j; rw [← hU]; unfold seizeS; rw [if_pos (fst_none (fun b k1 k2 => hb b k1 (by omega)))])
            · exfalso; omega
          | succ n9 ih9 =>
            intro i g0 g1 hb
            have b13 := hIU.p13 i
            have b15 := hIU.p15 i
            have b18 := hIU.p18 i
            have b16 := hIU.p16 i
            have b14 := hIU.p14 i
            have z0 := fm_0 (a := U 18 i) (by omega)
            have z1 := fm_bd (a := U 18 i) (by omega)
            refine r_iload F dX5_go_408 rfl ?_
            refine r_iload F dX5_go_410 rfl ?_
            refine r_icmp_ge (tgt := 524) F dX5_go_412 (by decide) (by first | assumption | exact ir_of (by omega) (by omega)) (by first | assumption | exact ir_of (by omega) (by omega)) (fun h412 => ?_) (fun h412 => ?_)
            · exfalso; omega
            · refine r_aload F dX5_go_415 rfl ?_
              refine r_iload F dX5_go_417 rfl ?_
              refine aa_20 F dX5_go_419 hs (by omega) (by omega) (by omega) ?_
              refine r_astore (lv1 := [_, _, _, _, _, _, _, _, _]) F dX5_go_420 (by decide) rfl rfl ?_
              refine r_iload F dX5_go_422 rfl ?_
              refine r_if_ne (tgt := 518) F dX5_go_424 (by decide) (by first | assumption | exact ir_of (by omega) (by omega)) (fun h424 => ?_) (fun h424 => ?_)
              · exfalso; omega
              · refine r_aload F dX5_go_427 rfl ?_
                refine r_iconst F dX5_go_429 ?_
                refine ia_23_3 F dX5_go_430 hs (by omega) (by omega) (by omega) ?_
                refine r_if_ne (tgt := 518) F dX5_go_431 (by decide) (by first | assumption | exact ir_of (by omega) (by omega)) (fun h431 => ?_) (fun h431 => ?_)
                · refine r_iinc (lv1 := [_, _, _, _, _, _, _, _, _]) F dX5_go_518 rfl (by decide) rfl rfl ?_
                  refine r_goto (tgt := 408) F dX5_go_521 (by decide) ?_
                  refine V.kill (lv1 := [_, _, _, _, _, _, _, _, _]) 8 rfl ?_
                  exact ih9 (i + 1) (by omega) (by omega) (fun b k1 k2 => if e : b = i then by subst e; first | exact cat_not (Or.inl (by omega)) | exact cat_not (Or.inr (by omega)) | (rw [hc9]; exact h479) else hb b k1 (by omega))
                · refine r_aload F dX5_go_434 rfl ?_
                  refine r_iconst F dX5_go_436 ?_
                  refine ia_23_0 F dX5_go_437 hs (by omega) (by omega) (by omega) ?_
                  refine r_aload F dX5_go_438 rfl ?_
                  refine r_iconst F dX5_go_440 ?_
                  refine ia_23_2 F dX5_go_441 hs (by omega) (by omega) (by omega) ?_
                  refine r_icmp_ne (tgt := 518) F dX5_go_442 (by decide) (by first | assumption | exact ir_of (by omega) (by omega)) (by first | assumption | exact ir_of (by omega) (by omega)) (fun h442 => ?_) (fun h442 => ?_)
                  · refine r_iinc (lv1 := [_, _, _, _, _, _, _, _, _]) F dX5_go_518 rfl (by decide) rfl rfl ?_
                    refine r_goto (tgt := 408) F dX5_go_521 (by decide) ?_
                    refine V.kill (lv1 := [_, _, _, _, _, _, _, _, _]) 8 rfl ?_
                    exact ih9 (i + 1) (by omega) (by omega) (fun b k1 k2 => if e : b = i then by subst e; first | exact cat_not (Or.inl (by omega)) | exact cat_not (Or.inr (by omega)) | (rw [hc9]; exact h479) else hb b k1 (by omega))
                  · refine r_aload_n (i := 0) F dX5_go_445 rfl rfl ?_
                    refine r_iload_n (i := 2) F dX5_go_446 rfl rfl ?_
                    refine r_aload F dX5_go_447 rfl ?_
                    refine r_iconst F dX5_go_449 ?_
                    refine ia_23_0 F dX5_go_450 hs (by omega) (by omega) (by omega) ?_
                    refine r_aload F dX5_go_451 rfl ?_
                    refine r_iconst F dX5_go_453 ?_
                    refine ia_23_5 F dX5_go_454 hs (by omega) (by omega) (by omega) ?_
                    refine r_if_le (tgt := 475) F dX5_go_455 (by decide) (by first | assumption | exact ir_of (by omega) (by omega)) (fun h455 => ?_) (fun h455 => ?_)
                    · refine r_iconst F dX5_go_475 ?_
                      first | (have hc9 : catB U j i = seesM U j (U 13 i) 3 := cat_sees (by omega) (by omega) (by rw [kn_t (by omega) h468]; rfl)) | (have hc9 : catB U j i = seesM U j (U 13 i) 0 := cat_sees (by omega) (by omega) (by first | (rw [kn_f (Or.inl (by omega))]; rfl) | (rw [kn_f (Or.inr h468)]; rfl)))
                      refine r_callV F (C_X5_sees hshU (by omega) hIU ⟨by omega, by omega⟩ ⟨by omega, by omega⟩ ⟨by decide, by decide⟩) dX5_go_476 lkv_X5_62 rfl rfl (dm13 hs) rfl rfl cd_X5_sees (by decide) ⟨Nat.le_refl _, Nat.le_refl _⟩ (Nat.le_of_ble_eq_true rfl) ?_
                      refine r_bz_ne (tgt := 485) F dX5_go_479 (by decide) (fun h479 => ?_) (fun h479 => ?_)
                      · refine r_aload F dX5_go_485 rfl ?_
                        refine r_iconst F dX5_go_487 ?_
                        refine r_iconst F dX5_go_488 ?_
                        refine is_23_3b (v := 0) F dX5_go_489 hs (by omega) (by omega) (by omega) ?_
                        refine r_aload_n (i := 0) F dX5_go_490 rfl rfl ?_
                        refine r_dup F dX5_go_491 rfl ?_
                        refine gf_X5_44 F dX5_go_492 hs ?_
                        refine r_aload F dX5_go_495 rfl ?_
                        refine r_iconst F dX5_go_497 ?_
                        refine ia_23_1 F dX5_go_498 hs (by omega) (by omega) (by omega) ?_
                        refine r_iadd F dX5_go_499 ?_
                        refine pf_X5_44 F dX5_go_500 hs ?_
                        refine r_aload F dX5_go_503 rfl ?_
                        refine r_iconst F dX5_go_505 ?_
                        refine r_iconst F dX5_go_506 ?_
                        refine is_23_1 F dX5_go_507 hs (by omega) (by omega) (by omega) ?_
                        refine r_aload_n (i := 3) F dX5_go_508 rfl rfl ?_
                        refine r_iconst F dX5_go_509 ?_
                        refine r_dup2 F dX5_go_510 rfl rfl ?_
                        refine ia_22_5 F dX5_go_511 hs (by omega) (by omega) (by omega) ?_
                        refine r_iconst F dX5_go_512 ?_
                        refine r_iadd F dX5_go_513 ?_
                        refine is_22_5 F dX5_go_514 hs (by omega) (by omega) (by omega) ?_
                        refine r_iconst F dX5_go_515 ?_
                        refine r_istore (lv1 := [_, _, _, _, _, _, _, _, _]) F dX5_go_516 (by decide) rfl rfl ?_
                        refine r_iinc (lv1 := [_, _, _, _, _, _, _, _, _]) F dX5_go_518 rfl (by decide) rfl rfl ?_
                        refine r_goto (tgt := 408) F dX5_go_521 (by decide) ?_
                        refine V.kill (lv1 := [_, _, _, _, _, _, _, _, _]) 8 rfl ?_
                        have e9 := fst_at g0 (show catB U j i = true from by rw [hc9]; exact h479) hb (n := (S 20 3).toNat) (by omega)
                        refine V.cast (congrArg (setc M 2) (show _ = seizeS U j from ?_)) (hN n9 (i + 1) (by omega) (by omega))
                        unfold seizeS
                        rw [f203, e203, e9, if_neg (by omega)]
                        exact cat_ord U j i
                      · refine r_goto (tgt := 518) F dX5_go_482 (by decide) ?_
                        refine r_iinc (lv1 := [_, _, _, _, _, _, _, _, _]) F dX5_go_518 rfl (by decide) rfl rfl ?_
                        refine r_goto (tgt := 408) F dX5_go_521 (by decide) ?_
                        refine V.kill (lv1 := [_, _, _, _, _, _, _, _, _]) 8 rfl ?_
                        exact ih9 (i + 1) (by omega) (by omega) (fun b k1 k2 => if e : b = i then by subst e; first | exact cat_not (Or.inl (by omega)) | exact cat_not (Or.inr (by omega)) | (rw [hc9]; exact h479) else hb b k1 (by omega))
                    · refine r_aload_n (i := 0) F dX5_go_458 rfl rfl ?_
                      refine gf_X5_19 F dX5_go_459 hs ?_
                      refine r_aload F dX5_go_462 rfl ?_
                      refine r_iconst F dX5_go_464 ?_
                      refine ia_23_5 F dX5_go_465 hs (by omega) (by omega) (by omega) ?_
                      refine ia_17 F dX5_go_466 hs (by omega) (by omega) ?_
                      refine r_iconst F dX5_go_467 ?_
                      refine r_rcmp_le (tgt := 475) F dX5_go_468 (by decide) (fun h468 => ?_) (fun h468 => ?_)
                      · refine r_iconst F dX5_go_475 ?_
                        first | (have hc9 : catB U j i = seesM U j (U 13 i) 3 := cat_sees (by omega) (by omega) (by rw [kn_t (by omega) h468]; rfl)) | (have hc9 : catB U j i = seesM U j (U 13 i) 0 := cat_sees (by omega) (by omega) (by first | (rw [kn_f (Or.inl (by omega))]; rfl) | (rw [kn_f (Or.inr h468)]; rfl)))
                        refine r_callV F (C_X5_sees hshU (by omega) hIU ⟨by omega, by omega⟩ ⟨by omega, by omega⟩ ⟨by decide, by decide⟩) dX5_go_476 lkv_X5_62 rfl rfl (dm13 hs) rfl rfl cd_X5_sees (by decide) ⟨Nat.le_refl _, Nat.le_refl _⟩ (Nat.le_of_ble_eq_true rfl) ?_
                        refine r_bz_ne (tgt := 485) F dX5_go_479 (by decide) (fun h479 => ?_) (fun h479 => ?_)
                        · refine r_aload F dX5_go_485 rfl ?_
                          refine r_iconst F dX5_go_487 ?_
                          refine r_iconst F dX5_go_488 ?_
                          refine is_23_3b (v := 0) F dX5_go_489 hs (by omega) (by omega) (by omega) ?_
                          refine r_aload_n (i := 0) F dX5_go_490 rfl rfl ?_
                          refine r_dup F dX5_go_491 rfl ?_
                          refine gf_X5_44 F dX5_go_492 hs ?_
                          refine r_aload F dX5_go_495 rfl ?_
                          refine r_iconst F dX5_go_497 ?_
                          refine ia_23_1 F dX5_go_498 hs (by omega) (by omega) (by omega) ?_
                          refine r_iadd F dX5_go_499 ?_
                          refine pf_X5_44 F dX5_go_500 hs ?_
                          refine r_aload F dX5_go_503 rfl ?_
                          refine r_iconst F dX5_go_505 ?_
                          refine r_iconst F dX5_go_506 ?_
                          refine is_23_1 F dX5_go_507 hs (by omega) (by omega) (by omega) ?_
                          refine r_aload_n (i := 3) F dX5_go_508 rfl rfl ?_
                          refine r_iconst F dX5_go_509 ?_
                          refine r_dup2 F dX5_go_510 rfl rfl ?_
                          refine ia_22_5 F dX5_go_511 hs (by omega) (by omega) (by omega) ?_
                          refine r_iconst F dX5_go_512 ?_
                          refine r_iadd F dX5_go_513 ?_
                          refine is_22_5 F dX5_go_514 hs (by omega) (by omega) (by omega) ?_
                          refine r_iconst F dX5_go_515 ?_
                          refine r_istore (lv1 := [_, _, _, _, _, _, _, _, _]) F dX5_go_516 (by decide) rfl rfl ?_
                          refine r_iinc (lv1 := [_, _, _, _, _, _, _, _, _]) F dX5_go_518 rfl (by decide) rfl rfl ?_
                          refine r_goto (tgt := 408) F dX5_go_521 (by decide) ?_
                          refine V.kill (lv1 := [_, _, _, _, _, _, _, _, _]) 8 rfl ?_
                          have e9 := fst_at g0 (show catB U j i = true from by rw [hc9]; exact h479) hb (n := (S 20 3).toNat) (by omega)
                          refine V.cast (congrArg (setc M 2) (show _ = seizeS U j from ?_)) (hN n9 (i + 1) (by omega) (by omega))
                          unfold seizeS
                          rw [f203, e203, e9, if_neg (by omega)]
                          exact cat_ord U j i
                        · refine r_goto (tgt := 518) F dX5_go_482 (by decide) ?_
                          refine r_iinc (lv1 := [_, _, _, _, _, _, _, _, _]) F dX5_go_518 rfl (by decide) rfl rfl ?_
                          refine r_goto (tgt := 408) F dX5_go_521 (by decide) ?_
                          refine V.kill (lv1 := [_, _, _, _, _, _, _, _, _]) 8 rfl ?_
                          exact ih9 (i + 1) (by omega) (by omega) (fun b k1 k2 => if e : b = i then by subst e; first | exact cat_not (Or.inl (by omega)) | exact cat_not (Or.inr (by omega)) | (rw [hc9]; exact h479) else hb b k1 (by omega))
                      · refine r_iconst F dX5_go_471 ?_
                        refine r_goto (tgt := 476) F dX5_go_472 (by decide) ?_
                        first | (have hc9 : catB U j i = seesM U j (U 13 i) 3 := cat_sees (by omega) (by omega) (by rw [kn_t (by omega) h468]; rfl)) | (have hc9 : catB U j i = seesM U j (U 13 i) 0 := cat_sees (by omega) (by omega) (by first | (rw [kn_f (Or.inl (by omega))]; rfl) | (rw [kn_f (Or.inr h468)]; rfl)))
                        refine r_callV F (C_X5_sees hshU (by omega) hIU ⟨by omega, by omega⟩ ⟨by omega, by omega⟩ ⟨by decide, by decide⟩) dX5_go_476 lkv_X5_62 rfl rfl (dm13 hs) rfl rfl cd_X5_sees (by decide) ⟨Nat.le_refl _, Nat.le_refl _⟩ (Nat.le_of_ble_eq_true rfl) ?_
                        refine r_bz_ne (tgt := 485) F dX5_go_479 (by decide) (fun h479 => ?_) (fun h479 => ?_)
                        · refine r_aload F dX5_go_485 rfl ?_
                          refine r_iconst F dX5_go_487 ?_
                          refine r_iconst F dX5_go_488 ?_
                          refine is_23_3b (v := 0) F dX5_go_489 hs (by omega) (by omega) (by omega) ?_
                          refine r_aload_n (i := 0) F dX5_go_490 rfl rfl ?_
                          refine r_dup F dX5_go_491 rfl ?_
                          refine gf_X5_44 F dX5_go_492 hs ?_
                          refine r_aload F dX5_go_495 rfl ?_
                          refine r_iconst F dX5_go_497 ?_
                          refine ia_23_1 F dX5_go_498 hs (by omega) (by omega) (by omega) ?_
                          refine r_iadd F dX5_go_499 ?_
                          refine pf_X5_44 F dX5_go_500 hs ?_
                          refine r_aload F dX5_go_503 rfl ?_
                          refine r_iconst F dX5_go_505 ?_
                          refine r_iconst F dX5_go_506 ?_
                          refine is_23_1 F dX5_go_507 hs (by omega) (by omega) (by omega) ?_
                          refine r_aload_n (i := 3) F dX5_go_508 rfl rfl ?_
                          refine r_iconst F dX5_go_509 ?_
                          refine r_dup2 F dX5_go_510 rfl rfl ?_
                          refine ia_22_5 F dX5_go_511 hs (by omega) (by omega) (by omega) ?_
                          refine r_iconst F dX5_go_512 ?_
                          refine r_iadd F dX5_go_513 ?_
                          refine is_22_5 F dX5_go_514 hs (by omega) (by omega) (by omega) ?_
                          refine r_iconst F dX5_go_515 ?_
                          refine r_istore (lv1 := [_, _, _, _, _, _, _, _, _]) F dX5_go_516 (by decide) rfl rfl ?_
                          refine r_iinc (lv1 := [_, _, _, _, _, _, _, _, _]) F dX5_go_518 rfl (by decide) rfl rfl ?_
                          refine r_goto (tgt := 408) F dX5_go_521 (by decide) ?_
                          refine V.kill (lv1 := [_, _, _, _, _, _, _, _, _]) 8 rfl ?_
                          have e9 := fst_at g0 (show catB U j i = true from by rw [hc9]; exact h479) hb (n := (S 20 3).toNat) (by omega)
                          refine V.cast (congrArg (setc M 2) (show _ = seizeS U j from ?_)) (hN n9 (i + 1) (by omega) (by omega))
                          unfold seizeS
                          rw [f203, e203, e9, if_neg (by omega)]
                          exact cat_ord U j i
                        · refine r_goto (tgt := 518) F dX5_go_482 (by decide) ?_
                          refine r_iinc (lv1 := [_, _, _, _, _, _, _, _, _]) F dX5_go_518 rfl (by decide) rfl rfl ?_
                          refine r_goto (tgt := 408) F dX5_go_521 (by decide) ?_
                          refine V.kill (lv1 := [_, _, _, _, _, _, _, _, _]) 8 rfl ?_
                          exact ih9 (i + 1) (by omega) (by omega) (fun b k1 k2 => if e : b = i then by subst e; first | exact cat_not (Or.inl (by omega)) | exact cat_not (Or.inr (by omega)) | (rw [hc9]; exact h479) else hb b k1 (by omega))
        refine r_iconst F dX5_go_391 ?_
        refine r_istore (lv1 := [_, _, _, _, _, _, _, _, _]) F dX5_go_392 (by decide) rfl rfl ?_
        refine r_aload_n (i := 0) F dX5_go_394 rfl rfl ?_
        refine gf_X5_30 F dX5_go_395 hs ?_
        refine r_astore (lv1 := [_, _, _, _, _, _, _, _, _]) F dX5_go_398 (by decide) rfl rfl ?_
        refine r_aload F dX5_go_400 rfl ?_
        refine al_20 F dX5_go_402 hs hn3 ?_
        refine r_istore (lv1 := [_, _, _, _, _, _, _, _, _]) F dX5_go_403 (by decide) rfl rfl ?_
        refine r_iconst F dX5_go_405 ?_
        refine r_istore (lv1 := [_, _, _, _, _, _, _, _, _]) F dX5_go_406 (by decide) rfl rfl ?_
        exact hB (S 20 3).toNat 0 (by decide) (by omega) (fun b k1 k2 => by omega)
      refine r_iload_n (i := 2) F dX5_go_314 rfl rfl ?_
      refine r_aload_n (i := 0) F dX5_go_315 rfl rfl ?_
      refine gf_X5_27 F dX5_go_316 hs ?_
      refine al_19 F dX5_go_319 hs hn2 ?_
      refine r_icmp_ge (tgt := 530) F dX5_go_320 (by decide) (by first | assumption | exact ir_of (by omega) (by omega)) (by first | assumption | exact ir_of (by omega) (by omega)) (fun h320 => ?_) (fun h320 => ?_)
      · exfalso; omega
      · refine r_aload_n (i := 0) F dX5_go_323 rfl rfl ?_
        refine gf_X5_27 F dX5_go_324 hs ?_
        refine r_iload_n (i := 2) F dX5_go_327 rfl rfl ?_
        refine aa_19 F dX5_go_328 hs (by omega) (by omega) (by omega) ?_
        refine r_astore_n (i := 3) (lv1 := [_, _, _, _, _, _, _, _, _]) F dX5_go_329 rfl (by decide) rfl rfl ?_
        refine r_aload_n (i := 3) F dX5_go_330 rfl rfl ?_
        refine r_iconst F dX5_go_331 ?_
        refine ia_22_0 F dX5_go_332 hs (by omega) (by omega) (by omega) ?_
        refine r_aload_n (i := 3) F dX5_go_333 rfl rfl ?_
        refine r_iconst F dX5_go_334 ?_
        refine ia_22_1 F dX5_go_335 hs (by omega) (by omega) (by omega) ?_
        refine r_icmp_ge (tgt := 391) F dX5_go_336 (by decide) (by first | assumption | exact ir_of (by omega) (by omega)) (by first | assumption | exact ir_of (by omega) (by omega)) (fun h336 => ?_) (fun h336 => ?_)
        · refine hW _ (walk_eq (by omega) b11 (by omega) ?_)
          first | exact Or.inl ⟨by omega, rfl⟩ | (refine Or.inr (Or.inl ⟨by omega, by omega, ?_⟩); first | (rw [show S1 11 j = 1 by omega, u2_at]; rfl) | (rw [show S1 11 j = -1 by omega, u2_at]; rfl)) | exact Or.inr (Or.inr ⟨by omega, by omega, by omega, rfl⟩)
        · refine r_aload_n (i := 3) F dX5_go_339 rfl rfl ?_
          refine r_iconst F dX5_go_340 ?_
          refine ia_22_4 F dX5_go_341 hs (by omega) (by omega) (by omega) ?_
          refine r_iconst F dX5_go_342 ?_
          refine r_icmp_ne (tgt := 362) F dX5_go_343 (by decide) (by first | assumption | exact ir_of (by omega) (by omega)) (by first | assumption | exact ir_of (by omega) (by omega)) (fun h343 => ?_) (fun h343 => ?_)
          · refine r_aload_n (i := 3) F dX5_go_362 rfl rfl ?_
            refine r_iconst F dX5_go_363 ?_
            refine ia_22_4 F dX5_go_364 hs (by omega) (by omega) (by omega) ?_
            refine r_iconst F dX5_go_365 ?_
            refine r_icmp_ne (tgt := 382) F dX5_go_366 (by decide) (by first | assumption | exact ir_of (by omega) (by omega)) (by first | assumption | exact ir_of (by omega) (by omega)) (fun h366 => ?_) (fun h366 => ?_)
            · refine r_aload_n (i := 3) F dX5_go_382 rfl rfl ?_
              refine r_iconst F dX5_go_383 ?_
              refine r_dup2 F dX5_go_384 rfl rfl ?_
              refine ia_22_3 F dX5_go_385 hs (by omega) (by omega) (by omega) ?_
              refine r_aload_n (i := 3) F dX5_go_386 rfl rfl ?_
              refine r_iconst F dX5_go_387 ?_
              refine ia_22_4 F dX5_go_388 hs (by omega) (by omega) (by omega) ?_
              refine r_iadd F dX5_go_389 ?_
              refine is_22_3 F dX5_go_390 hs (by omega) (by omega) (by omega) ?_
              refine hW _ (walk_eq (by omega) b11 (by omega) ?_)
              first | exact Or.inl ⟨by omega, rfl⟩ | (refine Or.inr (Or.inl ⟨by omega, by omega, ?_⟩); first | (rw [show S1 11 j = 1 by omega, u2_at]; rfl) | (rw [show S1 11 j = -1 by omega, u2_at]; rfl)) | exact Or.inr (Or.inr ⟨by omega, by omega, by omega, rfl⟩)
            · refine r_aload_n (i := 3) F dX5_go_369 rfl rfl ?_
              refine r_iconst F dX5_go_370 ?_
              refine ia_22_3 F dX5_go_371 hs (by omega) (by omega) (by omega) ?_
              refine r_aload_n (i := 3) F dX5_go_372 rfl rfl ?_
              refine r_iconst F dX5_go_373 ?_
              refine ia_22_0 F dX5_go_374 hs (by omega) (by omega) (by omega) ?_
              refine r_icmp_ne (tgt := 382) F dX5_go_375 (by decide) (by first | assumption | exact ir_of (by omega) (by omega)) (by first | assumption | exact ir_of (by omega) (by omega)) (fun h375 => ?_) (fun h375 => ?_)
              · refine r_aload_n (i := 3) F dX5_go_382 rfl rfl ?_
                refine r_iconst F dX5_go_383 ?_
                refine r_dup2 F dX5_go_384 rfl rfl ?_
                refine ia_22_3 F dX5_go_385 hs (by omega) (by omega) (by omega) ?_
                refine r_aload_n (i := 3) F dX5_go_386 rfl rfl ?_
                refine r_iconst F dX5_go_387 ?_
                refine ia_22_4 F dX5_go_388 hs (by omega) (by omega) (by omega) ?_
                refine r_iadd F dX5_go_389 ?_
                refine is_22_3 F dX5_go_390 hs (by omega) (by omega) (by omega) ?_
                refine hW _ (walk_eq (by omega) b11 (by omega) ?_)
                first | exact Or.inl ⟨by omega, rfl⟩ | (refine Or.inr (Or.inl ⟨by omega, by omega, ?_⟩); first | (rw [show S1 11 j = 1 by omega, u2_at]; rfl) | (rw [show S1 11 j = -1 by omega, u2_at]; rfl)) | exact Or.inr (Or.inr ⟨by omega, by omega, by omega, rfl⟩)
              · refine r_aload_n (i := 3) F dX5_go_378 rfl rfl ?_
                refine r_iconst F dX5_go_379 ?_
                refine r_iconst F dX5_go_380 ?_
                refine is_22_4 F dX5_go_381 hs (by omega) (by omega) (by omega) ?_
                refine r_aload_n (i := 3) F dX5_go_382 rfl rfl ?_
                refine r_iconst F dX5_go_383 ?_
                refine r_dup2 F dX5_go_384 rfl rfl ?_
                refine ia_22_3 F dX5_go_385 hs (by omega) (by omega) (by omega) ?_
                refine r_aload_n (i := 3) F dX5_go_386 rfl rfl ?_
                refine r_iconst F dX5_go_387 ?_
                refine ia_22_4 F dX5_go_388 hs (by omega) (by omega) (by omega) ?_
                refine r_iadd F dX5_go_389 ?_
                refine is_22_3 F dX5_go_390 hs (by omega) (by omega) (by omega) ?_
                refine hW _ (walk_eq (by omega) b11 (by omega) ?_)
                first | exact Or.inl ⟨by omega, rfl⟩ | (refine Or.inr (Or.inl ⟨by omega, by omega, ?_⟩); first | (rw [show S1 11 j = 1 by omega, u2_at]; rfl) | (rw [show S1 11 j = -1 by omega, u2_at]; rfl)) | exact Or.inr (Or.inr ⟨by omega, by omega, by omega, rfl⟩)
          · refine r_aload_n (i := 3) F dX5_go_346 rfl rfl ?_
            refine r_iconst F dX5_go_347 ?_
            refine ia_22_3 F dX5_go_348 hs (by omega) (by omega) (by omega) ?_
            refine r_aload_n (i := 3) F dX5_go_349 rfl rfl ?_
            refine r_iconst F dX5_go_350 ?_
            refine ia_22_1 F dX5_go_351 hs (by omega) (by omega) (by omega) ?_
            refine r_icmp_ne (tgt := 362) F dX5_go_352 (by decide) (by first | assumption | exact ir_of (by omega) (by omega)) (by first | assumption | exact ir_of (by omega) (by omega)) (fun h352 => ?_) (fun h352 => ?_)
            · refine r_aload_n (i := 3) F dX5_go_362 rfl rfl ?_
              refine r_iconst F dX5_go_363 ?_
              refine ia_22_4 F dX5_go_364 hs (by omega) (by omega) (by omega) ?_
              refine r_iconst F dX5_go_365 ?_
              refine r_icmp_ne (tgt := 382) F dX5_go_366 (by decide) (by first | assumption | exact ir_of (by omega) (by omega)) (by first | assumption | exact ir_of (by omega) (by omega)) (fun h366 => ?_) (fun h366 => ?_)
              · refine r_aload_n (i := 3) F dX5_go_382 rfl rfl ?_
                refine r_iconst F dX5_go_383 ?_
                refine r_dup2 F dX5_go_384 rfl rfl ?_
                refine ia_22_3 F dX5_go_385 hs (by omega) (by omega) (by omega) ?_
                refine r_aload_n (i := 3) F dX5_go_386 rfl rfl ?_
                refine r_iconst F dX5_go_387 ?_
                refine ia_22_4 F dX5_go_388 hs (by omega) (by omega) (by omega) ?_
                refine r_iadd F dX5_go_389 ?_
                refine is_22_3 F dX5_go_390 hs (by omega) (by omega) (by omega) ?_
                refine hW _ (walk_eq (by omega) b11 (by omega) ?_)
                first | exact Or.inl ⟨by omega, rfl⟩ | (refine Or.inr (Or.inl ⟨by omega, by omega, ?_⟩); first | (rw [show S1 11 j = 1 by omega, u2_at]; rfl) | (rw [show S1 11 j = -1 by omega, u2_at]; rfl)) | exact Or.inr (Or.inr ⟨by omega, by omega, by omega, rfl⟩)
              · refine r_aload_n (i := 3) F dX5_go_369 rfl rfl ?_
                refine r_iconst F dX5_go_370 ?_
                refine ia_22_3 F dX5_go_371 hs (by omega) (by omega) (by omega) ?_
                refine r_aload_n (i := 3) F dX5_go_372 rfl rfl ?_
                refine r_iconst F dX5_go_373 ?_
                refine ia_22_0 F dX5_go_374 hs (by omega) (by omega) (by omega) ?_
                refine r_icmp_ne (tgt := 382) F dX5_go_375 (by decide) (by first | assumption | exact ir_of (by omega) (by omega)) (by first | assumption | exact ir_of (by omega) (by omega)) (fun h375 => ?_) (fun h375 => ?_)
                · refine r_aload_n (i := 3) F dX5_go_382 rfl rfl ?_
                  refine r_iconst F dX5_go_383 ?_
                  refine r_dup2 F dX5_go_384 rfl rfl ?_
                  refine ia_22_3 F dX5_go_385 hs (by omega) (by omega) (by omega) ?_
                  refine r_aload_n (i := 3) F dX5_go_386 rfl rfl ?_
                  refine r_iconst F dX5_go_387 ?_
                  refine ia_22_4 F dX5_go_388 hs (by omega) (by omega) (by omega) ?_
                  refine r_iadd F dX5_go_389 ?_
                  refine is_22_3 F dX5_go_390 hs (by omega) (by omega) (by omega) ?_
                  refine hW _ (walk_eq (by omega) b11 (by omega) ?_)
                  first | exact Or.inl ⟨by omega, rfl⟩ | (refine Or.inr (Or.inl ⟨by omega, by omega, ?_⟩); first | (rw [show S1 11 j = 1 by omega, u2_at]; rfl) | (rw [show S1 11 j = -1 by omega, u2_at]; rfl)) | exact Or.inr (Or.inr ⟨by omega, by omega, by omega, rfl⟩)
                · refine r_aload_n (i := 3) F dX5_go_378 rfl rfl ?_
                  refine r_iconst F dX5_go_379 ?_
                  refine r_iconst F dX5_go_380 ?_
                  refine is_22_4 F dX5_go_381 hs (by omega) (by omega) (by omega) ?_
                  refine r_aload_n (i := 3) F dX5_go_382 rfl rfl ?_
                  refine r_iconst F dX5_go_383 ?_
                  refine r_dup2 F dX5_go_384 rfl rfl ?_
                  refine ia_22_3 F dX5_go_385 hs (by omega) (by omega) (by omega) ?_
                  refine r_aload_n (i := 3) F dX5_go_386 rfl rfl ?_
                  refine r_iconst F dX5_go_387 ?_
                  refine ia_22_4 F dX5_go_388 hs (by omega) (by omega) (by omega) ?_
                  refine r_iadd F dX5_go_389 ?_
                  refine is_22_3 F dX5_go_390 hs (by omega) (by omega) (by omega) ?_
                  refine hW _ (walk_eq (by omega) b11 (by omega) ?_)
                  first | exact Or.inl ⟨by omega, rfl⟩ | (refine Or.inr (Or.inl ⟨by omega, by omega, ?_⟩); first | (rw [show S1 11 j = 1 by omega, u2_at]; rfl) | (rw [show S1 11 j = -1 by omega, u2_at]; rfl)) | exact Or.inr (Or.inr ⟨by omega, by omega, by omega, rfl⟩)
            · refine r_aload_n (i := 3) F dX5_go_355 rfl rfl ?_
              refine r_iconst F dX5_go_356 ?_
              refine r_iconst F dX5_go_357 ?_
              refine is_22_4 F dX5_go_358 hs (by omega) (by omega) (by omega) ?_
              refine r_goto (tgt := 382) F dX5_go_359 (by decide) ?_
              refine r_aload_n (i := 3) F dX5_go_382 rfl rfl ?_
              refine r_iconst F dX5_go_383 ?_
              refine r_dup2 F dX5_go_384 rfl rfl ?_
              refine ia_22_3 F dX5_go_385 hs (by omega) (by omega) (by omega) ?_
              refine r_aload_n (i := 3) F dX5_go_386 rfl rfl ?_
              refine r_iconst F dX5_go_387 ?_
              refine ia_22_4 F dX5_go_388 hs (by omega) (by omega) (by omega) ?_
              refine r_iadd F dX5_go_389 ?_
              refine is_22_3 F dX5_go_390 hs (by omega) (by omega) (by omega) ?_
              refine hW _ (walk_eq (by omega) b11 (by omega) ?_)
              first | exact Or.inl ⟨by omega, rfl⟩ | (refine Or.inr (Or.inl ⟨by omega, by omega, ?_⟩); first | (rw [show S1 11 j = 1 by omega, u2_at]; rfl) | (rw [show S1 11 j = -1 by omega, u2_at]; rfl)) | exact Or.inr (Or.inr ⟨by omega, by omega, by omega, rfl⟩)
  have hB : ∀ (n : Nat) (j : Int) (S1 : St) (s1 : Int), 0 ≤ j → j + (n : Int) = S 20 3 → S1 = boatN (go1 S) j.toNat → s1 = boatM (go1 S) j.toNat → V p l e (RM 3) s m ([.ref (ad 13 2 0)] : List Value).toArray below meth c 9 cy D ad (Aw ad s.heap.size) 0 0 (MQ below (Qn cy D ad s.heap.size (some (.int (i32 (goM S)))) (setc M 2 (go S))) ([.ref (ad 13 2 0)] : List Value).toArray s 0 0 (Aw ad s.heap.size)) 76 [some (.ref (ad 13 2 0)), some (.int (i32 s1)), some (.ref (ad 20 2 0)), some (.int (i32 (S 20 3))), some (.int (i32 j)), none, none, none, none] [] (setc M 2 S1) := by
    intro n
    induction n with
    | zero =>
      intro j S1 s1 h0 h1 hS hs1
      refine r_iload F dX5_go_76 rfl ?_
      refine r_iload_n (i := 3) F dX5_go_78 rfl rfl ?_
      refine r_icmp_ge (tgt := 312) F dX5_go_79 (by decide) (by first | assumption | exact ir_of (by omega) (by omega)) (by first | assumption | exact ir_of (by omega) (by omega)) (fun h79 => ?_) (fun h79 => ?_)
      · refine r_iconst F dX5_go_312 ?_
        refine r_istore_n (i := 2) (lv1 := [_, _, _, _, _, _, _, _, _]) F dX5_go_313 rfl (by decide) rfl rfl ?_
        refine V.kill (lv1 := [_, _, _, _, _, _, _, _, _]) 3 rfl ?_
        refine V.kill (lv1 := [_, _, _, _, _, _, _, _, _]) 4 rfl ?_
        subst hs1
        rw [show boatM (go1 S) j.toNat = goM S from by rw [show j = S 20 3 by omega] <;> rfl]
        exact hC (S 20 2).toNat 0 S1 (by decide) (by omega) (by rw [hS, show j = S 20 3 by omega] <;> rfl)
      · exfalso; omega
    | succ n ih =>
      intro j S1 s1 h0 h1 hS hs1
      have hI1 : Inv S1 := by rw [hS]; exact boatN_inv (go1_inv hI) _
      have e20 : ∀ i, S1 20 i = S 20 i := fun i => by rw [hS, boatN_k (by decide) (by decide) (by decide) (by decide) (by decide) (by decide) (by decide)]; exact go1_k (by decide) (by decide)
      have e200 := e20 0
      have e201 := e20 1
      have e202 := e20 2
      have e203 := e20 3
      have b13 := hI1.p13 j
      have b14 := hI1.p14 j
      have b15 := hI1.p15 j
      have b16 := hI1.p16 j
      have b17 := hI1.p17 j
      have b18 := hI1.p18 j
      have b01 := hI1.p01 (S1 13 j)
      have hsh1 : Sh ad S1 := hsh9.same e201 e202 e203
      have um := unlM_bd hI1 j
      have uq : unlM S1 j = min (min 4 (S1 14 j)) (S1 0 (S1 13 j) - S1 1 (S1 13 j)) := rfl
      have z0 := fm_0 (a := S1 18 j) (by omega)
      have z1 := fm_bd (a := S1 18 j) (by omega)
      have hN : ∀ (S2 : St) (s2 : Int), S2 = boatS S1 j → s2 = s1 + (if there S1 j = true then unlM S1 j else 0) → V p l e (RM 3) s m ([.ref (ad 13 2 0)] : List Value).toArray below meth c 9 cy D ad (Aw ad s.heap.size) 0 0 (MQ below (Qn cy D ad s.heap.size (some (.int (i32 (goM S)))) (setc M 2 (go S))) ([.ref (ad 13 2 0)] : List Value).toArray s 0 0 (Aw ad s.heap.size)) 306 [some (.ref (ad 13 2 0)), some (.int (i32 s2)), some (.ref (ad 20 2 0)), some (.int (i32 (S 20 3))), some (.int (i32 j)), none, none, none, none] [] (setc M 2 S2) := by
        intro S2 s2 k1 k2
        refine r_iinc (lv1 := [_, _, _, _, _, _, _, _, _]) F dX5_go_306 rfl (by decide) rfl rfl ?_
        refine r_goto (tgt := 76) F dX5_go_309 (by decide) ?_
        exact ih (j + 1) S2 s2 (by omega) (by omega) (by rw [boatN_S _ h0, ← hS, k1]) (by rw [boatM_S _ h0, ← hS, k2, hs1])
      have hE : S1 18 j = 0 → S1 13 j = S1 15 j → ∀ (U : St) (k : Int), k = unlM S1 j → U = unlK S1 j k → V p l e (RM 3) s m ([.ref (ad 13 2 0)] : List Value).toArray below meth c 9 cy D ad (Aw ad s.heap.size) 0 0 (MQ below (Qn cy D ad s.heap.size (some (.int (i32 (goM S)))) (setc M 2 (go S))) ([.ref (ad 13 2 0)] : List Value).toArray s 0 0 (Aw ad s.heap.size)) 184 [some (.ref (ad 13 2 0)), some (.int (i32 ((s1 + k)))), some (.ref (ad 20 2 0)), some (.int (i32 (S 20 3))), some (.int (i32 j)), some (.ref (ad 23 2 j)), none, none, none] [] (setc M 2 U) := by
        intro w1 w2 U k k1 k2
        have u14 : U 14 j = S1 14 j - k := by rw [k2]; exact unlK_14 _ _ _
        have eb : boatS S1 j = unlS S1 j := by unfold boatS; rw [if_neg (by omega), if_pos w2.symm]
        have et : there S1 j = true := by unfold there; rw [decide_eq_true w1, decide_eq_true w2.symm]; rfl
        refine r_aload F dX5_go_184 rfl ?_
        refine r_iconst F dX5_go_186 ?_
        refine ia_23_1 F dX5_go_187 hs (by omega) (by omega) (by omega) ?_
        refine r_if_ne (tgt := 306) F dX5_go_188 (by decide) (by first | assumption | exact ir_of (by omega) (by omega)) (fun h188 => ?_) (fun h188 => ?_)
        · refine V.kill (lv1 := [_, _, _, _, _, _, _, _, _]) 5 rfl ?_
          refine hN _ _ ?_ (by rw [et, if_pos rfl, k1])
          rw [eb, unlS_K, ← k1, ← k2]
          first | (rw [if_neg (show ¬ S1 14 j - k = 0 by omega)]; done) | (rw [if_pos (show S1 14 j - k = 0 by omega)]; done)
        · refine r_aload F dX5_go_191 rfl ?_
          refine r_iconst F dX5_go_193 ?_
          refine r_iconst F dX5_go_194 ?_
          refine is_23_3a (v := 0) F dX5_go_195 hs (by omega) (by omega) (by omega) ?_
          refine r_goto (tgt := 306) F dX5_go_196 (by decide) ?_
          refine V.kill (lv1 := [_, _, _, _, _, _, _, _, _]) 5 rfl ?_
          refine hN _ _ ?_ (by rw [et, if_pos rfl, k1])
          rw [eb, unlS_K, ← k1, ← k2]
          first | (rw [if_neg (show ¬ S1 14 j - k = 0 by omega)]; done) | (rw [if_pos (show S1 14 j - k = 0 by omega)]; done)
      have hU : S1 18 j = 0 → S1 13 j = S1 15 j → ∀ (n9 : Nat) (k : Int) (U : St), 0 ≤ k → k + (n9 : Int) = 4 → k ≤ unlM S1 j → U = unlK S1 j k → V p l e (RM 3) s m ([.ref (ad 13 2 0)] : List Value).toArray below meth c 9 cy D ad (Aw ad s.heap.size) 0 0 (MQ below (Qn cy D ad s.heap.size (some (.int (i32 (goM S)))) (setc M 2 (go S))) ([.ref (ad 13 2 0)] : List Value).toArray s 0 0 (Aw ad s.heap.size)) 112 [some (.ref (ad 13 2 0)), some (.int (i32 ((s1 + k)))), some (.ref (ad 20 2 0)), some (.int (i32 (S 20 3))), some (.int (i32 j)), some (.ref (ad 23 2 j)), some (.int (i32 k)), none, none] [] (setc M 2 U) := by
        intro w1 w2 n9
        induction n9 with
        | zero =>
          intro k U g0 g1 g2 g3
          refine r_iload F dX5_go_112 rfl ?_
          refine r_iconst F dX5_go_114 ?_
          refine r_icmp_ge (tgt := 184) F dX5_go_115 (by decide) (by first | assumption | exact ir_of (by omega) (by omega)) (by first | assumption | exact ir_of (by omega) (by omega)) (fun h115 => ?_) (fun h115 => ?_)
          · refine V.kill (lv1 := [_, _, _, _, _, _, _, _, _]) 6 rfl ?_
            exact hE w1 w2 U k (by omega) g3
          · exfalso; omega
        | succ n9 ih9 =>
          intro k U g0 g1 g2 g3
          have u14 : U 14 j = S1 14 j - k := by rw [g3]; exact unlK_14 _ _ _
          have u13 : U 13 j = S1 13 j := by rw [g3]; exact unlK_k ⟨by decide, by decide, by decide⟩
          have u0 : U 0 (U 13 j) = S1 0 (S1 13 j) := by rw [u13, g3]; exact unlK_k ⟨by decide, by decide, by decide⟩
          have u1 : U 1 (U 13 j) = S1 1 (S1 13 j) + k := by rw [u13, g3]; exact unlK_1 _ _ _
          have b13U : 0 ≤ U 13 j ∧ U 13 j ≤ 15 := by omega
          refine r_iload F dX5_go_112 rfl ?_
          refine r_iconst F dX5_go_114 ?_
          refine r_icmp_ge (tgt := 184) F dX5_go_115 (by decide) (by first | assumption | exact ir_of (by omega) (by omega)) (by first | assumption | exact ir_of (by omega) (by omega)) (fun h115 => ?_) (fun h115 => ?_)
          · exfalso; omega
          · refine r_aload F dX5_go_118 rfl ?_
            refine r_iconst F dX5_go_120 ?_
            refine ia_23_1 F dX5_go_121 hs (by omega) (by omega) (by omega) ?_
            refine r_if_le (tgt := 184) F dX5_go_122 (by decide) (by first | assumption | exact ir_of (by omega) (by omega)) (fun h122 => ?_) (fun h122 => ?_)
            · refine V.kill (lv1 := [_, _, _, _, _, _, _, _, _]) 6 rfl ?_
              exact hE w1 w2 U k (by omega) g3
            · refine r_aload_n (i := 0) F dX5_go_125 rfl rfl ?_
              refine gf_X5_13 F dX5_go_126 hs ?_
              refine r_aload F dX5_go_129 rfl ?_
              refine r_iconst F dX5_go_131 ?_
              refine ia_23_0 F dX5_go_132 hs (by omega) (by omega) (by omega) ?_
              refine ia_15 F dX5_go_133 hs (by omega) (by omega) ?_
              refine r_aload_n (i := 0) F dX5_go_134 rfl rfl ?_
              refine gf_X5_7 F dX5_go_135 hs ?_
              refine r_aload F dX5_go_138 rfl ?_
              refine r_iconst F dX5_go_140 ?_
              refine ia_23_0 F dX5_go_141 hs (by omega) (by omega) (by omega) ?_
              refine ia_14 F dX5_go_142 hs (by omega) (by omega) ?_
              refine r_icmp_ge (tgt := 184) F dX5_go_143 (by decide) (by first | assumption | exact ir_of (by omega) (by omega)) (by first | assumption | exact ir_of (by omega) (by omega)) (fun h143 => ?_) (fun h143 => ?_)
              · refine V.kill (lv1 := [_, _, _, _, _, _, _, _, _]) 6 rfl ?_
                exact hE w1 w2 U k (by omega) g3
              · refine r_aload F dX5_go_146 rfl ?_
                refine r_iconst F dX5_go_148 ?_
                refine r_dup2 F dX5_go_149 rfl rfl ?_
                refine ia_23_1 F dX5_go_150 hs (by omega) (by omega) (by omega) ?_
                refine r_iconst F dX5_go_151 ?_
                refine r_isub F dX5_go_152 ?_
                refine is_23_1 F dX5_go_153 hs (by omega) (by omega) (by omega) ?_
                refine r_aload F dX5_go_154 rfl ?_
                refine r_iconst F dX5_go_156 ?_
                refine r_dup2 F dX5_go_157 rfl rfl ?_
                refine ia_23_4 F dX5_go_158 hs (by omega) (by omega) (by omega) ?_
                refine r_iconst F dX5_go_159 ?_
                refine r_iadd F dX5_go_160 ?_
                refine is_23_4 F dX5_go_161 hs (by omega) (by omega) (by omega) ?_
                refine r_aload_n (i := 0) F dX5_go_162 rfl rfl ?_
                refine gf_X5_13 F dX5_go_163 hs ?_
                refine r_aload F dX5_go_166 rfl ?_
                refine r_iconst F dX5_go_168 ?_
                refine ia_23_0 F dX5_go_169 hs (by omega) (by omega) (by omega) ?_
                refine r_dup2 F dX5_go_170 rfl rfl ?_
                refine ia_15 F dX5_go_171 hs (show 0 ≤ U 13 j by omega) (show U 13 j < 16 by omega) ?_
                refine r_iconst F dX5_go_172 ?_
                refine r_iadd F dX5_go_173 ?_
                refine is_15 F dX5_go_174 hs (show 0 ≤ U 13 j by omega) (show U 13 j < 16 by omega) ?_
                refine r_iinc (lv1 := [_, _, _, _, _, _, _, _, _]) F dX5_go_175 rfl (by decide) rfl rfl ?_
                refine r_iinc (lv1 := [_, _, _, _, _, _, _, _, _]) F dX5_go_178 rfl (by decide) rfl rfl ?_
                refine r_goto (tgt := 112) F dX5_go_181 (by decide) ?_
                refine V.cast (congrArg (setc M 2) (show _ = unlK S1 j (k + 1) from unlK_step g3)) ?_
                rw [Int.add_assoc]
                exact ih9 (k + 1) _ (by omega) (by omega) (by omega) rfl
      have hS9 : S1 18 j = 0 → S1 13 j ≠ S1 15 j → ∀ X : St, X = (if S1 17 j = 1 then readS S1 j else S1) → ∀ (n9 : Nat) (k : Int) (U : St), 0 ≤ k → k + (n9 : Int) = 2 → (0 < k → 0 ≤ X 15 j) → U = sailK X j k → V p l e (RM 3) s m ([.ref (ad 13 2 0)] : List Value).toArray below meth c 9 cy D ad (Aw ad s.heap.size) 0 0 (MQ below (Qn cy D ad s.heap.size (some (.int (i32 (goM S)))) (setc M 2 (go S))) ([.ref (ad 13 2 0)] : List Value).toArray s 0 0 (Aw ad s.heap.size)) 253 [some (.ref (ad 13 2 0)), some (.int (i32 s1)), some (.ref (ad 20 2 0)), some (.int (i32 (S 20 3))), some (.int (i32 j)), some (.ref (ad 23 2 j)), none, some (.int (i32 k)), none] [] (setc M 2 U) := by
        intro w1 w2 X hX
        have hIX : Inv X := by rw [hX]; split; exact readS_inv hI1 j; exact hI1
        have x13 := hIX.p13 j
        have x15 := hIX.p15 j
        have eb : boatS S1 j = mvS X j := by unfold boatS; rw [if_neg (by omega), if_neg (Ne.symm w2), hX]; rfl
        have et : there S1 j = false := by unfold there; rw [decide_eq_false (Ne.symm w2), Bool.and_false]
        intro n9
        induction n9 with
        | zero =>
          intro k U g0 g1 g2 g3
          have u13 : U 13 j = X 13 j + max (-k) (min k (X 15 j - X 13 j)) := by rw [g3]; exact sailK_13 _ _ _
          have u15 : U 15 j = X 15 j := by rw [g3]; rfl
          refine r_iload F dX5_go_253 rfl ?_
          refine r_iconst F dX5_go_255 ?_
          refine r_icmp_ge (tgt := 306) F dX5_go_256 (by decide) (by first | assumption | exact ir_of (by omega) (by omega)) (by first | assumption | exact ir_of (by omega) (by omega)) (fun h256 => ?_) (fun h256 => ?_)
          · refine V.kill (lv1 := [_, _, _, _, _, _, _, _, _]) 5 rfl ?_
            refine V.kill (lv1 := [_, _, _, _, _, _, _, _, _]) 7 rfl ?_
            refine hN _ _ (by rw [eb]; exact sailK_mv g3 (by omega)) (by rw [et]; exact (Int.add_zero _).symm)
          · exfalso; omega
        | succ n9 ih9 =>
          intro k U g0 g1 g2 g3
          have u13 : U 13 j = X 13 j + max (-k) (min k (X 15 j - X 13 j)) := by rw [g3]; exact sailK_13 _ _ _
          have u15 : U 15 j = X 15 j := by rw [g3]; rfl
          refine r_iload F dX5_go_253 rfl ?_
          refine r_iconst F dX5_go_255 ?_
          refine r_icmp_ge (tgt := 306) F dX5_go_256 (by decide) (by first | assumption | exact ir_of (by omega) (by omega)) (by first | assumption | exact ir_of (by omega) (by omega)) (fun h256 => ?_) (fun h256 => ?_)
          · exfalso; omega
          · refine r_aload F dX5_go_259 rfl ?_
            refine r_iconst F dX5_go_261 ?_
            refine ia_23_2 F dX5_go_262 hs (by omega) (by omega) (by omega) ?_
            refine r_if_lt (tgt := 306) F dX5_go_263 (by decide) (by first | assumption | exact ir_of (by omega) (by omega)) (fun h263 => ?_) (fun h263 => ?_)
            · refine V.kill (lv1 := [_, _, _, _, _, _, _, _, _]) 5 rfl ?_
              refine V.kill (lv1 := [_, _, _, _, _, _, _, _, _]) 7 rfl ?_
              refine hN _ _ (by rw [eb]; exact sailK_mv g3 (by omega)) (by rw [et]; exact (Int.add_zero _).symm)
            · refine r_aload F dX5_go_266 rfl ?_
              refine r_iconst F dX5_go_268 ?_
              refine ia_23_0 F dX5_go_269 hs (by omega) (by omega) (by omega) ?_
              refine r_aload F dX5_go_270 rfl ?_
              refine r_iconst F dX5_go_272 ?_
              refine ia_23_2 F dX5_go_273 hs (by omega) (by omega) (by omega) ?_
              refine r_icmp_eq (tgt := 306) F dX5_go_274 (by decide) (by first | assumption | exact ir_of (by omega) (by omega)) (by first | assumption | exact ir_of (by omega) (by omega)) (fun h274 => ?_) (fun h274 => ?_)
              · refine V.kill (lv1 := [_, _, _, _, _, _, _, _, _]) 5 rfl ?_
                refine V.kill (lv1 := [_, _, _, _, _, _, _, _, _]) 7 rfl ?_
                refine hN _ _ (by rw [eb]; exact sailK_mv g3 (by omega)) (by rw [et]; exact (Int.add_zero _).symm)
              · refine r_aload F dX5_go_277 rfl ?_
                refine r_iconst F dX5_go_279 ?_
                refine r_dup2 F dX5_go_280 rfl rfl ?_
                refine ia_23_0 F dX5_go_281 hs (by omega) (by omega) (by omega) ?_
                refine r_aload F dX5_go_282 rfl ?_
                refine r_iconst F dX5_go_284 ?_
                refine ia_23_0 F dX5_go_285 hs (by omega) (by omega) (by omega) ?_
                refine r_aload F dX5_go_286 rfl ?_
                refine r_iconst F dX5_go_288 ?_
                refine ia_23_2 F dX5_go_289 hs (by omega) (by omega) (by omega) ?_
                refine r_icmp_ge (tgt := 297) F dX5_go_290 (by decide) (by first | assumption | exact ir_of (by omega) (by omega)) (by first | assumption | exact ir_of (by omega) (by omega)) (fun h290 => ?_) (fun h290 => ?_)
                · refine r_iconst F dX5_go_297 ?_
                  refine r_iadd F dX5_go_298 ?_
                  refine is_23_0 F dX5_go_299 hs (by omega) (by omega) (by omega) ?_
                  refine r_iinc (lv1 := [_, _, _, _, _, _, _, _, _]) F dX5_go_300 rfl (by decide) rfl rfl ?_
                  refine r_goto (tgt := 253) F dX5_go_303 (by decide) ?_
                  exact ih9 (k + 1) _ (by omega) (by omega) (fun _ => by omega) (sailK_step g3 (by omega))
                · refine r_iconst F dX5_go_293 ?_
                  refine r_goto (tgt := 298) F dX5_go_294 (by decide) ?_
                  refine r_iadd F dX5_go_298 ?_
                  refine is_23_0 F dX5_go_299 hs (by omega) (by omega) (by omega) ?_
                  refine r_iinc (lv1 := [_, _, _, _, _, _, _, _, _]) F dX5_go_300 rfl (by decide) rfl rfl ?_
                  refine r_goto (tgt := 253) F dX5_go_303 (by decide) ?_
                  exact ih9 (k + 1) _ (by omega) (by omega) (fun _ => by omega) (sailK_step g3 (by omega))
      refine r_iload F dX5_go_76 rfl ?_
      refine r_iload_n (i := 3) F dX5_go_78 rfl rfl ?_
      refine r_icmp_ge (tgt := 312) F dX5_go_79 (by decide) (by first | assumption | exact ir_of (by omega) (by omega)) (by first | assumption | exact ir_of (by omega) (by omega)) (fun h79 => ?_) (fun h79 => ?_)
      · exfalso; omega
      · refine r_aload_n (i := 2) F dX5_go_82 rfl rfl ?_
        refine r_iload F dX5_go_83 rfl ?_
        refine aa_20 F dX5_go_85 hs (by omega) (by omega) (by omega) ?_
        refine r_astore (lv1 := [_, _, _, _, _, _, _, _, _]) F dX5_go_86 (by decide) rfl rfl ?_
        refine r_aload F dX5_go_88 rfl ?_
        refine r_iconst F dX5_go_90 ?_
        refine ia_23_3 F dX5_go_91 hs (by omega) (by omega) (by omega) ?_
        refine r_if_eq (tgt := 98) F dX5_go_92 (by decide) (by first | assumption | exact ir_of (by omega) (by omega)) (fun h92 => ?_) (fun h92 => ?_)
        · refine r_aload F dX5_go_98 rfl ?_
          refine r_iconst F dX5_go_100 ?_
          refine ia_23_0 F dX5_go_101 hs (by omega) (by omega) (by omega) ?_
          refine r_aload F dX5_go_102 rfl ?_
          refine r_iconst F dX5_go_104 ?_
          refine ia_23_2 F dX5_go_105 hs (by omega) (by omega) (by omega) ?_
          refine r_icmp_ne (tgt := 199) F dX5_go_106 (by decide) (by first | assumption | exact ir_of (by omega) (by omega)) (by first | assumption | exact ir_of (by omega) (by omega)) (fun h106 => ?_) (fun h106 => ?_)
          · refine r_aload F dX5_go_199 rfl ?_
            refine r_bipush F dX5_go_201 (by decide) ?_
            refine ia_23_6 F dX5_go_203 hs (by omega) (by omega) (by omega) ?_
            refine r_iconst F dX5_go_204 ?_
            refine r_icmp_ne (tgt := 217) F dX5_go_205 (by decide) (by first | assumption | exact ir_of (by omega) (by omega)) (by first | assumption | exact ir_of (by omega) (by omega)) (fun h205 => ?_) (fun h205 => ?_)
            · refine r_iconst F dX5_go_217 ?_
              refine r_istore (lv1 := [_, _, _, _, _, _, _, _, _]) F dX5_go_218 (by decide) rfl rfl ?_
              have bl := bst_bd (S := S1) (b := j) (S1 20 1).toNat
              have bsx := shw_bd hI1 (bst S1 j (S1 20 1).toNat)
              have b2x := hI1.p2 (shw S1 (bst S1 j (S1 20 1).toNat))
              refine r_iload F dX5_go_220 rfl ?_
              refine r_if_lt (tgt := 250) F dX5_go_222 (by decide) (by first | assumption | exact ir_of (by omega) (by omega)) (fun h222 => ?_) (fun h222 => ?_)
              · refine r_iconst F dX5_go_250 ?_
                refine r_istore (lv1 := [_, _, _, _, _, _, _, _, _]) F dX5_go_251 (by decide) rfl rfl ?_
                refine V.kill (lv1 := [_, _, _, _, _, _, _, _, _]) 6 rfl ?_
                rw [show (0 : Int) = 0 from rfl]
                first | exact hS9 (by omega) (by omega) S1 (by rw [if_neg (by omega)]) 2 0 _ (by decide) (by decide) (fun z => by omega) (sailK_0 _ _).symm | exact hS9 (by omega) (by omega) S1 (by rw [if_pos (by omega)]; unfold readS; rw [if_pos (by omega)]) 2 0 _ (by decide) (by decide) (fun z => by omega) (sailK_0 _ _).symm | (refine V.cast (congrArg (setc M 2) (show _ = readS S1 j from read_ord rfl (by omega))) ?_; exact hS9 (by omega) (by omega) _ (by rw [if_pos (by omega)]) 2 0 _ (by decide) (by decide) (fun z => by omega) (sailK_0 _ _).symm)
              · exfalso; omega
            · refine r_aload_n (i := 0) F dX5_go_208 rfl rfl ?_
              refine r_aload F dX5_go_209 rfl ?_
              refine r_callV F (C_X5_leads hsh1 (by omega) hI1 ⟨by omega, by omega⟩) dX5_go_211 lkv_X5_77 rfl rfl (dm13 hs) rfl rfl cd_X5_leads (by decide) ⟨Nat.le_refl _, Nat.le_refl _⟩ (Nat.le_of_ble_eq_true rfl) ?_
              refine r_goto (tgt := 218) F dX5_go_214 (by decide) ?_
              refine r_istore (lv1 := [_, _, _, _, _, _, _, _, _]) F dX5_go_218 (by decide) rfl rfl ?_
              have bl := bst_bd (S := S1) (b := j) (S1 20 1).toNat
              have bsx := shw_bd hI1 (bst S1 j (S1 20 1).toNat)
              have b2x := hI1.p2 (shw S1 (bst S1 j (S1 20 1).toNat))
              refine r_iload F dX5_go_220 rfl ?_
              refine r_if_lt (tgt := 250) F dX5_go_222 (by decide) (by first | assumption | exact ir_of (by omega) (by omega)) (fun h222 => ?_) (fun h222 => ?_)
              · refine r_iconst F dX5_go_250 ?_
                refine r_istore (lv1 := [_, _, _, _, _, _, _, _, _]) F dX5_go_251 (by decide) rfl rfl ?_
                refine V.kill (lv1 := [_, _, _, _, _, _, _, _, _]) 6 rfl ?_
                rw [show (0 : Int) = 0 from rfl]
                first | exact hS9 (by omega) (by omega) S1 (by rw [if_neg (by omega)]) 2 0 _ (by decide) (by decide) (fun z => by omega) (sailK_0 _ _).symm | exact hS9 (by omega) (by omega) S1 (by rw [if_pos (by omega)]; unfold readS; rw [if_pos (by omega)]) 2 0 _ (by decide) (by decide) (fun z => by omega) (sailK_0 _ _).symm | (refine V.cast (congrArg (setc M 2) (show _ = readS S1 j from read_ord rfl (by omega))) ?_; exact hS9 (by omega) (by omega) _ (by rw [if_pos (by omega)]) 2 0 _ (by decide) (by decide) (fun z => by omega) (sailK_0 _ _).symm)
              · refine r_aload F dX5_go_225 rfl ?_
                refine r_iconst F dX5_go_227 ?_
                refine r_aload_n (i := 0) F dX5_go_228 rfl rfl ?_
                refine gf_X5_16 F dX5_go_229 hs ?_
                refine r_aload_n (i := 0) F dX5_go_232 rfl rfl ?_
                refine r_iload F dX5_go_233 rfl ?_
                refine r_callV F (C_X5_shown (by first | exact hsh1 | exact hsh1.same rfl rfl rfl) (by first | omega | exact ⟨by show 0 ≤ S1 20 0; omega, by show S1 20 0 < 1000000; omega⟩) (by first | exact hI1 | exact inv15 hI1 b2x) ⟨by omega, by show _ < S1 20 1; omega⟩) dX5_go_235 lkv_X5_70 rfl rfl (dm13 hs) rfl rfl cd_X5_shown (by decide) ⟨Nat.le_refl _, Nat.le_refl _⟩ (Nat.le_of_ble_eq_true rfl) ?_
                refine ia_16 F dX5_go_238 hs (by omega) (by omega) ?_
                refine is_23_2 F dX5_go_239 hs (by omega) (by omega) (by omega) ?_
                refine r_aload F dX5_go_240 rfl ?_
                refine r_iconst F dX5_go_242 ?_
                refine r_aload_n (i := 0) F dX5_go_243 rfl rfl ?_
                refine r_iload F dX5_go_244 rfl ?_
                refine r_callV F (C_X5_shown (by first | exact hsh1 | exact hsh1.same rfl rfl rfl) (by first | omega | exact ⟨by show 0 ≤ S1 20 0; omega, by show S1 20 0 < 1000000; omega⟩) (by first | exact hI1 | exact inv15 hI1 b2x) ⟨by omega, by show _ < S1 20 1; omega⟩) dX5_go_246 lkv_X5_70 rfl rfl (dm13 hs) rfl rfl cd_X5_shown (by decide) ⟨Nat.le_refl _, Nat.le_refl _⟩ (Nat.le_of_ble_eq_true rfl) ?_
                refine is_23_5 F dX5_go_249 hs (by omega) (by omega) (by omega) ?_
                refine r_iconst F dX5_go_250 ?_
                refine r_istore (lv1 := [_, _, _, _, _, _, _, _, _]) F dX5_go_251 (by decide) rfl rfl ?_
                refine V.kill (lv1 := [_, _, _, _, _, _, _, _, _]) 6 rfl ?_
                rw [show (0 : Int) = 0 from rfl]
                first | exact hS9 (by omega) (by omega) S1 (by rw [if_neg (by omega)]) 2 0 _ (by decide) (by decide) (fun z => by omega) (sailK_0 _ _).symm | exact hS9 (by omega) (by omega) S1 (by rw [if_pos (by omega)]; unfold readS; rw [if_pos (by omega)]) 2 0 _ (by decide) (by decide) (fun z => by omega) (sailK_0 _ _).symm | (refine V.cast (congrArg (setc M 2) (show _ = readS S1 j from read_ord rfl (by omega))) ?_; exact hS9 (by omega) (by omega) _ (by rw [if_pos (by omega)]) 2 0 _ (by decide) (by decide) (fun z => by omega) (sailK_0 _ _).symm)
          · refine r_iconst F dX5_go_109 ?_
            refine r_istore (lv1 := [_, _, _, _, _, _, _, _, _]) F dX5_go_110 (by decide) rfl rfl ?_
            have t := hU (by omega) (by omega) 4 0 S1 (by decide) (by decide) (by omega) (unlK_0 _ _).symm
            rw [Int.add_zero] at t
            exact t
        · refine r_goto (tgt := 306) F dX5_go_95 (by decide) ?_
          refine V.kill (lv1 := [_, _, _, _, _, _, _, _, _]) 5 rfl ?_
          refine hN _ _ (by unfold boatS; rw [if_pos (by omega)]) (by rw [show there S1 j = false from by unfold there; rw [decide_eq_false (by omega)]; rfl]; exact (Int.add_zero _).symm)
  have hA : ∀ (n : Nat) (j : Int) (S1 : St), 0 ≤ j → j + (n : Int) = S 20 1 → S1 = noteN S j.toNat → V p l e (RM 3) s m ([.ref (ad 13 2 0)] : List Value).toArray below meth c 9 cy D ad (Aw ad s.heap.size) 0 0 (MQ below (Qn cy D ad s.heap.size (some (.int (i32 (goM S)))) (setc M 2 (go S))) ([.ref (ad 13 2 0)] : List Value).toArray s 0 0 (Aw ad s.heap.size)) 4 [some (.ref (ad 13 2 0)), some (.int (i32 0)), some (.int (i32 j)), none, none, none, none, none, none] [] (setc M 2 S1) := by
    intro n
    induction n with
    | zero =>
      intro j S1 h0 h1 hS
      have e1 : S1 = go1 S := by rw [hS, show j = S 20 1 by omega] <;> rfl
      refine r_iload_n (i := 2) F dX5_go_4 rfl rfl ?_
      refine r_aload_n (i := 0) F dX5_go_5 rfl rfl ?_
      refine gf_X5_23 F dX5_go_6 hs ?_
      refine al_18 F dX5_go_9 hs hn1 ?_
      refine r_icmp_ge (tgt := 65) F dX5_go_10 (by decide) (by first | assumption | exact ir_of (by omega) (by omega)) (by first | assumption | exact ir_of (by omega) (by omega)) (fun h10 => ?_) (fun h10 => ?_)
      · refine r_aload_n (i := 0) F dX5_go_65 rfl rfl ?_
        refine gf_X5_30 F dX5_go_66 hs ?_
        refine r_astore_n (i := 2) (lv1 := [_, _, _, _, _, _, _, _, _]) F dX5_go_69 rfl (by decide) rfl rfl ?_
        refine r_aload_n (i := 2) F dX5_go_70 rfl rfl ?_
        refine al_20 F dX5_go_71 hs hn3 ?_
        refine r_istore_n (i := 3) (lv1 := [_, _, _, _, _, _, _, _, _]) F dX5_go_72 rfl (by decide) rfl rfl ?_
        refine r_iconst F dX5_go_73 ?_
        refine r_istore (lv1 := [_, _, _, _, _, _, _, _, _]) F dX5_go_74 (by decide) rfl rfl ?_
        exact hB (S 20 3).toNat 0 S1 0 (by decide) (by omega) e1 rfl
      · exfalso; omega
    | succ n ih =>
      intro j S1 h0 h1 hS
      have hI1 : Inv S1 := by rw [hS]; exact noteN_inv hI _
      have e20 : ∀ i, S1 20 i = S 20 i := fun i => by rw [hS]; exact noteN_k (by decide) (by decide) _
      have e200 := e20 0
      have e201 := e20 1
      have e202 := e20 2
      have e203 := e20 3
      have hsh1 : Sh ad S1 := hsh9.same e201 e202 e203
      have bs := shw_bd hI1 j
      have cb := cnt_bd (seesL S1 j) (S1 20 2).toNat
      have ewl : wL S1 j = cnt (seesL S1 j) (S1 20 2).toNat := rfl
      refine r_iload_n (i := 2) F dX5_go_4 rfl rfl ?_
      refine r_aload_n (i := 0) F dX5_go_5 rfl rfl ?_
      refine gf_X5_23 F dX5_go_6 hs ?_
      refine al_18 F dX5_go_9 hs hn1 ?_
      refine r_icmp_ge (tgt := 65) F dX5_go_10 (by decide) (by first | assumption | exact ir_of (by omega) (by omega)) (by first | assumption | exact ir_of (by omega) (by omega)) (fun h10 => ?_) (fun h10 => ?_)
      · exfalso; omega
      · refine r_aload_n (i := 0) F dX5_go_13 rfl rfl ?_
        refine r_iload_n (i := 2) F dX5_go_14 rfl rfl ?_
        refine r_callV F (C_X5_shown hsh1 (by omega) hI1 ⟨by omega, by omega⟩) dX5_go_15 lkv_X5_70 rfl rfl (dm13 hs) rfl rfl cd_X5_shown (by decide) ⟨Nat.le_refl _, Nat.le_refl _⟩ (Nat.le_of_ble_eq_true rfl) ?_
        refine r_if_eq (tgt := 59) F dX5_go_18 (by decide) (by first | assumption | exact ir_of (by omega) (by omega)) (fun h18 => ?_) (fun h18 => ?_)
        · refine r_iinc (lv1 := [_, _, _, _, _, _, _, _, _]) F dX5_go_59 rfl (by decide) rfl rfl ?_
          refine r_goto (tgt := 4) F dX5_go_62 (by decide) ?_
          exact ih (j + 1) _ (by omega) (by omega) (by rw [noteN_S _ h0, ← hS]; unfold noteS; first | (rw [if_pos (Or.inl h18)]; done) | (rw [if_pos (Or.inr (by omega))]; done) | (rw [if_neg (fun h => h.elim h18 (fun z => by omega))] <;> rfl))
        · refine r_aload_n (i := 0) F dX5_go_21 rfl rfl ?_
          refine r_iload_n (i := 2) F dX5_go_22 rfl rfl ?_
          refine r_callV F (C_X5_lightWatchers hsh1 (by omega) hI1 ⟨by omega, by omega⟩) dX5_go_23 lkv_X5_74 rfl rfl (dm13 hs) rfl rfl cd_X5_lightWatchers (by decide) ⟨Nat.le_refl _, Nat.le_refl _⟩ (Nat.le_of_ble_eq_true rfl) ?_
          refine r_if_ne (tgt := 32) F dX5_go_26 (by decide) (by first | assumption | exact ir_of (by omega) (by omega)) (fun h26 => ?_) (fun h26 => ?_)
          · refine r_aload_n (i := 0) F dX5_go_32 rfl rfl ?_
            refine gf_X5_19 F dX5_go_33 hs ?_
            refine r_aload_n (i := 0) F dX5_go_36 rfl rfl ?_
            refine r_iload_n (i := 2) F dX5_go_37 rfl rfl ?_
            refine r_callV F (C_X5_shown hsh1 (by omega) hI1 ⟨by omega, by omega⟩) dX5_go_38 lkv_X5_70 rfl rfl (dm13 hs) rfl rfl cd_X5_shown (by decide) ⟨Nat.le_refl _, Nat.le_refl _⟩ (Nat.le_of_ble_eq_true rfl) ?_
            refine r_dup2 F dX5_go_41 rfl rfl ?_
            refine ia_17 F dX5_go_42 hs (by omega) (by omega) ?_
            refine r_iconst F dX5_go_43 ?_
            refine r_iadd F dX5_go_44 ?_
            refine is_17 F dX5_go_45 hs (by omega) (by omega) ?_
            refine r_aload_n (i := 0) F dX5_go_46 rfl rfl ?_
            refine gf_X5_23 F dX5_go_47 hs ?_
            refine r_iload_n (i := 2) F dX5_go_50 rfl rfl ?_
            refine aa_18 F dX5_go_51 hs (by omega) (by omega) (by omega) ?_
            refine r_bipush F dX5_go_52 (by decide) ?_
            refine r_dup2 F dX5_go_54 rfl rfl ?_
            refine ia_21_11 F dX5_go_55 hs (by omega) (by omega) (by omega) ?_
            refine r_iconst F dX5_go_56 ?_
            refine r_iadd F dX5_go_57 ?_
            refine is_21_11 F dX5_go_58 hs (by omega) (by omega) (by omega) ?_
            refine r_iinc (lv1 := [_, _, _, _, _, _, _, _, _]) F dX5_go_59 rfl (by decide) rfl rfl ?_
            refine r_goto (tgt := 4) F dX5_go_62 (by decide) ?_
            exact ih (j + 1) _ (by omega) (by omega) (by rw [noteN_S _ h0, ← hS]; unfold noteS; first | (rw [if_pos (Or.inl h18)]; done) | (rw [if_pos (Or.inr (by omega))]; done) | (rw [if_neg (fun h => h.elim h18 (fun z => by omega))] <;> rfl))
          · refine r_goto (tgt := 59) F dX5_go_29 (by decide) ?_
            refine r_iinc (lv1 := [_, _, _, _, _, _, _, _, _]) F dX5_go_59 rfl (by decide) rfl rfl ?_
            refine r_goto (tgt := 4) F dX5_go_62 (by decide) ?_
            exact ih (j + 1) _ (by omega) (by omega) (by rw [noteN_S _ h0, ← hS]; unfold noteS; first | (rw [if_pos (Or.inl h18)]; done) | (rw [if_pos (Or.inr (by omega))]; done) | (rw [if_neg (fun h => h.elim h18 (fun z => by omega))] <;> rfl))
  refine r_iconst F dX5_go_0 ?_
  refine r_istore_n (i := 1) (lv1 := [_, _, _, _, _, _, _, _, _]) F dX5_go_1 rfl (by decide) rfl rfl ?_
  refine r_iconst F dX5_go_2 ?_
  refine r_istore_n (i := 2) (lv1 := [_, _, _, _, _, _, _, _, _]) F dX5_go_3 rfl (by decide) rfl rfl ?_
  exact hA (S 20 1).toNat 0 S (by decide) (by omega) rfl
