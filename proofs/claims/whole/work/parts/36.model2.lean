/-! The reference: what would be, means, the sum. -/
set_option maxHeartbeats 4000000 in
set_option maxRecDepth 100000 in
theorem C_X6_advise {l : Launch} {cy : Nat → ClassId} {D : va_G} {ad : Nat → Nat → Int → Nat} {M : Mem} {S : St} {x : Int} (hI : Inv S) (hh : 0 ≤ S 20 0 ∧ S 20 0 < 900000) (hx9 : ir x) : Ct l cy D ad yX6_advise cX6_advise 5 (some .int) 8 [.ref (ad 13 0 0), .int (i32 x)] (setc M 2 S) (some (.int (i32 (if cAdvise S x = 0 then (adv S x 16).1 else 0)))) (if cAdvise S x = 0 then setc (setc (thr M 0) 2 S) 3 (goN (sendS S x 15) 40) else setc (thr M (cAdvise S x)) 2 S) := by
  refine Ct.mk (lv := [some _, some _, none, none, none]) 3 (by decide) rfl (Nat.le_of_ble_eq_true rfl) (fun p e s m below meth c F => ?_)
  have ic := hI.pc
  have b18 := hI.p18 x
  have vb : ∀ q : Int, 0 ≤ q → q ≤ 15 → 0 ≤ advV S x q ∧ advV S x q ≤ 480 := fun q h1 h2 => by
    have := sm_bd (f := goN (sendS S x q) 40 1) (B := 30) (fun i => by have := (goN_inv (sendS_inv hI (b := x) (q := q) (by omega)) 40).p01 i; omega) 16
    unfold advV caves
    omega
  have advb : ∀ n : Nat, (n : Int) ≤ 16 → -1 ≤ (adv S x n).2 ∧ (adv S x n).2 ≤ 480 := by
    intro n
    induction n with
    | zero => intro _; exact ⟨by show (-1 : Int) ≤ -1; decide, by show (-1 : Int) ≤ 480; decide⟩
    | succ n ih =>
      intro hn
      have v := vb n (by omega) (by omega)
      unfold adv
      split
      · dsimp only; omega
      · exact ih (by omega)
  have loop : (0 ≤ x ∧ x ≤ S 20 3 - 1) → S 18 x = 0 → ∀ (n : Nat) (j : Int) (X : St), 0 ≤ j → j + (n : Int) = 16 → (j = 16 → X = goN (sendS S x 15) 40) → V p l e (RM 8) s m ([.ref (ad 13 0 0), .int (i32 x)] : List Value).toArray below meth c 5 cy D ad (Aw ad s.heap.size) 0 0 (MQ below (Qn cy D ad s.heap.size (some (.int (i32 (if cAdvise S x = 0 then (adv S x 16).1 else 0)))) (if cAdvise S x = 0 then setc (setc (thr M 0) 2 S) 3 (goN (sendS S x 15) 40) else setc (thr M (cAdvise S x)) 2 S)) ([.ref (ad 13 0 0), .int (i32 x)] : List Value).toArray s 0 0 (Aw ad s.heap.size)) 44 [some (.ref (ad 13 0 0)), some (.int (i32 x)), some (.int (i32 (adv S x j.toNat).1)), some (.int (i32 (adv S x j.toNat).2)), some (.int (i32 j))] [] (setc (setc (thr M 0) 2 S) 3 X) := by
    intro hx hs n
    induction n with
    | zero =>
      intro j X h0 h1 hX
      refine r_iload F dX6_advise_44 rfl ?_
      refine r_bipush F dX6_advise_46 (by decide) ?_
      refine r_icmp_ge (tgt := 113) F dX6_advise_48 (by decide) (by first | assumption | exact ir_of (by omega) (by omega)) (by first | assumption | exact ir_of (by omega) (by omega)) (fun h48 => ?_) (fun h48 => ?_)
      · refine r_iload_n (i := 2) F dX6_advise_113 rfl rfl ?_
        have e9 : cAdvise S x = 0 := by unfold cAdvise; (repeat' split) <;> omega
        exact r_iret F dX6_advise_114 rfl (by rw [e9, if_pos rfl, show j = 16 by omega] <;> rfl) (by rw [e9, if_pos rfl, hX (by omega)])
      · exfalso; omega
    | succ n ih =>
      intro j X h0 h1 hX
      have ab := advb j.toNat (by omega)
      have vj := vb j (by omega) (by omega)
      refine r_iload F dX6_advise_44 rfl ?_
      refine r_bipush F dX6_advise_46 (by decide) ?_
      refine r_icmp_ge (tgt := 113) F dX6_advise_48 (by decide) (ir_of (by omega) (by omega)) (ir_of (by omega) (by omega)) (fun h48 => ?_) (fun h48 => ?_)
      · exfalso; omega
      · refine r_aload_n (i := 0) F dX6_advise_51 rfl rfl ?_
        refine gf_X6_16 F dX6_advise_52 ?_
        refine r_aload_n (i := 0) F dX6_advise_55 rfl rfl ?_
        refine gf_X6_10 F dX6_advise_56 ?_
        refine r_callV F (C_X5_become (k := 3) (k2 := 2) (by decide) (by decide) (by decide)) dX6_advise_59 lkv_X6_178 rfl rfl (dm14 ⟨by decide, by decide⟩) rfl rfl cd_X5_become (by decide) ⟨Nat.le_refl _, Nat.le_refl _⟩ (Nat.le_of_ble_eq_true rfl) ?_
        rw [show (setc (thr M 0) 2 S) 2 = S from setc_at _ _ _]
        refine r_aload_n (i := 0) F dX6_advise_62 rfl rfl ?_
        refine gf_X6_16 F dX6_advise_63 ?_
        refine r_iload_n (i := 1) F dX6_advise_66 rfl rfl ?_
        refine r_iload F dX6_advise_67 rfl ?_
        refine r_callV F (C_X5_send (k := 3) (by decide) ⟨by omega, by omega⟩ ⟨by omega, by omega⟩) dX6_advise_69 lkv_X6_90 rfl rfl (dm14 ⟨by decide, by decide⟩) rfl rfl cd_X5_send (by decide) ⟨Nat.le_refl _, Nat.le_refl _⟩ (Nat.le_of_ble_eq_true rfl) ?_
        refine r_aload_n (i := 0) F dX6_advise_72 rfl rfl ?_
        refine gf_X6_16 F dX6_advise_73 ?_
        refine r_bipush F dX6_advise_76 (by decide) ?_
        refine r_callS F (C_X6_goOn (k := 3) (by decide) (sendS_inv hI ⟨by omega, by omega⟩) hh (by decide)) dX6_advise_78 lks_X6_174 rfl rfl cd_X6_goOn (by decide) ⟨Nat.le_refl _, Nat.le_refl _⟩ (Nat.le_of_ble_eq_true rfl) ?_
        refine r_pop F dX6_advise_81 rfl ?_
        refine r_aload_n (i := 0) F dX6_advise_82 rfl rfl ?_
        refine gf_X6_16 F dX6_advise_83 ?_
        refine r_callV F (C_X5_caves (k := 3) (by decide)) dX6_advise_86 lkv_X6_182 rfl rfl (dm14 ⟨by decide, by decide⟩) rfl rfl cd_X5_caves (by decide) ⟨Nat.le_refl _, Nat.le_refl _⟩ (Nat.le_of_ble_eq_true rfl) ?_
        refine r_iload_n (i := 3) F dX6_advise_89 rfl rfl ?_
        refine r_icmp_gt (tgt := 96) F dX6_advise_90 (by decide) (ir_of (by show -2147483648 ≤ advV S x j; omega) (by show advV S x j < 2147483648; omega)) (ir_of (by omega) (by omega)) (fun h90 => ?_) (fun h90 => ?_)
        · refine r_iload F dX6_advise_96 rfl ?_
          refine r_istore_n (i := 2) (lv1 := [_, _, _, _, _]) F dX6_advise_98 rfl (by decide) rfl rfl ?_
          refine r_aload_n (i := 0) F dX6_advise_99 rfl rfl ?_
          refine gf_X6_16 F dX6_advise_100 ?_
          refine r_callV F (C_X5_caves (k := 3) (by decide)) dX6_advise_103 lkv_X6_182 rfl rfl (dm14 ⟨by decide, by decide⟩) rfl rfl cd_X5_caves (by decide) ⟨Nat.le_refl _, Nat.le_refl _⟩ (Nat.le_of_ble_eq_true rfl) ?_
          refine r_istore_n (i := 3) (lv1 := [_, _, _, _, _]) F dX6_advise_106 rfl (by decide) rfl rfl ?_
          refine r_iinc (lv1 := [_, _, _, _, _]) F dX6_advise_107 rfl (by decide) rfl rfl ?_
          refine r_goto (tgt := 44) F dX6_advise_110 (by decide) ?_
          have t := ih (j + 1) (goN (sendS S x j) 40) (by omega) (by omega) (fun e => by rw [show j = 15 by omega])
          rw [adv_S S x h0] at t
          first | (rw [if_pos (show (adv S x j.toNat).2 < advV S x j from h90)] at t; exact t) | (rw [if_neg (show ¬ (adv S x j.toNat).2 < advV S x j from Int.not_lt.mpr h90)] at t; exact t)
        · refine r_goto (tgt := 107) F dX6_advise_93 (by decide) ?_
          refine r_iinc (lv1 := [_, _, _, _, _]) F dX6_advise_107 rfl (by decide) rfl rfl ?_
          refine r_goto (tgt := 44) F dX6_advise_110 (by decide) ?_
          have t := ih (j + 1) (goN (sendS S x j) 40) (by omega) (by omega) (fun e => by rw [show j = 15 by omega])
          rw [adv_S S x h0] at t
          first | (rw [if_pos (show (adv S x j.toNat).2 < advV S x j from h90)] at t; exact t) | (rw [if_neg (show ¬ (adv S x j.toNat).2 < advV S x j from Int.not_lt.mpr h90)] at t; exact t)
  refine r_aload_n (i := 0) F dX6_advise_0 rfl rfl ?_
  refine r_iconst F dX6_advise_1 ?_
  refine pfT F dX6_advise_2 ?_
  refine r_aload_n (i := 0) F dX6_advise_5 rfl rfl ?_
  refine r_iload_n (i := 1) F dX6_advise_6 rfl rfl ?_
  refine r_callV F (C_X6_isBoat (by assumption) hI) dX6_advise_7 lkv_X6_94 rfl rfl rfl rfl rfl cd_X6_isBoat (by decide) ⟨Nat.le_refl _, Nat.le_refl _⟩ (Nat.le_of_ble_eq_true rfl) ?_
  refine r_iz_ne (tgt := 19) F dX6_advise_10 (by decide) (fun h10 => ?_) (fun h10 => ?_)
  · refine r_aload_n (i := 0) F dX6_advise_19 rfl rfl ?_
    refine gf_X6_10 F dX6_advise_20 ?_
    refine gf_X6_97 F dX6_advise_23 ⟨by decide, by decide⟩ ?_
    refine r_iload_n (i := 1) F dX6_advise_26 rfl rfl ?_
    refine ia_33 F dX6_advise_27 ⟨by decide, by decide⟩ (by omega) (by omega) ?_
    refine r_if_eq (tgt := 37) F dX6_advise_28 (by decide) (by first | assumption | exact ir_of (by omega) (by omega)) (fun h28 => ?_) (fun h28 => ?_)
    · refine r_iconst F dX6_advise_37 ?_
      refine r_istore_n (i := 2) (lv1 := [_, _, _, _, _]) F dX6_advise_38 rfl (by decide) rfl rfl ?_
      refine r_iconst F dX6_advise_39 ?_
      refine r_istore_n (i := 3) (lv1 := [_, _, _, _, _]) F dX6_advise_40 rfl (by decide) rfl rfl ?_
      refine r_iconst F dX6_advise_41 ?_
      refine r_istore (lv1 := [_, _, _, _, _]) F dX6_advise_42 (by decide) rfl rfl ?_
      refine V.cast (setc_self (setc (thr M 0) 2 S) 3).symm ?_
      have t := loop h10 h28 16 0 ((setc (thr M 0) 2 S) 3) (by decide) (by decide) (fun e => absurd e (by decide))
      rw [adv_0] at t
      exact t
    · refine r_aload_n (i := 0) F dX6_advise_31 rfl rfl ?_
      refine r_iconst F dX6_advise_32 ?_
      refine r_callV F C_X6_no dX6_advise_33 lkv_X6_40 rfl rfl rfl rfl rfl cd_X6_no (by decide) ⟨Nat.le_refl _, Nat.le_refl _⟩ (Nat.le_of_ble_eq_true rfl) ?_
      rw [thr_thr]
      have e9 : cAdvise S x = 2 := by unfold cAdvise; (repeat' split) <;> omega
      exact r_iret F dX6_advise_36 rfl (by rw [e9] <;> rfl) (by rw [e9] <;> rfl)
  · refine r_aload_n (i := 0) F dX6_advise_13 rfl rfl ?_
    refine r_iconst F dX6_advise_14 ?_
    refine r_callV F C_X6_no dX6_advise_15 lkv_X6_40 rfl rfl rfl rfl rfl cd_X6_no (by decide) ⟨Nat.le_refl _, Nat.le_refl _⟩ (Nat.le_of_ble_eq_true rfl) ?_
    rw [thr_thr]
    have e9 : cAdvise S x = 1 := by unfold cAdvise; (repeat' split) <;> omega
    exact r_iret F dX6_advise_18 rfl (by rw [e9] <;> rfl) (by rw [e9] <;> rfl)

