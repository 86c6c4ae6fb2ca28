/-! The reference: what would be, means, the sum. -/
set_option maxHeartbeats 4000000 in
set_option maxRecDepth 100000 in
theorem C_X6_until {l : Launch} {cy : Nat → ClassId} {D : va_G} {ad : Nat → Nat → Int → Nat} {M : Mem} {S : St} {x : Int} (hI : Inv S) (hh : 0 ≤ S 20 0 ∧ S 20 0 < 900000) (hx9 : ir x) : Ct l cy D ad yX6_until cX6_until 3 (some .int) 8 [.ref (ad 13 0 0), .int (i32 x)] (setc M 2 S) (some (.int (i32 (if cRng1 x 0 (S 20 3 - 1) = 0 then untR S x else 0)))) (if cRng1 x 0 (S 20 3 - 1) = 0 then setc (setc (thr M 0) 2 S) 3 (goN S (unt S x 120 0)) else setc (thr M 1) 2 S) := by
  refine Ct.mk (lv := [some _, some _, none]) 1 (by decide) rfl (Nat.le_of_ble_eq_true rfl) (fun p e s m below meth c F => ?_)
  have ic := hI.pc
  have loop : (0 ≤ x ∧ x ≤ S 20 3 - 1) → ∀ (n h : Nat), h + n = 120 → unt S x n h = unt S x 120 0 → V p l e (RM 8) s m ([.ref (ad 13 0 0), .int (i32 x)] : List Value).toArray below meth c 3 cy D ad (Aw ad s.heap.size) 0 0 (MQ below (Qn cy D ad s.heap.size (some (.int (i32 (if cRng1 x 0 (S 20 3 - 1) = 0 then untR S x else 0)))) (if cRng1 x 0 (S 20 3 - 1) = 0 then setc (setc (thr M 0) 2 S) 3 (goN S (unt S x 120 0)) else setc (thr M 1) 2 S)) ([.ref (ad 13 0 0), .int (i32 x)] : List Value).toArray s 0 0 (Aw ad s.heap.size)) 32 [some (.ref (ad 13 0 0)), some (.int (i32 x)), some (.int (i32 (h : Int)))] [] (setc (setc (thr M 0) 2 S) 3 (goN S h)) := by
    intro hx n
    induction n with
    | zero =>
      intro h h1 hu
      have hI1 : Inv (goN S h) := goN_inv hI _
      have b18 := hI1.p18 x
      have e0 := goN_hour S h
      refine r_aload_n (i := 0) F dX6_until_32 rfl rfl ?_
      refine gf_X6_16 F dX6_until_33 ?_
      refine gf_X6_97 F dX6_until_36 ⟨by decide, by decide⟩ ?_
      refine r_iload_n (i := 1) F dX6_until_39 rfl rfl ?_
      refine ia_33 F dX6_until_40 ⟨by decide, by decide⟩ (by omega) (by omega) ?_
      refine r_if_ne (tgt := 64) F dX6_until_41 (by decide) (by first | assumption | exact ir_of (by omega) (by omega)) (fun h41 => ?_) (fun h41 => ?_)
      · refine r_aload_n (i := 0) F dX6_until_64 rfl rfl ?_
        refine gf_X6_16 F dX6_until_65 ?_
        refine gf_X6_97 F dX6_until_68 ⟨by decide, by decide⟩ ?_
        refine r_iload_n (i := 1) F dX6_until_71 rfl rfl ?_
        refine ia_33 F dX6_until_72 ⟨by decide, by decide⟩ (by omega) (by omega) ?_
        refine r_iconst F dX6_until_73 ?_
        refine r_icmp_ne (tgt := 81) F dX6_until_74 (by decide) (by first | assumption | exact ir_of (by omega) (by omega)) (by first | assumption | exact ir_of (by omega) (by omega)) (fun h74 => ?_) (fun h74 => ?_)
        · refine r_iconst F dX6_until_81 ?_
          have e9 : cRng1 x 0 (S 20 3 - 1) = 0 := by unfold cRng1; rw [if_neg (by omega)]
          have e8 : unt S x 120 0 = h := by rw [← hu]; unfold unt; first | rfl | (rw [if_neg h41])
          exact r_iret F dX6_until_82 rfl (by rw [e9, if_pos rfl]; unfold untR; rw [e8]; first | (rw [if_pos h74]; done) | (rw [if_neg h74]; done)) (by rw [e9, if_pos rfl, e8])
        · refine r_iload_n (i := 2) F dX6_until_77 rfl rfl ?_
          refine r_goto (tgt := 82) F dX6_until_78 (by decide) ?_
          have e9 : cRng1 x 0 (S 20 3 - 1) = 0 := by unfold cRng1; rw [if_neg (by omega)]
          have e8 : unt S x 120 0 = h := by rw [← hu]; unfold unt; first | rfl | (rw [if_neg h41])
          exact r_iret F dX6_until_82 rfl (by rw [e9, if_pos rfl]; unfold untR; rw [e8]; first | (rw [if_pos h74]; done) | (rw [if_neg h74]; done)) (by rw [e9, if_pos rfl, e8])
      · refine r_iload_n (i := 2) F dX6_until_44 rfl rfl ?_
        refine r_bipush F dX6_until_45 (by decide) ?_
        refine r_icmp_ge (tgt := 64) F dX6_until_47 (by decide) (by first | assumption | exact ir_of (by omega) (by omega)) (by first | assumption | exact ir_of (by omega) (by omega)) (fun h47 => ?_) (fun h47 => ?_)
        · refine r_aload_n (i := 0) F dX6_until_64 rfl rfl ?_
          refine gf_X6_16 F dX6_until_65 ?_
          refine gf_X6_97 F dX6_until_68 ⟨by decide, by decide⟩ ?_
          refine r_iload_n (i := 1) F dX6_until_71 rfl rfl ?_
          refine ia_33 F dX6_until_72 ⟨by decide, by decide⟩ (by omega) (by omega) ?_
          refine r_iconst F dX6_until_73 ?_
          refine r_icmp_ne (tgt := 81) F dX6_until_74 (by decide) (by first | assumption | exact ir_of (by omega) (by omega)) (by first | assumption | exact ir_of (by omega) (by omega)) (fun h74 => ?_) (fun h74 => ?_)
          · refine r_iconst F dX6_until_81 ?_
            have e9 : cRng1 x 0 (S 20 3 - 1) = 0 := by unfold cRng1; rw [if_neg (by omega)]
            have e8 : unt S x 120 0 = h := by rw [← hu]; unfold unt; first | rfl | (rw [if_neg h41])
            exact r_iret F dX6_until_82 rfl (by rw [e9, if_pos rfl]; unfold untR; rw [e8]; first | (rw [if_pos h74]; done) | (rw [if_neg h74]; done)) (by rw [e9, if_pos rfl, e8])
          · refine r_iload_n (i := 2) F dX6_until_77 rfl rfl ?_
            refine r_goto (tgt := 82) F dX6_until_78 (by decide) ?_
            have e9 : cRng1 x 0 (S 20 3 - 1) = 0 := by unfold cRng1; rw [if_neg (by omega)]
            have e8 : unt S x 120 0 = h := by rw [← hu]; unfold unt; first | rfl | (rw [if_neg h41])
            exact r_iret F dX6_until_82 rfl (by rw [e9, if_pos rfl]; unfold untR; rw [e8]; first | (rw [if_pos h74]; done) | (rw [if_neg h74]; done)) (by rw [e9, if_pos rfl, e8])
        · exfalso; omega
    | succ n ih =>
      intro h h1 hu
      have hI1 : Inv (goN S h) := goN_inv hI _
      have b18 := hI1.p18 x
      have e0 := goN_hour S h
      refine r_aload_n (i := 0) F dX6_until_32 rfl rfl ?_
      refine gf_X6_16 F dX6_until_33 ?_
      refine gf_X6_97 F dX6_until_36 ⟨by decide, by decide⟩ ?_
      refine r_iload_n (i := 1) F dX6_until_39 rfl rfl ?_
      refine ia_33 F dX6_until_40 ⟨by decide, by decide⟩ (by omega) (by omega) ?_
      refine r_if_ne (tgt := 64) F dX6_until_41 (by decide) (by first | assumption | exact ir_of (by omega) (by omega)) (fun h41 => ?_) (fun h41 => ?_)
      · refine r_aload_n (i := 0) F dX6_until_64 rfl rfl ?_
        refine gf_X6_16 F dX6_until_65 ?_
        refine gf_X6_97 F dX6_until_68 ⟨by decide, by decide⟩ ?_
        refine r_iload_n (i := 1) F dX6_until_71 rfl rfl ?_
        refine ia_33 F dX6_until_72 ⟨by decide, by decide⟩ (by omega) (by omega) ?_
        refine r_iconst F dX6_until_73 ?_
        refine r_icmp_ne (tgt := 81) F dX6_until_74 (by decide) (by first | assumption | exact ir_of (by omega) (by omega)) (by first | assumption | exact ir_of (by omega) (by omega)) (fun h74 => ?_) (fun h74 => ?_)
        · refine r_iconst F dX6_until_81 ?_
          have e9 : cRng1 x 0 (S 20 3 - 1) = 0 := by unfold cRng1; rw [if_neg (by omega)]
          have e8 : unt S x 120 0 = h := by rw [← hu]; unfold unt; first | rfl | (rw [if_neg h41])
          exact r_iret F dX6_until_82 rfl (by rw [e9, if_pos rfl]; unfold untR; rw [e8]; first | (rw [if_pos h74]; done) | (rw [if_neg h74]; done)) (by rw [e9, if_pos rfl, e8])
        · refine r_iload_n (i := 2) F dX6_until_77 rfl rfl ?_
          refine r_goto (tgt := 82) F dX6_until_78 (by decide) ?_
          have e9 : cRng1 x 0 (S 20 3 - 1) = 0 := by unfold cRng1; rw [if_neg (by omega)]
          have e8 : unt S x 120 0 = h := by rw [← hu]; unfold unt; first | rfl | (rw [if_neg h41])
          exact r_iret F dX6_until_82 rfl (by rw [e9, if_pos rfl]; unfold untR; rw [e8]; first | (rw [if_pos h74]; done) | (rw [if_neg h74]; done)) (by rw [e9, if_pos rfl, e8])
      · refine r_iload_n (i := 2) F dX6_until_44 rfl rfl ?_
        refine r_bipush F dX6_until_45 (by decide) ?_
        refine r_icmp_ge (tgt := 64) F dX6_until_47 (by decide) (by first | assumption | exact ir_of (by omega) (by omega)) (by first | assumption | exact ir_of (by omega) (by omega)) (fun h47 => ?_) (fun h47 => ?_)
        · exfalso; omega
        · refine r_aload_n (i := 0) F dX6_until_50 rfl rfl ?_
          refine gf_X6_16 F dX6_until_51 ?_
          refine r_callV F (C_X5_go (k := 3) (by decide) hI1 (by omega)) dX6_until_54 lkv_X6_170 rfl rfl (dm14 ⟨by decide, by decide⟩) rfl rfl cd_X5_go (by decide) ⟨Nat.le_refl _, Nat.le_refl _⟩ (Nat.le_of_ble_eq_true rfl) ?_
          refine r_pop F dX6_until_57 rfl ?_
          refine r_iinc (lv1 := [_, _, _]) F dX6_until_58 rfl (by decide) rfl rfl ?_
          refine r_goto (tgt := 32) F dX6_until_61 (by decide) ?_
          exact ih (h + 1) (by omega) (by rw [← hu]; exact (if_pos h41).symm)
  refine r_aload_n (i := 0) F dX6_until_0 rfl rfl ?_
  refine r_iconst F dX6_until_1 ?_
  refine pfT F dX6_until_2 ?_
  refine r_aload_n (i := 0) F dX6_until_5 rfl rfl ?_
  refine r_iload_n (i := 1) F dX6_until_6 rfl rfl ?_
  refine r_callV F (C_X6_isBoat (by assumption) hI) dX6_until_7 lkv_X6_94 rfl rfl rfl rfl rfl cd_X6_isBoat (by decide) ⟨Nat.le_refl _, Nat.le_refl _⟩ (Nat.le_of_ble_eq_true rfl) ?_
  refine r_iz_ne (tgt := 19) F dX6_until_10 (by decide) (fun h10 => ?_) (fun h10 => ?_)
  · refine r_aload_n (i := 0) F dX6_until_19 rfl rfl ?_
    refine gf_X6_16 F dX6_until_20 ?_
    refine r_aload_n (i := 0) F dX6_until_23 rfl rfl ?_
    refine gf_X6_10 F dX6_until_24 ?_
    refine V.cast (setc_self (setc (thr M 0) 2 S) 3).symm ?_
    refine r_callV F (C_X5_become (k := 3) (k2 := 2) (by decide) (by decide) (by decide)) dX6_until_27 lkv_X6_178 rfl rfl (dm14 ⟨by decide, by decide⟩) rfl rfl cd_X5_become (by decide) ⟨Nat.le_refl _, Nat.le_refl _⟩ (Nat.le_of_ble_eq_true rfl) ?_
    rw [show (setc (thr M 0) 2 S) 2 = S from setc_at _ _ _]
    refine r_iconst F dX6_until_30 ?_
    refine r_istore_n (i := 2) (lv1 := [_, _, _]) F dX6_until_31 rfl (by decide) rfl rfl ?_
    exact loop h10 120 0 (by decide) rfl
  · refine r_aload_n (i := 0) F dX6_until_13 rfl rfl ?_
    refine r_iconst F dX6_until_14 ?_
    refine r_callV F C_X6_no dX6_until_15 lkv_X6_40 rfl rfl rfl rfl rfl cd_X6_no (by decide) ⟨Nat.le_refl _, Nat.le_refl _⟩ (Nat.le_of_ble_eq_true rfl) ?_
    rw [thr_thr]
    have e9 : cRng1 x 0 (S 20 3 - 1) = 1 := by unfold cRng1; (repeat' split) <;> omega
    exact r_iret F dX6_until_18 rfl (by rw [e9] <;> rfl) (by rw [e9] <;> rfl)

set_option maxHeartbeats 4000000 in
set_option maxRecDepth 100000 in
theorem C_X6_quiet {l : Launch} {cy : Nat → ClassId} {D : va_G} {ad : Nat → Nat → Int → Nat} {M : Mem} {S : St} {x : Int} (hI : Inv S) (hh : 0 ≤ S 20 0 ∧ S 20 0 < 900000) (hx9 : ir x) : Ct l cy D ad yX6_quiet cX6_quiet 3 (some .int) 8 [.ref (ad 13 0 0), .int (i32 x)] (setc M 2 S) (some (.int (i32 (if cRng1 x 0 15 = 0 then quiR S x else 0)))) (if cRng1 x 0 15 = 0 then setc (setc (thr M 0) 2 S) 3 (if wP (goN S (qui S x 40 0)) x = 0 then goN S (qui S x 40 0) else goN S 41) else setc (thr M 1) 2 S) := by
  refine Ct.mk (lv := [some _, some _, none]) 1 (by decide) rfl (Nat.le_of_ble_eq_true rfl) (fun p e s m below meth c F => ?_)
  have ic := hI.pc
  have loop : (0 ≤ x ∧ x ≤ 15) → ∀ (n h : Nat), h + n = 40 → qui S x n h = qui S x 40 0 → V p l e (RM 8) s m ([.ref (ad 13 0 0), .int (i32 x)] : List Value).toArray below meth c 3 cy D ad (Aw ad s.heap.size) 0 0 (MQ below (Qn cy D ad s.heap.size (some (.int (i32 (if cRng1 x 0 15 = 0 then quiR S x else 0)))) (if cRng1 x 0 15 = 0 then setc (setc (thr M 0) 2 S) 3 (if wP (goN S (qui S x 40 0)) x = 0 then goN S (qui S x 40 0) else goN S 41) else setc (thr M 1) 2 S)) ([.ref (ad 13 0 0), .int (i32 x)] : List Value).toArray s 0 0 (Aw ad s.heap.size)) 31 [some (.ref (ad 13 0 0)), some (.int (i32 x)), some (.int (i32 (h : Int)))] [] (setc (setc (thr M 0) 2 S) 3 (goN S h)) := by
    intro hx n
    induction n with
    | zero =>
      intro h h1 hu
      have hI1 : Inv (goN S h) := goN_inv hI _
      have e0 := goN_hour S h
      have wb := cnt_bd (seesP (goN S h) x) (goN S h 20 2).toNat
      have ic1 := hI1.pc
      have wb2 : 0 ≤ wP (goN S h) x ∧ wP (goN S h) x ≤ 4 := by unfold wP; omega
      refine r_iload_n (i := 2) F dX6_quiet_31 rfl rfl ?_
      refine r_bipush F dX6_quiet_32 (by decide) ?_
      refine r_icmp_gt (tgt := 64) F dX6_quiet_34 (by decide) (by first | assumption | exact ir_of (by omega) (by omega)) (by first | assumption | exact ir_of (by omega) (by omega)) (fun h34 => ?_) (fun h34 => ?_)
      · exfalso; omega
      · refine r_aload_n (i := 0) F dX6_quiet_37 rfl rfl ?_
        refine gf_X6_16 F dX6_quiet_38 ?_
        refine r_iload_n (i := 1) F dX6_quiet_41 rfl rfl ?_
        refine r_callV F (C_X5_watchersOf (k := 3) (by decide) hI1 (by omega) (by omega)) dX6_quiet_42 lkv_X6_158 rfl rfl (dm14 ⟨by decide, by decide⟩) rfl rfl cd_X5_watchersOf (by decide) ⟨Nat.le_refl _, Nat.le_refl _⟩ (Nat.le_of_ble_eq_true rfl) ?_
        refine r_if_ne (tgt := 50) F dX6_quiet_45 (by decide) (by first | assumption | exact ir_of (by omega) (by omega)) (fun h45 => ?_) (fun h45 => ?_)
        · refine r_aload_n (i := 0) F dX6_quiet_50 rfl rfl ?_
          refine gf_X6_16 F dX6_quiet_51 ?_
          refine r_callV F (C_X5_go (k := 3) (by decide) hI1 (by omega)) dX6_quiet_54 lkv_X6_170 rfl rfl (dm14 ⟨by decide, by decide⟩) rfl rfl cd_X5_go (by decide) ⟨Nat.le_refl _, Nat.le_refl _⟩ (Nat.le_of_ble_eq_true rfl) ?_
          refine r_pop F dX6_quiet_57 rfl ?_
          refine r_iinc (lv1 := [_, _, _]) F dX6_quiet_58 rfl (by decide) rfl rfl ?_
          refine r_goto (tgt := 31) F dX6_quiet_61 (by decide) ?_
          refine r_iload_n (i := 2) F dX6_quiet_31 rfl rfl ?_
          refine r_bipush F dX6_quiet_32 (by decide) ?_
          refine r_icmp_gt (tgt := 64) F dX6_quiet_34 (by decide) (by first | assumption | exact ir_of (by omega) (by omega)) (by first | assumption | exact ir_of (by omega) (by omega)) (fun h34b => ?_) (fun h34b => ?_)
          · refine r_iconst F dX6_quiet_64 ?_
            have e8 : qui S x 40 0 = h := by rw [← hu] <;> rfl
            have e9 : cRng1 x 0 15 = 0 := by unfold cRng1; rw [if_neg (by omega)]
            have e7 : h = 40 := by omega
            subst e7
            exact r_iret F dX6_quiet_65 rfl (by rw [e9, if_pos rfl]; unfold quiR; rw [e8, if_neg h45]) (by rw [e9, if_pos rfl, e8, if_neg h45] <;> rfl)
          · exfalso; omega
        · refine r_iload_n (i := 2) F dX6_quiet_48 rfl rfl ?_
          have e9 : cRng1 x 0 15 = 0 := by unfold cRng1; rw [if_neg (by omega)]
          have e8 : qui S x 40 0 = h := by rw [← hu]; unfold qui; first | rfl | (rw [if_pos h45])
          exact r_iret F dX6_quiet_49 rfl (by rw [e9, if_pos rfl]; unfold quiR; rw [e8, if_pos h45]) (by rw [e9, if_pos rfl, e8, if_pos h45])
    | succ n ih =>
      intro h h1 hu
      have hI1 : Inv (goN S h) := goN_inv hI _
      have e0 := goN_hour S h
      have wb := cnt_bd (seesP (goN S h) x) (goN S h 20 2).toNat
      have ic1 := hI1.pc
      have wb2 : 0 ≤ wP (goN S h) x ∧ wP (goN S h) x ≤ 4 := by unfold wP; omega
      refine r_iload_n (i := 2) F dX6_quiet_31 rfl rfl ?_
      refine r_bipush F dX6_quiet_32 (by decide) ?_
      refine r_icmp_gt (tgt := 64) F dX6_quiet_34 (by decide) (by first | assumption | exact ir_of (by omega) (by omega)) (by first | assumption | exact ir_of (by omega) (by omega)) (fun h34 => ?_) (fun h34 => ?_)
      · exfalso; omega
      · refine r_aload_n (i := 0) F dX6_quiet_37 rfl rfl ?_
        refine gf_X6_16 F dX6_quiet_38 ?_
        refine r_iload_n (i := 1) F dX6_quiet_41 rfl rfl ?_
        refine r_callV F (C_X5_watchersOf (k := 3) (by decide) hI1 (by omega) (by omega)) dX6_quiet_42 lkv_X6_158 rfl rfl (dm14 ⟨by decide, by decide⟩) rfl rfl cd_X5_watchersOf (by decide) ⟨Nat.le_refl _, Nat.le_refl _⟩ (Nat.le_of_ble_eq_true rfl) ?_
        refine r_if_ne (tgt := 50) F dX6_quiet_45 (by decide) (by first | assumption | exact ir_of (by omega) (by omega)) (fun h45 => ?_) (fun h45 => ?_)
        · refine r_aload_n (i := 0) F dX6_quiet_50 rfl rfl ?_
          refine gf_X6_16 F dX6_quiet_51 ?_
          refine r_callV F (C_X5_go (k := 3) (by decide) hI1 (by omega)) dX6_quiet_54 lkv_X6_170 rfl rfl (dm14 ⟨by decide, by decide⟩) rfl rfl cd_X5_go (by decide) ⟨Nat.le_refl _, Nat.le_refl _⟩ (Nat.le_of_ble_eq_true rfl) ?_
          refine r_pop F dX6_quiet_57 rfl ?_
          refine r_iinc (lv1 := [_, _, _]) F dX6_quiet_58 rfl (by decide) rfl rfl ?_
          refine r_goto (tgt := 31) F dX6_quiet_61 (by decide) ?_
          exact ih (h + 1) (by omega) (by rw [← hu]; exact (if_neg h45).symm)
        · refine r_iload_n (i := 2) F dX6_quiet_48 rfl rfl ?_
          have e9 : cRng1 x 0 15 = 0 := by unfold cRng1; rw [if_neg (by omega)]
          have e8 : qui S x 40 0 = h := by rw [← hu]; unfold qui; first | rfl | (rw [if_pos h45])
          exact r_iret F dX6_quiet_49 rfl (by rw [e9, if_pos rfl]; unfold quiR; rw [e8, if_pos h45]) (by rw [e9, if_pos rfl, e8, if_pos h45])
  refine r_aload_n (i := 0) F dX6_quiet_0 rfl rfl ?_
  refine r_iconst F dX6_quiet_1 ?_
  refine pfT F dX6_quiet_2 ?_
  refine r_iload_n (i := 1) F dX6_quiet_5 rfl rfl ?_
  refine r_callS F (C_X6_isPlace (by assumption)) dX6_quiet_6 lks_X6_36 rfl rfl cd_X6_isPlace (by decide) ⟨Nat.le_refl _, Nat.le_refl _⟩ (Nat.le_of_ble_eq_true rfl) ?_
  refine r_iz_ne (tgt := 18) F dX6_quiet_9 (by decide) (fun h9 => ?_) (fun h9 => ?_)
  · refine r_aload_n (i := 0) F dX6_quiet_18 rfl rfl ?_
    refine gf_X6_16 F dX6_quiet_19 ?_
    refine r_aload_n (i := 0) F dX6_quiet_22 rfl rfl ?_
    refine gf_X6_10 F dX6_quiet_23 ?_
    refine V.cast (setc_self (setc (thr M 0) 2 S) 3).symm ?_
    refine r_callV F (C_X5_become (k := 3) (k2 := 2) (by decide) (by decide) (by decide)) dX6_quiet_26 lkv_X6_178 rfl rfl (dm14 ⟨by decide, by decide⟩) rfl rfl cd_X5_become (by decide) ⟨Nat.le_refl _, Nat.le_refl _⟩ (Nat.le_of_ble_eq_true rfl) ?_
    rw [show (setc (thr M 0) 2 S) 2 = S from setc_at _ _ _]
    refine r_iconst F dX6_quiet_29 ?_
    refine r_istore_n (i := 2) (lv1 := [_, _, _]) F dX6_quiet_30 rfl (by decide) rfl rfl ?_
    exact loop h9 40 0 (by decide) rfl
  · refine r_aload_n (i := 0) F dX6_quiet_12 rfl rfl ?_
    refine r_iconst F dX6_quiet_13 ?_
    refine r_callV F C_X6_no dX6_quiet_14 lkv_X6_40 rfl rfl rfl rfl rfl cd_X6_no (by decide) ⟨Nat.le_refl _, Nat.le_refl _⟩ (Nat.le_of_ble_eq_true rfl) ?_
    rw [thr_thr]
    have e9 : cRng1 x 0 15 = 1 := by unfold cRng1; (repeat' split) <;> omega
    exact r_iret F dX6_quiet_17 rfl (by rw [e9] <;> rfl) (by rw [e9] <;> rfl)

set_option maxHeartbeats 4000000 in
set_option maxRecDepth 100000 in
theorem C_X6_foresee {l : Launch} {cy : Nat → ClassId} {D : va_G} {ad : Nat → Nat → Int → Nat} {M : Mem} {S : St} {x w : Int} (hI : Inv S) (hh : 0 ≤ S 20 0 ∧ S 20 0 < 900000) (hx9 : ir x) (hw9 : ir w) : Ct l cy D ad yX6_foresee cX6_foresee 3 (some .int) 8 [.ref (ad 13 0 0), .int (i32 x), .int (i32 w)] (setc M 2 S) (some (.int (i32 (if cForesee x w = 0 then counted (goN S x.toNat) w else 0)))) (if cForesee x w = 0 then setc (setc (thr M 0) 2 S) 3 (goN S x.toNat) else setc (thr M (cForesee x w)) 2 S) := by
  refine Ct.mk (lv := [some _, some _, some _]) 0 (by decide) rfl (Nat.le_of_ble_eq_true rfl) (fun p e s m below meth c F => ?_)
  have ic := hI.pc
  refine r_aload_n (i := 0) F dX6_foresee_0 rfl rfl ?_
  refine r_iconst F dX6_foresee_1 ?_
  refine pfT F dX6_foresee_2 ?_
  refine r_iload_n (i := 1) F dX6_foresee_5 rfl rfl ?_
  refine r_iconst F dX6_foresee_6 ?_
  refine r_bipush F dX6_foresee_7 (by decide) ?_
  refine r_callS F (C_X6_isIn (by assumption) (ir_of (by omega) (by omega)) (ir_of (by omega) (by omega))) dX6_foresee_9 lks_X6_23 rfl rfl cd_X6_isIn (by decide) ⟨Nat.le_refl _, Nat.le_refl _⟩ (Nat.le_of_ble_eq_true rfl) ?_
  refine r_iz_ne (tgt := 21) F dX6_foresee_12 (by decide) (fun h12 => ?_) (fun h12 => ?_)
  · refine r_iload_n (i := 2) F dX6_foresee_21 rfl rfl ?_
    refine r_iconst F dX6_foresee_22 ?_
    refine r_bipush F dX6_foresee_23 (by decide) ?_
    refine r_callS F (C_X6_isIn (by assumption) (ir_of (by omega) (by omega)) (ir_of (by omega) (by omega))) dX6_foresee_25 lks_X6_23 rfl rfl cd_X6_isIn (by decide) ⟨Nat.le_refl _, Nat.le_refl _⟩ (Nat.le_of_ble_eq_true rfl) ?_
    refine r_iz_ne (tgt := 37) F dX6_foresee_28 (by decide) (fun h28 => ?_) (fun h28 => ?_)
    · refine r_aload_n (i := 0) F dX6_foresee_37 rfl rfl ?_
      refine gf_X6_16 F dX6_foresee_38 ?_
      refine r_aload_n (i := 0) F dX6_foresee_41 rfl rfl ?_
      refine gf_X6_10 F dX6_foresee_42 ?_
      refine V.cast (setc_self (setc (thr M 0) 2 S) 3).symm ?_
      refine r_callV F (C_X5_become (k := 3) (k2 := 2) (by decide) (by decide) (by decide)) dX6_foresee_45 lkv_X6_178 rfl rfl (dm14 ⟨by decide, by decide⟩) rfl rfl cd_X5_become (by decide) ⟨Nat.le_refl _, Nat.le_refl _⟩ (Nat.le_of_ble_eq_true rfl) ?_
      rw [show (setc (thr M 0) 2 S) 2 = S from setc_at _ _ _]
      refine r_aload_n (i := 0) F dX6_foresee_48 rfl rfl ?_
      refine gf_X6_16 F dX6_foresee_49 ?_
      refine r_iload_n (i := 1) F dX6_foresee_52 rfl rfl ?_
      refine r_callS F (C_X6_goOn (k := 3) (by decide) hI hh ⟨by omega, by omega⟩) dX6_foresee_53 lks_X6_174 rfl rfl cd_X6_goOn (by decide) ⟨Nat.le_refl _, Nat.le_refl _⟩ (Nat.le_of_ble_eq_true rfl) ?_
      refine r_pop F dX6_foresee_56 rfl ?_
      refine r_aload_n (i := 0) F dX6_foresee_57 rfl rfl ?_
      refine gf_X6_16 F dX6_foresee_58 ?_
      refine r_iload_n (i := 2) F dX6_foresee_61 rfl rfl ?_
      refine r_callV F (C_X5_counted (k := 3) (by decide) (goN_inv hI _) ⟨by omega, by omega⟩) dX6_foresee_62 lkv_X6_167 rfl rfl (dm14 ⟨by decide, by decide⟩) rfl rfl cd_X5_counted (by decide) ⟨Nat.le_refl _, Nat.le_refl _⟩ (Nat.le_of_ble_eq_true rfl) ?_
      have e9 : cForesee x w = 0 := by unfold cForesee; (repeat' split) <;> omega
      exact r_iret F dX6_foresee_65 rfl (by rw [e9] <;> rfl) (by rw [e9] <;> rfl)
    · refine r_aload_n (i := 0) F dX6_foresee_31 rfl rfl ?_
      refine r_iconst F dX6_foresee_32 ?_
      refine r_callV F C_X6_no dX6_foresee_33 lkv_X6_40 rfl rfl rfl rfl rfl cd_X6_no (by decide) ⟨Nat.le_refl _, Nat.le_refl _⟩ (Nat.le_of_ble_eq_true rfl) ?_
      rw [thr_thr]
      have e9 : cForesee x w = 2 := by unfold cForesee; (repeat' split) <;> omega
      exact r_iret F dX6_foresee_36 rfl (by rw [e9] <;> rfl) (by rw [e9] <;> rfl)
  · refine r_aload_n (i := 0) F dX6_foresee_15 rfl rfl ?_
    refine r_iconst F dX6_foresee_16 ?_
    refine r_callV F C_X6_no dX6_foresee_17 lkv_X6_40 rfl rfl rfl rfl rfl cd_X6_no (by decide) ⟨Nat.le_refl _, Nat.le_refl _⟩ (Nat.le_of_ble_eq_true rfl) ?_
    rw [thr_thr]
    have e9 : cForesee x w = 1 := by unfold cForesee; (repeat' split) <;> omega
    exact r_iret F dX6_foresee_20 rfl (by rw [e9] <;> rfl) (by rw [e9] <;> rfl)

set_option maxHeartbeats 4000000 in
set_option maxRecDepth 100000 in
theorem C_X6_advise {l : Launch} {cy : Nat → ClassId} {D : va_G} {ad : Nat → Nat → Int → Nat} {M : Mem} {S : St} {x : Int} (hI : Inv S) (hh : 0 ≤ S 20 0 ∧ S 20 0 < 900000) (hx9 : ir x) : Ct l cy D ad yX6_advise cX6_advise 5 (some .int) 8 [.ref (ad 13 0 0), .int (i32 x)] (setc M 2 S) (some (.int (i32 (if cAdvise S x = 0 then (adv S x 16).1 else 0)))) (if cAdvise S x = 0 then setc (setc (thr M 0) 2 S) 3 (goN (sendS S x 15) 40) else setc (thr M (cAdvise S x)) 2 S) := by
  refine Ct.mk (lv := [some _, some _, none, none, none]) 3 (by decide) rfl (Nat.le_of_ble_eq_true rfl) (fun p e s m below meth c F => ?_)
  have ic := hI.pc
  have b18 := hI.p18 x
  have vb : ∀ q : Int, 0 ≤ q → q ≤ 15 → 0 ≤ advV S x q ∧ advV S x q ≤ 480 := fun q h1 h2 => by
    have := sm_bd (f := goN (sendS S x q) 40 1) (B := 30) (fun i => by have := (goN_inv (sendS_inv hI (b := x) (q := q) (by omega)) 40).p01 i; omega) 16
    unfold advV caves
    omega
  have advb : ∀ n : Nat, (n : Int) ≤ 16 → -1 ≤ (adv S x n).2 ∧ (adv S x n).2 ≤ 480 := by
    intro n
    induction n with
    | zero => intro _; exact ⟨by show (-1 : Int) ≤ -1; decide, by show (-1 : Int) ≤ 480; decide⟩
    | succ n ih =>
      intro hn
      have v := vb n (by omega) (by omega)
      unfold adv
      split
      · dsimp only; omega
      · exact ih (by omega)
  have loop : (0 ≤ x ∧ x ≤ S 20 3 - 1) → S 18 x = 0 → ∀ (n : Nat) (j : Int) (X : St), 0 ≤ j → j + (n : Int) = 16 → (j = 16 → X = goN (sendS S x 15) 40) → V p l e (RM 8) s m ([.ref (ad 13 0 0), .int (i32 x)] : List Value).toArray below meth c 5 cy D ad (Aw ad s.heap.size) 0 0 (MQ below (Qn cy D ad s.heap.size (some (.int (i32 (if cAdvise S x = 0 then (adv S x 16).1 else 0)))) (if cAdvise S x = 0 then setc (setc (thr M 0) 2 S) 3 (goN (sendS S x 15) 40) else setc (thr M (cAdvise S x)) 2 S)) ([.ref (ad 13 0 0), .int (i32 x)] : List Value).toArray s 0 0 (Aw ad s.heap.size)) 44 [some (.ref (ad 13 0 0)), some (.int (i32 x)), some (.int (i32 (adv S x j.toNat).1)), some (.int (i32 (adv S x j.toNat).2)), some (.int (i32 j))] [] (setc (setc (thr M 0) 2 S) 3 X) := by
    intro hx hs n
    induction n with
    | zero =>
      intro j X h0 h1 hX
      refine r_iload F dX6_advise_44 rfl ?_
      refine r_bipush F dX6_advise_46 (by decide) ?_
      refine r_icmp_ge (tgt := 113) F dX6_advise_48 (by decide) (by first | assumption | exact ir_of (by omega) (by omega)) (by first | assumption | exact ir_of (by omega) (by omega)) (fun h48 => ?_) (fun h48 => ?_)
      · refine r_iload_n (i := 2) F dX6_advise_113 rfl rfl ?_
        have e9 : cAdvise S x = 0 := by unfold cAdvise; (repeat' split) <;> omega
        exact r_iret F dX6_advise_114 rfl (by rw [e9, if_pos rfl, show j = 16 by omega] <;> rfl) (by rw [e9, if_pos rfl, hX (by omega)])
      · exfalso; omega
    | succ n ih =>
      intro j X h0 h1 hX
      have ab := advb j.toNat (by omega)
      have vj := vb j (by omega) (by omega)
      refine r_iload F dX6_advise_44 rfl ?_
      refine r_bipush F dX6_advise_46 (by decide) ?_
      refine r_icmp_ge (tgt := 113) F dX6_advise_48 (by decide) (ir_of (by omega) (by omega)) (ir_of (by omega) (by omega)) (fun h48 => ?_) (fun h48 => ?_)
      · exfalso; omega
      · refine r_aload_n (i := 0) F dX6_advise_51 rfl rfl ?_
        refine gf_X6_16 F dX6_advise_52 ?_
        refine r_aload_n (i := 0) F dX6_advise_55 rfl rfl ?_
        refine gf_X6_10 F dX6_advise_56 ?_
        refine r_callV F (C_X5_become (k := 3) (k2 := 2) (by decide) (by decide) (by decide)) dX6_advise_59 lkv_X6_178 rfl rfl (dm14 ⟨by decide, by decide⟩) rfl rfl cd_X5_become (by decide) ⟨Nat.le_refl _, Nat.le_refl _⟩ (Nat.le_of_ble_eq_true rfl) ?_
        rw [show (setc (thr M 0) 2 S) 2 = S from setc_at _ _ _]
        refine r_aload_n (i := 0) F dX6_advise_62 rfl rfl ?_
        refine gf_X6_16 F dX6_advise_63 ?_
        refine r_iload_n (i := 1) F dX6_advise_66 rfl rfl ?_
        refine r_iload F dX6_advise_67 rfl ?_
        refine r_callV F (C_X5_send (k := 3) (by decide) ⟨by omega, by omega⟩ ⟨by omega, by omega⟩) dX6_advise_69 lkv_X6_90 rfl rfl (dm14 ⟨by decide, by decide⟩) rfl rfl cd_X5_send (by decide) ⟨Nat.le_refl _, Nat.le_refl _⟩ (Nat.le_of_ble_eq_true rfl) ?_
        refine r_aload_n (i := 0) F dX6_advise_72 rfl rfl ?_
        refine gf_X6_16 F dX6_advise_73 ?_
        refine r_bipush F dX6_advise_76 (by decide) ?_
        refine r_callS F (C_X6_goOn (k := 3) (by decide) (sendS_inv hI ⟨by omega, by omega⟩) hh (by decide)) dX6_advise_78 lks_X6_174 rfl rfl cd_X6_goOn (by decide) ⟨Nat.le_refl _, Nat.le_refl _⟩ (Nat.le_of_ble_eq_true rfl) ?_
        rw [show (40 : Int).toNat = 40 from rfl]
        refine r_pop F dX6_advise_81 rfl ?_
        refine r_aload_n (i := 0) F dX6_advise_82 rfl rfl ?_
        refine gf_X6_16 F dX6_advise_83 ?_
        refine r_callV F (C_X5_caves (k := 3) (by decide)) dX6_advise_86 lkv_X6_182 rfl rfl (dm14 ⟨by decide, by decide⟩) rfl rfl cd_X5_caves (by decide) ⟨Nat.le_refl _, Nat.le_refl _⟩ (Nat.le_of_ble_eq_true rfl) ?_
        refine r_iload_n (i := 3) F dX6_advise_89 rfl rfl ?_
        refine r_icmp_gt (tgt := 96) F dX6_advise_90 (by decide) (ir_of (by show -2147483648 ≤ advV S x j; omega) (by show advV S x j < 2147483648; omega)) (ir_of (by omega) (by omega)) (fun h90 => ?_) (fun h90 => ?_)
        · have g90 : (adv S x j.toNat).2 < advV S x j := h90
          refine r_iload F dX6_advise_96 rfl ?_
          refine r_istore_n (i := 2) (lv1 := [_, _, _, _, _]) F dX6_advise_98 rfl (by decide) rfl rfl ?_
          refine r_aload_n (i := 0) F dX6_advise_99 rfl rfl ?_
          refine gf_X6_16 F dX6_advise_100 ?_
          refine r_callV F (C_X5_caves (k := 3) (by decide)) dX6_advise_103 lkv_X6_182 rfl rfl (dm14 ⟨by decide, by decide⟩) rfl rfl cd_X5_caves (by decide) ⟨Nat.le_refl _, Nat.le_refl _⟩ (Nat.le_of_ble_eq_true rfl) ?_
          refine r_istore_n (i := 3) (lv1 := [_, _, _, _, _]) F dX6_advise_106 rfl (by decide) rfl rfl ?_
          refine r_iinc (lv1 := [_, _, _, _, _]) F dX6_advise_107 rfl (by decide) rfl rfl ?_
          refine r_goto (tgt := 44) F dX6_advise_110 (by decide) ?_
          have t := ih (j + 1) (goN (sendS S x j) 40) (by omega) (by omega) (fun e => by rw [show j = 15 by omega])
          rw [adv_S S x h0] at t
          first | (rw [if_pos g90] at t; dsimp only at t; exact t) | (rw [if_neg g90] at t; exact t)
        · have g90 : ¬ (adv S x j.toNat).2 < advV S x j := Int.not_lt.mpr h90
          refine r_goto (tgt := 107) F dX6_advise_93 (by decide) ?_
          refine r_iinc (lv1 := [_, _, _, _, _]) F dX6_advise_107 rfl (by decide) rfl rfl ?_
          refine r_goto (tgt := 44) F dX6_advise_110 (by decide) ?_
          have t := ih (j + 1) (goN (sendS S x j) 40) (by omega) (by omega) (fun e => by rw [show j = 15 by omega])
          rw [adv_S S x h0] at t
          first | (rw [if_pos g90] at t; dsimp only at t; exact t) | (rw [if_neg g90] at t; exact t)
  refine r_aload_n (i := 0) F dX6_advise_0 rfl rfl ?_
  refine r_iconst F dX6_advise_1 ?_
  refine pfT F dX6_advise_2 ?_
  refine r_aload_n (i := 0) F dX6_advise_5 rfl rfl ?_
  refine r_iload_n (i := 1) F dX6_advise_6 rfl rfl ?_
  refine r_callV F (C_X6_isBoat (by assumption) hI) dX6_advise_7 lkv_X6_94 rfl rfl rfl rfl rfl cd_X6_isBoat (by decide) ⟨Nat.le_refl _, Nat.le_refl _⟩ (Nat.le_of_ble_eq_true rfl) ?_
  refine r_iz_ne (tgt := 19) F dX6_advise_10 (by decide) (fun h10 => ?_) (fun h10 => ?_)
  · refine r_aload_n (i := 0) F dX6_advise_19 rfl rfl ?_
    refine gf_X6_10 F dX6_advise_20 ?_
    refine gf_X6_97 F dX6_advise_23 ⟨by decide, by decide⟩ ?_
    refine r_iload_n (i := 1) F dX6_advise_26 rfl rfl ?_
    refine ia_33 F dX6_advise_27 ⟨by decide, by decide⟩ (by omega) (by omega) ?_
    refine r_if_eq (tgt := 37) F dX6_advise_28 (by decide) (by first | assumption | exact ir_of (by omega) (by omega)) (fun h28 => ?_) (fun h28 => ?_)
    · refine r_iconst F dX6_advise_37 ?_
      refine r_istore_n (i := 2) (lv1 := [_, _, _, _, _]) F dX6_advise_38 rfl (by decide) rfl rfl ?_
      refine r_iconst F dX6_advise_39 ?_
      refine r_istore_n (i := 3) (lv1 := [_, _, _, _, _]) F dX6_advise_40 rfl (by decide) rfl rfl ?_
      refine r_iconst F dX6_advise_41 ?_
      refine r_istore (lv1 := [_, _, _, _, _]) F dX6_advise_42 (by decide) rfl rfl ?_
      refine V.cast (setc_self (setc (thr M 0) 2 S) 3).symm ?_
      have t := loop h10 h28 16 0 ((setc (thr M 0) 2 S) 3) (by decide) (by decide) (fun e => absurd e (by decide))
      rw [adv_0] at t
      exact t
    · refine r_aload_n (i := 0) F dX6_advise_31 rfl rfl ?_
      refine r_iconst F dX6_advise_32 ?_
      refine r_callV F C_X6_no dX6_advise_33 lkv_X6_40 rfl rfl rfl rfl rfl cd_X6_no (by decide) ⟨Nat.le_refl _, Nat.le_refl _⟩ (Nat.le_of_ble_eq_true rfl) ?_
      rw [thr_thr]
      have e9 : cAdvise S x = 2 := by unfold cAdvise; (repeat' split) <;> omega
      exact r_iret F dX6_advise_36 rfl (by rw [e9] <;> rfl) (by rw [e9] <;> rfl)
  · refine r_aload_n (i := 0) F dX6_advise_13 rfl rfl ?_
    refine r_iconst F dX6_advise_14 ?_
    refine r_callV F C_X6_no dX6_advise_15 lkv_X6_40 rfl rfl rfl rfl rfl cd_X6_no (by decide) ⟨Nat.le_refl _, Nat.le_refl _⟩ (Nat.le_of_ble_eq_true rfl) ?_
    rw [thr_thr]
    have e9 : cAdvise S x = 1 := by unfold cAdvise; (repeat' split) <;> omega
    exact r_iret F dX6_advise_18 rfl (by rw [e9] <;> rfl) (by rw [e9] <;> rfl)

set_option maxHeartbeats 4000000 in
set_option maxRecDepth 100000 in
theorem C_X6_mean {l : Launch} {cy : Nat → ClassId} {D : va_G} {ad : Nat → Nat → Int → Nat} {M : Mem} {S : St}  (hI : Inv S) : Ct l cy D ad yX6_mean cX6_mean 3 (some .double) 1 [.ref (ad 13 0 0)] (setc M 2 S) (some (.double (meanF S))) (setc (thr M 0) 2 S) := by
  refine Ct.mk (lv := [some _, none, none]) 2 (by decide) rfl (Nat.le_of_ble_eq_true rfl) (fun p e s m below meth c F => ?_)
  have ic := hI.pc
  have ib := cnt_bd (isF S 0) (S 20 3).toNat
  have ib2 : 0 ≤ inF S 0 ∧ inF S 0 ≤ 6 := by unfold inF; omega
  have sb := sm_bd (f := balF S) (B := 20) (fun i => by have := hI.p14 i; unfold balF; split <;> omega) (S 20 3).toNat
  have loop : ∀ (n : Nat) (j : Int), 0 ≤ j → j + (n : Int) = S 20 3 → V p l e (RM 1) s m ([.ref (ad 13 0 0)] : List Value).toArray below meth c 3 cy D ad (Aw ad s.heap.size) 0 0 (MQ below (Qn cy D ad s.heap.size (some (.double (meanF S))) (setc (thr M 0) 2 S)) ([.ref (ad 13 0 0)] : List Value).toArray s 0 0 (Aw ad s.heap.size)) 9 [some (.ref (ad 13 0 0)), some (.int (i32 (sm (balF S) j.toNat))), some (.int (i32 j))] [] ((setc (thr M 0) 2 S)) := by
    intro n
    induction n with
    | zero =>
      intro j h0 h1
      have b18 := hI.p18 j
      refine r_iload_n (i := 2) F dX6_mean_9 rfl rfl ?_
      refine r_aload_n (i := 0) F dX6_mean_10 rfl rfl ?_
      refine gf_X6_10 F dX6_mean_11 ?_
      refine gf_X6_33 F dX6_mean_14 ⟨by decide, by decide⟩ ?_
      refine r_icmp_ge (tgt := 54) F dX6_mean_17 (by decide) (by first | assumption | exact ir_of (by omega) (by omega)) (by first | assumption | exact ir_of (by omega) (by omega)) (fun h17 => ?_) (fun h17 => ?_)
      · refine r_aload_n (i := 0) F dX6_mean_54 rfl rfl ?_
        refine gf_X6_10 F dX6_mean_55 ?_
        refine r_iconst F dX6_mean_58 ?_
        refine r_callV F (C_X5_in (by decide) hI (by decide)) dX6_mean_59 lkv_X6_185 rfl rfl (dm14 ⟨by decide, by decide⟩) rfl rfl cd_X5_in (by decide) ⟨Nat.le_refl _, Nat.le_refl _⟩ (Nat.le_of_ble_eq_true rfl) ?_
        refine r_if_ne (tgt := 69) F dX6_mean_62 (by decide) (ir_of (by omega) (by omega)) (fun h62 => ?_) (fun h62 => ?_)
        · refine r_iload_n (i := 1) F dX6_mean_69 rfl rfl ?_
          refine r_i2d F dX6_mean_70 ?_
          refine r_aload_n (i := 0) F dX6_mean_71 rfl rfl ?_
          refine gf_X6_10 F dX6_mean_72 ?_
          refine r_iconst F dX6_mean_75 ?_
          refine r_callV F (C_X5_in (by decide) hI (by decide)) dX6_mean_76 lkv_X6_185 rfl rfl (dm14 ⟨by decide, by decide⟩) rfl rfl cd_X5_in (by decide) ⟨Nat.le_refl _, Nat.le_refl _⟩ (Nat.le_of_ble_eq_true rfl) ?_
          refine r_i2d F dX6_mean_79 ?_
          refine r_ddiv F dX6_mean_80 (fp_two (by rw [show j = S 20 3 by omega]; omega) (by omega)).1 ?_
          exact r_dret F dX6_mean_81 rfl (by unfold meanF; first | (rw [if_pos h62]; done) | (rw [if_neg h62, show j = S 20 3 by omega]; done)) rfl
        · refine r_dconst0 F dX6_mean_65 ?_
          refine r_goto (tgt := 81) F dX6_mean_66 (by decide) ?_
          exact r_dret F dX6_mean_81 rfl (by unfold meanF; first | (rw [if_pos h62]; done) | (rw [if_neg h62, show j = S 20 3 by omega]; done)) rfl
      · exfalso; omega
    | succ n ih =>
      intro j h0 h1
      have b18 := hI.p18 j
      refine r_iload_n (i := 2) F dX6_mean_9 rfl rfl ?_
      refine r_aload_n (i := 0) F dX6_mean_10 rfl rfl ?_
      refine gf_X6_10 F dX6_mean_11 ?_
      refine gf_X6_33 F dX6_mean_14 ⟨by decide, by decide⟩ ?_
      refine r_icmp_ge (tgt := 54) F dX6_mean_17 (by decide) (by first | assumption | exact ir_of (by omega) (by omega)) (by first | assumption | exact ir_of (by omega) (by omega)) (fun h17 => ?_) (fun h17 => ?_)
      · exfalso; omega
      · refine r_iload_n (i := 1) F dX6_mean_20 rfl rfl ?_
        refine r_aload_n (i := 0) F dX6_mean_21 rfl rfl ?_
        refine gf_X6_10 F dX6_mean_22 ?_
        refine gf_X6_97 F dX6_mean_25 ⟨by decide, by decide⟩ ?_
        refine r_iload_n (i := 2) F dX6_mean_28 rfl rfl ?_
        refine ia_33 F dX6_mean_29 ⟨by decide, by decide⟩ (by omega) (by omega) ?_
        refine r_if_ne (tgt := 45) F dX6_mean_30 (by decide) (by first | assumption | exact ir_of (by omega) (by omega)) (fun h30 => ?_) (fun h30 => ?_)
        · refine r_iconst F dX6_mean_45 ?_
          refine r_iadd F dX6_mean_46 ?_
          refine r_istore_n (i := 1) (lv1 := [_, _, _]) F dX6_mean_47 rfl (by decide) rfl rfl ?_
          refine r_iinc (lv1 := [_, _, _]) F dX6_mean_48 rfl (by decide) rfl rfl ?_
          refine r_goto (tgt := 9) F dX6_mean_51 (by decide) ?_
          have t := ih (j + 1) (by omega) (by omega)
          rw [sm_S _ h0] at t
          first | (rw [show balF S j = S 14 j from if_pos h30] at t; exact t) | (rw [show balF S j = 0 from if_neg h30] at t; exact t)
        · refine r_aload_n (i := 0) F dX6_mean_33 rfl rfl ?_
          refine gf_X6_10 F dX6_mean_34 ?_
          refine gf_X6_87 F dX6_mean_37 ⟨by decide, by decide⟩ ?_
          refine r_iload_n (i := 2) F dX6_mean_40 rfl rfl ?_
          refine ia_29 F dX6_mean_41 ⟨by decide, by decide⟩ (by omega) (by omega) ?_
          refine r_goto (tgt := 46) F dX6_mean_42 (by decide) ?_
          refine r_iadd F dX6_mean_46 ?_
          refine r_istore_n (i := 1) (lv1 := [_, _, _]) F dX6_mean_47 rfl (by decide) rfl rfl ?_
          refine r_iinc (lv1 := [_, _, _]) F dX6_mean_48 rfl (by decide) rfl rfl ?_
          refine r_goto (tgt := 9) F dX6_mean_51 (by decide) ?_
          have t := ih (j + 1) (by omega) (by omega)
          rw [sm_S _ h0] at t
          first | (rw [show balF S j = S 14 j from if_pos h30] at t; exact t) | (rw [show balF S j = 0 from if_neg h30] at t; exact t)
  refine r_aload_n (i := 0) F dX6_mean_0 rfl rfl ?_
  refine r_iconst F dX6_mean_1 ?_
  refine pfT F dX6_mean_2 ?_
  refine r_iconst F dX6_mean_5 ?_
  refine r_istore_n (i := 1) (lv1 := [_, _, _]) F dX6_mean_6 rfl (by decide) rfl rfl ?_
  refine r_iconst F dX6_mean_7 ?_
  refine r_istore_n (i := 2) (lv1 := [_, _, _]) F dX6_mean_8 rfl (by decide) rfl rfl ?_
  exact loop (S 20 3).toNat 0 (by omega) (by omega)

set_option maxHeartbeats 4000000 in
set_option maxRecDepth 100000 in
theorem C_X6_digest {l : Launch} {cy : Nat → ClassId} {D : va_G} {ad : Nat → Nat → Int → Nat} {M : Mem} {S : St}  (hI : Inv S) (hh : 0 ≤ S 20 0 ∧ S 20 0 < 900000) : Ct l cy D ad yX6_digest cX6_digest 5 (some .long) 7 [.ref (ad 13 0 0)] (setc M 2 S) (some (.long (dB S))) (setc (thr M 0) 2 S) := by
  refine Ct.mk (lv := [some _, none, none, none, none]) 4 (by decide) rfl (Nat.le_of_ble_eq_true rfl) (fun p e s m below meth c F => ?_)
  have ic := hI.pc
  have ib : ∀ (j : Int) (d0 : Int64) (hj : 0 ≤ j ∧ j < S 20 3), (∀ d : Int64, d = dgF (toldF S j) 7 d0 → V p l e (RM 7) s m ([.ref (ad 13 0 0)] : List Value).toArray below meth c 5 cy D ad (Aw ad s.heap.size) 0 0 (MQ below (Qn cy D ad s.heap.size (some (.long (dB S))) (setc (thr M 0) 2 S)) ([.ref (ad 13 0 0)] : List Value).toArray s 0 0 (Aw ad s.heap.size)) 308 [some (.ref (ad 13 0 0)), some (.long (d)), none, some (.int (i32 j)), none] [] (setc (thr M 0) 2 S)) → ∀ (n : Nat) (i : Int), 0 ≤ i → i + (n : Int) = 7 → V p l e (RM 7) s m ([.ref (ad 13 0 0)] : List Value).toArray below meth c 5 cy D ad (Aw ad s.heap.size) 0 0 (MQ below (Qn cy D ad s.heap.size (some (.long (dB S))) (setc (thr M 0) 2 S)) ([.ref (ad 13 0 0)] : List Value).toArray s 0 0 (Aw ad s.heap.size)) 280 [some (.ref (ad 13 0 0)), some (.long (dgF (toldF S j) i.toNat d0)), none, some (.int (i32 j)), some (.int (i32 i))] [] ((setc (thr M 0) 2 S)) := by
    intro j d0 hj kx n
    induction n with
    | zero =>
      intro i h0 h1
      refine r_iload F dX6_digest_280 rfl ?_
      refine r_bipush F dX6_digest_282 (by decide) ?_
      refine r_icmp_gt (tgt := 308) F dX6_digest_284 (by decide) (by first | assumption | exact ir_of (by omega) (by omega)) (by first | assumption | exact ir_of (by omega) (by omega)) (fun h284 => ?_) (fun h284 => ?_)
      · refine V.kill (lv1 := [_, _, _, _, _]) 4 rfl ?_
        exact kx _ (congrArg (fun n => dgF (toldF S j) n d0) (show i.toNat = 7 by omega))
      · exfalso; omega
    | succ n ih =>
      intro i h0 h1
      refine r_iload F dX6_digest_280 rfl ?_
      refine r_bipush F dX6_digest_282 (by decide) ?_
      refine r_icmp_gt (tgt := 308) F dX6_digest_284 (by decide) (by first | assumption | exact ir_of (by omega) (by omega)) (by first | assumption | exact ir_of (by omega) (by omega)) (fun h284 => ?_) (fun h284 => ?_)
      · exfalso; omega
      · refine r_lload_n (i := 1) F dX6_digest_287 rfl rfl ?_
        refine r_ldc2 F dX6_digest_288 lcl_X6_190 ?_
        refine r_lmul F dX6_digest_291 ?_
        refine r_aload_n (i := 0) F dX6_digest_292 rfl rfl ?_
        refine r_iload_n (i := 3) F dX6_digest_293 rfl rfl ?_
        refine r_iload F dX6_digest_294 rfl ?_
        refine r_callV F (C_X6_boatTold hI ⟨by omega, by omega⟩ ⟨by omega, by omega⟩) dX6_digest_296 lkv_X6_121 rfl rfl rfl rfl rfl cd_X6_boatTold (by decide) ⟨Nat.le_refl _, Nat.le_refl _⟩ (Nat.le_of_ble_eq_true rfl) ?_
        refine r_i2l F dX6_digest_299 ?_
        refine r_ladd F dX6_digest_300 ?_
        refine r_lstore_n (i := 1) (lv1 := [_, _, _, _, _]) F dX6_digest_301 rfl (by decide) rfl rfl ?_
        refine r_iinc (lv1 := [_, _, _, _, _]) F dX6_digest_302 rfl (by decide) rfl rfl ?_
        refine r_goto (tgt := 280) F dX6_digest_305 (by decide) ?_
        have t := ih (i + 1) (by omega) (by omega)
        rw [dgF_S _ _ h0] at t
        exact t
  have ob : ∀ (n : Nat) (j : Int), 0 ≤ j → j + (n : Int) = S 20 3 → V p l e (RM 7) s m ([.ref (ad 13 0 0)] : List Value).toArray below meth c 5 cy D ad (Aw ad s.heap.size) 0 0 (MQ below (Qn cy D ad s.heap.size (some (.long (dB S))) (setc (thr M 0) 2 S)) ([.ref (ad 13 0 0)] : List Value).toArray s 0 0 (Aw ad s.heap.size)) 266 [some (.ref (ad 13 0 0)), some (.long (dgG (gB S) j.toNat (dW S))), none, some (.int (i32 j)), none] [] ((setc (thr M 0) 2 S)) := by
    intro n
    induction n with
    | zero =>
      intro j h0 h1
      refine r_iload_n (i := 3) F dX6_digest_266 rfl rfl ?_
      refine r_aload_n (i := 0) F dX6_digest_267 rfl rfl ?_
      refine gf_X6_10 F dX6_digest_268 ?_
      refine gf_X6_33 F dX6_digest_271 ⟨by decide, by decide⟩ ?_
      refine r_icmp_ge (tgt := 314) F dX6_digest_274 (by decide) (by first | assumption | exact ir_of (by omega) (by omega)) (by first | assumption | exact ir_of (by omega) (by omega)) (fun h274 => ?_) (fun h274 => ?_)
      · refine r_lload_n (i := 1) F dX6_digest_314 rfl rfl ?_
        have e : dgG (gB S) j.toNat (dW S) = dB S := congrArg (fun n => dgG (gB S) n (dW S)) (show j.toNat = (S 20 3).toNat by omega)
        exact r_lret F dX6_digest_315 rfl (by rw [e]) rfl
      · exfalso; omega
    | succ n ih =>
      intro j h0 h1
      refine r_iload_n (i := 3) F dX6_digest_266 rfl rfl ?_
      refine r_aload_n (i := 0) F dX6_digest_267 rfl rfl ?_
      refine gf_X6_10 F dX6_digest_268 ?_
      refine gf_X6_33 F dX6_digest_271 ⟨by decide, by decide⟩ ?_
      refine r_icmp_ge (tgt := 314) F dX6_digest_274 (by decide) (by first | assumption | exact ir_of (by omega) (by omega)) (by first | assumption | exact ir_of (by omega) (by omega)) (fun h274 => ?_) (fun h274 => ?_)
      · exfalso; omega
      · refine r_iconst F dX6_digest_277 ?_
        refine r_istore (lv1 := [_, _, _, _, _]) F dX6_digest_278 (by decide) rfl rfl ?_
        rw [← dgF_0 (toldF S j) (dgG (gB S) j.toNat (dW S))]
        refine ib j _ ⟨by omega, by omega⟩ (fun d hd => ?_) 7 0 (by decide) (by decide)
        refine r_iinc (lv1 := [_, _, _, _, _]) F dX6_digest_308 rfl (by decide) rfl rfl ?_
        refine r_goto (tgt := 266) F dX6_digest_311 (by decide) ?_
        have t := ih (j + 1) (by omega) (by omega)
        rw [dgG_S _ _ h0, show gB S (dgG (gB S) j.toNat _) j = d from hd.symm] at t
        exact t
  have iw : ∀ (j : Int) (d0 : Int64) (hj : 0 ≤ j ∧ j < S 20 2), (∀ d : Int64, d = dgF (aboutF S j) 5 d0 → V p l e (RM 7) s m ([.ref (ad 13 0 0)] : List Value).toArray below meth c 5 cy D ad (Aw ad s.heap.size) 0 0 (MQ below (Qn cy D ad s.heap.size (some (.long (dB S))) (setc (thr M 0) 2 S)) ([.ref (ad 13 0 0)] : List Value).toArray s 0 0 (Aw ad s.heap.size)) 258 [some (.ref (ad 13 0 0)), some (.long (d)), none, some (.int (i32 j)), none] [] (setc (thr M 0) 2 S)) → ∀ (n : Nat) (i : Int), 0 ≤ i → i + (n : Int) = 5 → V p l e (RM 7) s m ([.ref (ad 13 0 0)] : List Value).toArray below meth c 5 cy D ad (Aw ad s.heap.size) 0 0 (MQ below (Qn cy D ad s.heap.size (some (.long (dB S))) (setc (thr M 0) 2 S)) ([.ref (ad 13 0 0)] : List Value).toArray s 0 0 (Aw ad s.heap.size)) 231 [some (.ref (ad 13 0 0)), some (.long (dgF (aboutF S j) i.toNat d0)), none, some (.int (i32 j)), some (.int (i32 i))] [] ((setc (thr M 0) 2 S)) := by
    intro j d0 hj kx n
    induction n with
    | zero =>
      intro i h0 h1
      refine r_iload F dX6_digest_231 rfl ?_
      refine r_iconst F dX6_digest_233 ?_
      refine r_icmp_gt (tgt := 258) F dX6_digest_234 (by decide) (by first | assumption | exact ir_of (by omega) (by omega)) (by first | assumption | exact ir_of (by omega) (by omega)) (fun h234 => ?_) (fun h234 => ?_)
      · refine V.kill (lv1 := [_, _, _, _, _]) 4 rfl ?_
        exact kx _ (congrArg (fun n => dgF (aboutF S j) n d0) (show i.toNat = 5 by omega))
      · exfalso; omega
    | succ n ih =>
      intro i h0 h1
      refine r_iload F dX6_digest_231 rfl ?_
      refine r_iconst F dX6_digest_233 ?_
      refine r_icmp_gt (tgt := 258) F dX6_digest_234 (by decide) (by first | assumption | exact ir_of (by omega) (by omega)) (by first | assumption | exact ir_of (by omega) (by omega)) (fun h234 => ?_) (fun h234 => ?_)
      · exfalso; omega
      · refine r_lload_n (i := 1) F dX6_digest_237 rfl rfl ?_
        refine r_ldc2 F dX6_digest_238 lcl_X6_190 ?_
        refine r_lmul F dX6_digest_241 ?_
        refine r_aload_n (i := 0) F dX6_digest_242 rfl rfl ?_
        refine r_iload_n (i := 3) F dX6_digest_243 rfl rfl ?_
        refine r_iload F dX6_digest_244 rfl ?_
        refine r_callV F (C_X6_watchmanTold hI hh ⟨by omega, by omega⟩ ⟨by omega, by omega⟩) dX6_digest_246 lkv_X6_137 rfl rfl rfl rfl rfl cd_X6_watchmanTold (by decide) ⟨Nat.le_refl _, Nat.le_refl _⟩ (Nat.le_of_ble_eq_true rfl) ?_
        refine r_i2l F dX6_digest_249 ?_
        refine r_ladd F dX6_digest_250 ?_
        refine r_lstore_n (i := 1) (lv1 := [_, _, _, _, _]) F dX6_digest_251 rfl (by decide) rfl rfl ?_
        refine r_iinc (lv1 := [_, _, _, _, _]) F dX6_digest_252 rfl (by decide) rfl rfl ?_
        refine r_goto (tgt := 231) F dX6_digest_255 (by decide) ?_
        have t := ih (i + 1) (by omega) (by omega)
        rw [dgF_S _ _ h0] at t
        exact t
  have ow : ∀ (n : Nat) (j : Int), 0 ≤ j → j + (n : Int) = S 20 2 → V p l e (RM 7) s m ([.ref (ad 13 0 0)] : List Value).toArray below meth c 5 cy D ad (Aw ad s.heap.size) 0 0 (MQ below (Qn cy D ad s.heap.size (some (.long (dB S))) (setc (thr M 0) 2 S)) ([.ref (ad 13 0 0)] : List Value).toArray s 0 0 (Aw ad s.heap.size)) 217 [some (.ref (ad 13 0 0)), some (.long (dgG (gW S) j.toNat (dL S))), none, some (.int (i32 j)), none] [] ((setc (thr M 0) 2 S)) := by
    intro n
    induction n with
    | zero =>
      intro j h0 h1
      refine r_iload_n (i := 3) F dX6_digest_217 rfl rfl ?_
      refine r_aload_n (i := 0) F dX6_digest_218 rfl rfl ?_
      refine gf_X6_10 F dX6_digest_219 ?_
      refine gf_X6_30 F dX6_digest_222 ⟨by decide, by decide⟩ ?_
      refine r_icmp_ge (tgt := 264) F dX6_digest_225 (by decide) (by first | assumption | exact ir_of (by omega) (by omega)) (by first | assumption | exact ir_of (by omega) (by omega)) (fun h225 => ?_) (fun h225 => ?_)
      · refine r_iconst F dX6_digest_264 ?_
        refine r_istore_n (i := 3) (lv1 := [_, _, _, _, _]) F dX6_digest_265 rfl (by decide) rfl rfl ?_
        have e : dgG (gW S) j.toNat (dL S) = dW S := congrArg (fun n => dgG (gW S) n (dL S)) (show j.toNat = (S 20 2).toNat by omega)
        rw [e]
        have t := ob (S 20 3).toNat 0 (by decide) (by omega)
        rw [dgG_0] at t
        exact t
      · exfalso; omega
    | succ n ih =>
      intro j h0 h1
      refine r_iload_n (i := 3) F dX6_digest_217 rfl rfl ?_
      refine r_aload_n (i := 0) F dX6_digest_218 rfl rfl ?_
      refine gf_X6_10 F dX6_digest_219 ?_
      refine gf_X6_30 F dX6_digest_222 ⟨by decide, by decide⟩ ?_
      refine r_icmp_ge (tgt := 264) F dX6_digest_225 (by decide) (by first | assumption | exact ir_of (by omega) (by omega)) (by first | assumption | exact ir_of (by omega) (by omega)) (fun h225 => ?_) (fun h225 => ?_)
      · exfalso; omega
      · refine r_iconst F dX6_digest_228 ?_
        refine r_istore (lv1 := [_, _, _, _, _]) F dX6_digest_229 (by decide) rfl rfl ?_
        rw [← dgF_0 (aboutF S j) (dgG (gW S) j.toNat (dL S))]
        refine iw j _ ⟨by omega, by omega⟩ (fun d hd => ?_) 5 0 (by decide) (by decide)
        refine r_iinc (lv1 := [_, _, _, _, _]) F dX6_digest_258 rfl (by decide) rfl rfl ?_
        refine r_goto (tgt := 217) F dX6_digest_261 (by decide) ?_
        have t := ih (j + 1) (by omega) (by omega)
        rw [dgG_S _ _ h0, show gW S (dgG (gW S) j.toNat _) j = d from hd.symm] at t
        exact t
  have it : ∀ (j : Int) (d0 : Int64) (hj : 0 ≤ j ∧ j < S 20 1), (∀ d : Int64, d = dgF (tabF S j) 10 d0 → V p l e (RM 7) s m ([.ref (ad 13 0 0)] : List Value).toArray below meth c 5 cy D ad (Aw ad s.heap.size) 0 0 (MQ below (Qn cy D ad s.heap.size (some (.long (dB S))) (setc (thr M 0) 2 S)) ([.ref (ad 13 0 0)] : List Value).toArray s 0 0 (Aw ad s.heap.size)) 209 [some (.ref (ad 13 0 0)), some (.long (d)), none, some (.int (i32 j)), none] [] (setc (thr M 0) 2 S)) → ∀ (n : Nat) (i : Int), 0 ≤ i → i + (n : Int) = 10 → V p l e (RM 7) s m ([.ref (ad 13 0 0)] : List Value).toArray below meth c 5 cy D ad (Aw ad s.heap.size) 0 0 (MQ below (Qn cy D ad s.heap.size (some (.long (dB S))) (setc (thr M 0) 2 S)) ([.ref (ad 13 0 0)] : List Value).toArray s 0 0 (Aw ad s.heap.size)) 173 [some (.ref (ad 13 0 0)), some (.long (dgF (tabF S j) i.toNat d0)), none, some (.int (i32 j)), some (.int (i32 i))] [] ((setc (thr M 0) 2 S)) := by
    intro j d0 hj kx n
    induction n with
    | zero =>
      intro i h0 h1
      refine r_iload F dX6_digest_173 rfl ?_
      refine r_bipush F dX6_digest_175 (by decide) ?_
      refine r_icmp_ge (tgt := 209) F dX6_digest_177 (by decide) (by first | assumption | exact ir_of (by omega) (by omega)) (by first | assumption | exact ir_of (by omega) (by omega)) (fun h177 => ?_) (fun h177 => ?_)
      · refine V.kill (lv1 := [_, _, _, _, _]) 4 rfl ?_
        exact kx _ (congrArg (fun n => dgF (tabF S j) n d0) (show i.toNat = 10 by omega))
      · exfalso; omega
    | succ n ih =>
      intro i h0 h1
      refine r_iload F dX6_digest_173 rfl ?_
      refine r_bipush F dX6_digest_175 (by decide) ?_
      refine r_icmp_ge (tgt := 209) F dX6_digest_177 (by decide) (by first | assumption | exact ir_of (by omega) (by omega)) (by first | assumption | exact ir_of (by omega) (by omega)) (fun h177 => ?_) (fun h177 => ?_)
      · exfalso; omega
      · refine r_lload_n (i := 1) F dX6_digest_180 rfl rfl ?_
        refine r_ldc2 F dX6_digest_181 lcl_X6_190 ?_
        refine r_lmul F dX6_digest_184 ?_
        refine r_aload_n (i := 0) F dX6_digest_185 rfl rfl ?_
        refine gf_X6_10 F dX6_digest_186 ?_
        refine gf_X6_66 F dX6_digest_189 ⟨by decide, by decide⟩ ?_
        refine r_bipush F dX6_digest_192 (by decide) ?_
        refine r_iload_n (i := 3) F dX6_digest_194 rfl rfl ?_
        refine r_imul F dX6_digest_195 ?_
        refine r_iload F dX6_digest_196 rfl ?_
        refine r_iadd F dX6_digest_198 ?_
        refine ia_20 F dX6_digest_199 ⟨by decide, by decide⟩ (by omega) (by omega) ?_
        refine r_i2l F dX6_digest_200 ?_
        refine r_ladd F dX6_digest_201 ?_
        refine r_lstore_n (i := 1) (lv1 := [_, _, _, _, _]) F dX6_digest_202 rfl (by decide) rfl rfl ?_
        refine r_iinc (lv1 := [_, _, _, _, _]) F dX6_digest_203 rfl (by decide) rfl rfl ?_
        refine r_goto (tgt := 173) F dX6_digest_206 (by decide) ?_
        have t := ih (i + 1) (by omega) (by omega)
        rw [dgF_S _ _ h0] at t
        exact t
  have il : ∀ (j : Int) (d0 : Int64) (hj : 0 ≤ j ∧ j < S 20 1), (∀ d : Int64, d = dgF (lightF S j) 4 d0 → V p l e (RM 7) s m ([.ref (ad 13 0 0)] : List Value).toArray below meth c 5 cy D ad (Aw ad s.heap.size) 0 0 (MQ below (Qn cy D ad s.heap.size (some (.long (dB S))) (setc (thr M 0) 2 S)) ([.ref (ad 13 0 0)] : List Value).toArray s 0 0 (Aw ad s.heap.size)) 170 [some (.ref (ad 13 0 0)), some (.long (d)), none, some (.int (i32 j)), none] [] (setc (thr M 0) 2 S)) → ∀ (n : Nat) (i : Int), 0 ≤ i → i + (n : Int) = 4 → V p l e (RM 7) s m ([.ref (ad 13 0 0)] : List Value).toArray below meth c 5 cy D ad (Aw ad s.heap.size) 0 0 (MQ below (Qn cy D ad s.heap.size (some (.long (dB S))) (setc (thr M 0) 2 S)) ([.ref (ad 13 0 0)] : List Value).toArray s 0 0 (Aw ad s.heap.size)) 143 [some (.ref (ad 13 0 0)), some (.long (dgF (lightF S j) i.toNat d0)), none, some (.int (i32 j)), some (.int (i32 i))] [] ((setc (thr M 0) 2 S)) := by
    intro j d0 hj kx n
    induction n with
    | zero =>
      intro i h0 h1
      refine r_iload F dX6_digest_143 rfl ?_
      refine r_iconst F dX6_digest_145 ?_
      refine r_icmp_gt (tgt := 170) F dX6_digest_146 (by decide) (by first | assumption | exact ir_of (by omega) (by omega)) (by first | assumption | exact ir_of (by omega) (by omega)) (fun h146 => ?_) (fun h146 => ?_)
      · refine V.kill (lv1 := [_, _, _, _, _]) 4 rfl ?_
        exact kx _ (congrArg (fun n => dgF (lightF S j) n d0) (show i.toNat = 4 by omega))
      · exfalso; omega
    | succ n ih =>
      intro i h0 h1
      refine r_iload F dX6_digest_143 rfl ?_
      refine r_iconst F dX6_digest_145 ?_
      refine r_icmp_gt (tgt := 170) F dX6_digest_146 (by decide) (by first | assumption | exact ir_of (by omega) (by omega)) (by first | assumption | exact ir_of (by omega) (by omega)) (fun h146 => ?_) (fun h146 => ?_)
      · exfalso; omega
      · refine r_lload_n (i := 1) F dX6_digest_149 rfl rfl ?_
        refine r_ldc2 F dX6_digest_150 lcl_X6_190 ?_
        refine r_lmul F dX6_digest_153 ?_
        refine r_aload_n (i := 0) F dX6_digest_154 rfl rfl ?_
        refine r_iload_n (i := 3) F dX6_digest_155 rfl rfl ?_
        refine r_iload F dX6_digest_156 rfl ?_
        refine r_callV F (C_X6_lightTold hI hh ⟨by omega, by omega⟩ ⟨by omega, by omega⟩) dX6_digest_158 lkv_X6_149 rfl rfl rfl rfl rfl cd_X6_lightTold (by decide) ⟨Nat.le_refl _, Nat.le_refl _⟩ (Nat.le_of_ble_eq_true rfl) ?_
        refine r_i2l F dX6_digest_161 ?_
        refine r_ladd F dX6_digest_162 ?_
        refine r_lstore_n (i := 1) (lv1 := [_, _, _, _, _]) F dX6_digest_163 rfl (by decide) rfl rfl ?_
        refine r_iinc (lv1 := [_, _, _, _, _]) F dX6_digest_164 rfl (by decide) rfl rfl ?_
        refine r_goto (tgt := 143) F dX6_digest_167 (by decide) ?_
        have t := ih (i + 1) (by omega) (by omega)
        rw [dgF_S _ _ h0] at t
        exact t
  have ol : ∀ (n : Nat) (j : Int), 0 ≤ j → j + (n : Int) = S 20 1 → V p l e (RM 7) s m ([.ref (ad 13 0 0)] : List Value).toArray below meth c 5 cy D ad (Aw ad s.heap.size) 0 0 (MQ below (Qn cy D ad s.heap.size (some (.long (dB S))) (setc (thr M 0) 2 S)) ([.ref (ad 13 0 0)] : List Value).toArray s 0 0 (Aw ad s.heap.size)) 129 [some (.ref (ad 13 0 0)), some (.long (dgG (gL S) j.toNat (dK S))), none, some (.int (i32 j)), none] [] ((setc (thr M 0) 2 S)) := by
    intro n
    induction n with
    | zero =>
      intro j h0 h1
      refine r_iload_n (i := 3) F dX6_digest_129 rfl rfl ?_
      refine r_aload_n (i := 0) F dX6_digest_130 rfl rfl ?_
      refine gf_X6_10 F dX6_digest_131 ?_
      refine gf_X6_27 F dX6_digest_134 ⟨by decide, by decide⟩ ?_
      refine r_icmp_ge (tgt := 215) F dX6_digest_137 (by decide) (by first | assumption | exact ir_of (by omega) (by omega)) (by first | assumption | exact ir_of (by omega) (by omega)) (fun h137 => ?_) (fun h137 => ?_)
      · refine r_iconst F dX6_digest_215 ?_
        refine r_istore_n (i := 3) (lv1 := [_, _, _, _, _]) F dX6_digest_216 rfl (by decide) rfl rfl ?_
        have e : dgG (gL S) j.toNat (dK S) = dL S := congrArg (fun n => dgG (gL S) n (dK S)) (show j.toNat = (S 20 1).toNat by omega)
        rw [e]
        have t := ow (S 20 2).toNat 0 (by decide) (by omega)
        rw [dgG_0] at t
        exact t
      · exfalso; omega
    | succ n ih =>
      intro j h0 h1
      refine r_iload_n (i := 3) F dX6_digest_129 rfl rfl ?_
      refine r_aload_n (i := 0) F dX6_digest_130 rfl rfl ?_
      refine gf_X6_10 F dX6_digest_131 ?_
      refine gf_X6_27 F dX6_digest_134 ⟨by decide, by decide⟩ ?_
      refine r_icmp_ge (tgt := 215) F dX6_digest_137 (by decide) (by first | assumption | exact ir_of (by omega) (by omega)) (by first | assumption | exact ir_of (by omega) (by omega)) (fun h137 => ?_) (fun h137 => ?_)
      · exfalso; omega
      · refine r_iconst F dX6_digest_140 ?_
        refine r_istore (lv1 := [_, _, _, _, _]) F dX6_digest_141 (by decide) rfl rfl ?_
        rw [← dgF_0 (lightF S j) (dgG (gL S) j.toNat (dK S))]
        refine il j _ ⟨by omega, by omega⟩ (fun d hd => ?_) 4 0 (by decide) (by decide)
        refine r_iconst F dX6_digest_170 ?_
        refine r_istore (lv1 := [_, _, _, _, _]) F dX6_digest_171 (by decide) rfl rfl ?_
        rw [← dgF_0 (tabF S j) (d)]
        refine it j _ ⟨by omega, by omega⟩ (fun d2 hd2 => ?_) 10 0 (by decide) (by decide)
        refine r_iinc (lv1 := [_, _, _, _, _]) F dX6_digest_209 rfl (by decide) rfl rfl ?_
        refine r_goto (tgt := 129) F dX6_digest_212 (by decide) ?_
        have t := ih (j + 1) (by omega) (by omega)
        rw [dgG_S _ _ h0, show gL S (dgG (gL S) j.toNat _) j = d2 from by rw [hd2, hd] <;> rfl] at t
        exact t
  have ik : ∀ (j : Int) (d0 : Int64) (hj : 0 ≤ j ∧ j < 7), (∀ d : Int64, d = dgF (codeF S (j + 1)) 4 d0 → V p l e (RM 7) s m ([.ref (ad 13 0 0)] : List Value).toArray below meth c 5 cy D ad (Aw ad s.heap.size) 0 0 (MQ below (Qn cy D ad s.heap.size (some (.long (dB S))) (setc (thr M 0) 2 S)) ([.ref (ad 13 0 0)] : List Value).toArray s 0 0 (Aw ad s.heap.size)) 121 [some (.ref (ad 13 0 0)), some (.long (d)), none, some (.int (i32 (j + 1))), none] [] (setc (thr M 0) 2 S)) → ∀ (n : Nat) (i : Int), 0 ≤ i → i + (n : Int) = 4 → V p l e (RM 7) s m ([.ref (ad 13 0 0)] : List Value).toArray below meth c 5 cy D ad (Aw ad s.heap.size) 0 0 (MQ below (Qn cy D ad s.heap.size (some (.long (dB S))) (setc (thr M 0) 2 S)) ([.ref (ad 13 0 0)] : List Value).toArray s 0 0 (Aw ad s.heap.size)) 94 [some (.ref (ad 13 0 0)), some (.long (dgF (codeF S (j + 1)) i.toNat d0)), none, some (.int (i32 (j + 1))), some (.int (i32 i))] [] ((setc (thr M 0) 2 S)) := by
    intro j d0 hj kx n
    induction n with
    | zero =>
      intro i h0 h1
      refine r_iload F dX6_digest_94 rfl ?_
      refine r_iconst F dX6_digest_96 ?_
      refine r_icmp_gt (tgt := 121) F dX6_digest_97 (by decide) (by first | assumption | exact ir_of (by omega) (by omega)) (by first | assumption | exact ir_of (by omega) (by omega)) (fun h97 => ?_) (fun h97 => ?_)
      · refine V.kill (lv1 := [_, _, _, _, _]) 4 rfl ?_
        exact kx _ (congrArg (fun n => dgF (codeF S (j + 1)) n d0) (show i.toNat = 4 by omega))
      · exfalso; omega
    | succ n ih =>
      intro i h0 h1
      refine r_iload F dX6_digest_94 rfl ?_
      refine r_iconst F dX6_digest_96 ?_
      refine r_icmp_gt (tgt := 121) F dX6_digest_97 (by decide) (by first | assumption | exact ir_of (by omega) (by omega)) (by first | assumption | exact ir_of (by omega) (by omega)) (fun h97 => ?_) (fun h97 => ?_)
      · exfalso; omega
      · refine r_lload_n (i := 1) F dX6_digest_100 rfl rfl ?_
        refine r_ldc2 F dX6_digest_101 lcl_X6_190 ?_
        refine r_lmul F dX6_digest_104 ?_
        refine r_aload_n (i := 0) F dX6_digest_105 rfl rfl ?_
        refine r_iload_n (i := 3) F dX6_digest_106 rfl rfl ?_
        refine r_iload F dX6_digest_107 rfl ?_
        refine r_callV F (C_X6_codeTold hI ⟨by omega, by omega⟩ ⟨by omega, by omega⟩) dX6_digest_109 lkv_X6_155 rfl rfl rfl rfl rfl cd_X6_codeTold (by decide) ⟨Nat.le_refl _, Nat.le_refl _⟩ (Nat.le_of_ble_eq_true rfl) ?_
        refine r_i2l F dX6_digest_112 ?_
        refine r_ladd F dX6_digest_113 ?_
        refine r_lstore_n (i := 1) (lv1 := [_, _, _, _, _]) F dX6_digest_114 rfl (by decide) rfl rfl ?_
        refine r_iinc (lv1 := [_, _, _, _, _]) F dX6_digest_115 rfl (by decide) rfl rfl ?_
        refine r_goto (tgt := 94) F dX6_digest_118 (by decide) ?_
        have t := ih (i + 1) (by omega) (by omega)
        rw [dgF_S _ _ h0] at t
        exact t
  have ok : ∀ (n : Nat) (j : Int), 0 ≤ j → j + (n : Int) = 7 → V p l e (RM 7) s m ([.ref (ad 13 0 0)] : List Value).toArray below meth c 5 cy D ad (Aw ad s.heap.size) 0 0 (MQ below (Qn cy D ad s.heap.size (some (.long (dB S))) (setc (thr M 0) 2 S)) ([.ref (ad 13 0 0)] : List Value).toArray s 0 0 (Aw ad s.heap.size)) 85 [some (.ref (ad 13 0 0)), some (.long (dgG (gK S) j.toNat (dP S))), none, some (.int (i32 (j + 1))), none] [] ((setc (thr M 0) 2 S)) := by
    intro n
    induction n with
    | zero =>
      intro j h0 h1
      refine r_iload_n (i := 3) F dX6_digest_85 rfl rfl ?_
      refine r_bipush F dX6_digest_86 (by decide) ?_
      refine r_icmp_gt (tgt := 127) F dX6_digest_88 (by decide) (by first | assumption | exact ir_of (by omega) (by omega)) (by first | assumption | exact ir_of (by omega) (by omega)) (fun h88 => ?_) (fun h88 => ?_)
      · refine r_iconst F dX6_digest_127 ?_
        refine r_istore_n (i := 3) (lv1 := [_, _, _, _, _]) F dX6_digest_128 rfl (by decide) rfl rfl ?_
        have e : dgG (gK S) j.toNat (dP S) = dK S := congrArg (fun n => dgG (gK S) n (dP S)) (show j.toNat = 7 by omega)
        rw [e]
        have t := ol (S 20 1).toNat 0 (by decide) (by omega)
        rw [dgG_0] at t
        exact t
      · exfalso; omega
    | succ n ih =>
      intro j h0 h1
      refine r_iload_n (i := 3) F dX6_digest_85 rfl rfl ?_
      refine r_bipush F dX6_digest_86 (by decide) ?_
      refine r_icmp_gt (tgt := 127) F dX6_digest_88 (by decide) (by first | assumption | exact ir_of (by omega) (by omega)) (by first | assumption | exact ir_of (by omega) (by omega)) (fun h88 => ?_) (fun h88 => ?_)
      · exfalso; omega
      · refine r_iconst F dX6_digest_91 ?_
        refine r_istore (lv1 := [_, _, _, _, _]) F dX6_digest_92 (by decide) rfl rfl ?_
        rw [← dgF_0 (codeF S (j + 1)) (dgG (gK S) j.toNat (dP S))]
        refine ik j _ ⟨by omega, by omega⟩ (fun d hd => ?_) 4 0 (by decide) (by decide)
        refine r_iinc (lv1 := [_, _, _, _, _]) F dX6_digest_121 rfl (by decide) rfl rfl ?_
        refine r_goto (tgt := 85) F dX6_digest_124 (by decide) ?_
        have t := ih (j + 1) (by omega) (by omega)
        rw [dgG_S _ _ h0, show gK S (dgG (gK S) j.toNat _) j = d from hd.symm] at t
        exact t
  have ip : ∀ (j : Int) (d0 : Int64) (hj : 0 ≤ j ∧ j < 16), (∀ d : Int64, d = dgF (placeF S j) 5 d0 → V p l e (RM 7) s m ([.ref (ad 13 0 0)] : List Value).toArray below meth c 5 cy D ad (Aw ad s.heap.size) 0 0 (MQ below (Qn cy D ad s.heap.size (some (.long (dB S))) (setc (thr M 0) 2 S)) ([.ref (ad 13 0 0)] : List Value).toArray s 0 0 (Aw ad s.heap.size)) 77 [some (.ref (ad 13 0 0)), some (.long (d)), none, some (.int (i32 j)), none] [] (setc (thr M 0) 2 S)) → ∀ (n : Nat) (i : Int), 0 ≤ i → i + (n : Int) = 5 → V p l e (RM 7) s m ([.ref (ad 13 0 0)] : List Value).toArray below meth c 5 cy D ad (Aw ad s.heap.size) 0 0 (MQ below (Qn cy D ad s.heap.size (some (.long (dB S))) (setc (thr M 0) 2 S)) ([.ref (ad 13 0 0)] : List Value).toArray s 0 0 (Aw ad s.heap.size)) 50 [some (.ref (ad 13 0 0)), some (.long (dgF (placeF S j) i.toNat d0)), none, some (.int (i32 j)), some (.int (i32 i))] [] ((setc (thr M 0) 2 S)) := by
    intro j d0 hj kx n
    induction n with
    | zero =>
      intro i h0 h1
      refine r_iload F dX6_digest_50 rfl ?_
      refine r_iconst F dX6_digest_52 ?_
      refine r_icmp_gt (tgt := 77) F dX6_digest_53 (by decide) (by first | assumption | exact ir_of (by omega) (by omega)) (by first | assumption | exact ir_of (by omega) (by omega)) (fun h53 => ?_) (fun h53 => ?_)
      · refine V.kill (lv1 := [_, _, _, _, _]) 4 rfl ?_
        exact kx _ (congrArg (fun n => dgF (placeF S j) n d0) (show i.toNat = 5 by omega))
      · exfalso; omega
    | succ n ih =>
      intro i h0 h1
      refine r_iload F dX6_digest_50 rfl ?_
      refine r_iconst F dX6_digest_52 ?_
      refine r_icmp_gt (tgt := 77) F dX6_digest_53 (by decide) (by first | assumption | exact ir_of (by omega) (by omega)) (by first | assumption | exact ir_of (by omega) (by omega)) (fun h53 => ?_) (fun h53 => ?_)
      · exfalso; omega
      · refine r_lload_n (i := 1) F dX6_digest_56 rfl rfl ?_
        refine r_ldc2 F dX6_digest_57 lcl_X6_190 ?_
        refine r_lmul F dX6_digest_60 ?_
        refine r_aload_n (i := 0) F dX6_digest_61 rfl rfl ?_
        refine r_iload_n (i := 3) F dX6_digest_62 rfl rfl ?_
        refine r_iload F dX6_digest_63 rfl ?_
        refine r_callV F (C_X6_placeTold hI hh ⟨by omega, by omega⟩ ⟨by omega, by omega⟩) dX6_digest_65 lkv_X6_161 rfl rfl rfl rfl rfl cd_X6_placeTold (by decide) ⟨Nat.le_refl _, Nat.le_refl _⟩ (Nat.le_of_ble_eq_true rfl) ?_
        refine r_i2l F dX6_digest_68 ?_
        refine r_ladd F dX6_digest_69 ?_
        refine r_lstore_n (i := 1) (lv1 := [_, _, _, _, _]) F dX6_digest_70 rfl (by decide) rfl rfl ?_
        refine r_iinc (lv1 := [_, _, _, _, _]) F dX6_digest_71 rfl (by decide) rfl rfl ?_
        refine r_goto (tgt := 50) F dX6_digest_74 (by decide) ?_
        have t := ih (i + 1) (by omega) (by omega)
        rw [dgF_S _ _ h0] at t
        exact t
  have op9 : ∀ (n : Nat) (j : Int), 0 ≤ j → j + (n : Int) = 16 → V p l e (RM 7) s m ([.ref (ad 13 0 0)] : List Value).toArray below meth c 5 cy D ad (Aw ad s.heap.size) 0 0 (MQ below (Qn cy D ad s.heap.size (some (.long (dB S))) (setc (thr M 0) 2 S)) ([.ref (ad 13 0 0)] : List Value).toArray s 0 0 (Aw ad s.heap.size)) 41 [some (.ref (ad 13 0 0)), some (.long (dgG (gP S) j.toNat (dC S))), none, some (.int (i32 j)), none] [] ((setc (thr M 0) 2 S)) := by
    intro n
    induction n with
    | zero =>
      intro j h0 h1
      refine r_iload_n (i := 3) F dX6_digest_41 rfl rfl ?_
      refine r_bipush F dX6_digest_42 (by decide) ?_
      refine r_icmp_ge (tgt := 83) F dX6_digest_44 (by decide) (by first | assumption | exact ir_of (by omega) (by omega)) (by first | assumption | exact ir_of (by omega) (by omega)) (fun h44 => ?_) (fun h44 => ?_)
      · refine r_iconst F dX6_digest_83 ?_
        refine r_istore_n (i := 3) (lv1 := [_, _, _, _, _]) F dX6_digest_84 rfl (by decide) rfl rfl ?_
        have e : dgG (gP S) j.toNat (dC S) = dP S := congrArg (fun n => dgG (gP S) n (dC S)) (show j.toNat = 16 by omega)
        rw [e]
        have t := ok 7 0 (by decide) (by decide)
        rw [dgG_0] at t
        exact t
      · exfalso; omega
    | succ n ih =>
      intro j h0 h1
      refine r_iload_n (i := 3) F dX6_digest_41 rfl rfl ?_
      refine r_bipush F dX6_digest_42 (by decide) ?_
      refine r_icmp_ge (tgt := 83) F dX6_digest_44 (by decide) (by first | assumption | exact ir_of (by omega) (by omega)) (by first | assumption | exact ir_of (by omega) (by omega)) (fun h44 => ?_) (fun h44 => ?_)
      · exfalso; omega
      · refine r_iconst F dX6_digest_47 ?_
        refine r_istore (lv1 := [_, _, _, _, _]) F dX6_digest_48 (by decide) rfl rfl ?_
        rw [← dgF_0 (placeF S j) (dgG (gP S) j.toNat (dC S))]
        refine ip j _ ⟨by omega, by omega⟩ (fun d hd => ?_) 5 0 (by decide) (by decide)
        refine r_iinc (lv1 := [_, _, _, _, _]) F dX6_digest_77 rfl (by decide) rfl rfl ?_
        refine r_goto (tgt := 41) F dX6_digest_80 (by decide) ?_
        have t := ih (j + 1) (by omega) (by omega)
        rw [dgG_S _ _ h0, show gP S (dgG (gP S) j.toNat _) j = d from hd.symm] at t
        exact t
  have oc : ∀ (n : Nat) (j : Int), 0 ≤ j → j + (n : Int) = 11 → V p l e (RM 7) s m ([.ref (ad 13 0 0)] : List Value).toArray below meth c 5 cy D ad (Aw ad s.heap.size) 0 0 (MQ below (Qn cy D ad s.heap.size (some (.long (dB S))) (setc (thr M 0) 2 S)) ([.ref (ad 13 0 0)] : List Value).toArray s 0 0 (Aw ad s.heap.size)) 11 [some (.ref (ad 13 0 0)), some (.long (dgF (counted S) j.toNat 1669)), none, some (.int (i32 j)), none] [] ((setc (thr M 0) 2 S)) := by
    intro n
    induction n with
    | zero =>
      intro j h0 h1
      refine r_iload_n (i := 3) F dX6_digest_11 rfl rfl ?_
      refine r_bipush F dX6_digest_12 (by decide) ?_
      refine r_icmp_gt (tgt := 39) F dX6_digest_14 (by decide) (by first | assumption | exact ir_of (by omega) (by omega)) (by first | assumption | exact ir_of (by omega) (by omega)) (fun h14 => ?_) (fun h14 => ?_)
      · refine r_iconst F dX6_digest_39 ?_
        refine r_istore_n (i := 3) (lv1 := [_, _, _, _, _]) F dX6_digest_40 rfl (by decide) rfl rfl ?_
        have e : dgF (counted S) j.toNat 1669 = dC S := congrArg (fun n => dgF (counted S) n 1669) (show j.toNat = 11 by omega)
        rw [e]
        have t := op9 16 0 (by decide) (by decide)
        rw [dgG_0] at t
        exact t
      · exfalso; omega
    | succ n ih =>
      intro j h0 h1
      refine r_iload_n (i := 3) F dX6_digest_11 rfl rfl ?_
      refine r_bipush F dX6_digest_12 (by decide) ?_
      refine r_icmp_gt (tgt := 39) F dX6_digest_14 (by decide) (by first | assumption | exact ir_of (by omega) (by omega)) (by first | assumption | exact ir_of (by omega) (by omega)) (fun h14 => ?_) (fun h14 => ?_)
      · exfalso; omega
      · refine r_lload_n (i := 1) F dX6_digest_17 rfl rfl ?_
        refine r_ldc2 F dX6_digest_18 lcl_X6_190 ?_
        refine r_lmul F dX6_digest_21 ?_
        refine r_aload_n (i := 0) F dX6_digest_22 rfl rfl ?_
        refine gf_X6_10 F dX6_digest_23 ?_
        refine r_iload_n (i := 3) F dX6_digest_26 rfl rfl ?_
        refine r_callV F (C_X5_counted (by decide) hI ⟨by omega, by omega⟩) dX6_digest_27 lkv_X6_167 rfl rfl (dm14 ⟨by decide, by decide⟩) rfl rfl cd_X5_counted (by decide) ⟨Nat.le_refl _, Nat.le_refl _⟩ (Nat.le_of_ble_eq_true rfl) ?_
        refine r_i2l F dX6_digest_30 ?_
        refine r_ladd F dX6_digest_31 ?_
        refine r_lstore_n (i := 1) (lv1 := [_, _, _, _, _]) F dX6_digest_32 rfl (by decide) rfl rfl ?_
        refine r_iinc (lv1 := [_, _, _, _, _]) F dX6_digest_33 rfl (by decide) rfl rfl ?_
        refine r_goto (tgt := 11) F dX6_digest_36 (by decide) ?_
        have t := ih (j + 1) (by omega) (by omega)
        rw [dgF_S _ _ h0] at t
        exact t
  refine r_aload_n (i := 0) F dX6_digest_0 rfl rfl ?_
  refine r_iconst F dX6_digest_1 ?_
  refine pfT F dX6_digest_2 ?_
  refine r_ldc2 F dX6_digest_5 lcl_X6_188 ?_
  refine r_lstore_n (i := 1) (lv1 := [_, _, _, _, _]) F dX6_digest_8 rfl (by decide) rfl rfl ?_
  refine r_iconst F dX6_digest_9 ?_
  refine r_istore_n (i := 3) (lv1 := [_, _, _, _, _]) F dX6_digest_10 rfl (by decide) rfl rfl ?_
  have t := oc 11 0 (by decide) (by decide)
  rw [dgF_0] at t
  exact t
