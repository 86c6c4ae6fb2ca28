/-! The reference: leaves. -/
set_option maxHeartbeats 4000000 in
set_option maxRecDepth 100000 in
theorem C_X5_moonOf {l : Launch} {cy : Nat → ClassId} {D : va_G} {ad : Nat → Nat → Int → Nat} {M : Mem} {n : Int} (h0 : 0 ≤ n) (h1 : n < 2147483648) : Ct l cy D ad yX5_moonOf cX5_moonOf 1 (some .int) 1 [.int (i32 n)] (M) (some (.int (i32 (moonOf n)))) (M) := by
  refine Ct.mk (lv := [some _]) 0 (by decide) rfl (Nat.le_of_ble_eq_true rfl) (fun p e s m below meth c F => ?_)
  refine r_iload_n (i := 0) F dX5_moonOf_0 rfl rfl ?_
  refine r_bipush F dX5_moonOf_1 (by decide) ?_
  refine r_irem F dX5_moonOf_3 (by omega) (by omega) (by decide) (by decide) ?_
  refine r_bipush F dX5_moonOf_4 (by decide) ?_
  refine r_isub F dX5_moonOf_6 ?_
  refine r_mabs F dX5_moonOf_7 lks_X5_101.1.1 lks_X5_101.1.2.1 lks_X5_101.1.2.2 cd_J9_abs_0f7a4 (by decide) (Nat.le_of_ble_eq_true rfl) ⟨Nat.le_refl _, Nat.le_refl _⟩ (by first | assumption | exact ir_of (by omega) (by omega)) ?_
  exact r_iret F dX5_moonOf_10 rfl rfl rfl

set_option maxHeartbeats 4000000 in
set_option maxRecDepth 100000 in
theorem C_X5_moon {l : Launch} {cy : Nat → ClassId} {D : va_G} {ad : Nat → Nat → Int → Nat} {M : Mem} {k : Nat} {S : St} (hc : 2 ≤ k ∧ k < 4) (hh : 0 ≤ S 20 0 ∧ S 20 0 < 1000000) : Ct l cy D ad yX5_moon cX5_moon 1 (some .int) 2 [.ref (ad 14 k 0)] (setc M k S) (some (.int (i32 (mo S)))) (setc M k S) := by
  refine Ct.mk (lv := [some _]) 0 (by decide) rfl (Nat.le_of_ble_eq_true rfl) (fun p e s m below meth c F => ?_)
  refine r_aload_n (i := 0) F dX5_moon_0 rfl rfl ?_
  refine gf_X5_78 F dX5_moon_1 hc ?_
  refine r_bipush F dX5_moon_4 (by decide) ?_
  refine r_idiv F dX5_moon_6 (by omega) (by omega) (by decide) (by decide) ?_
  refine r_callS F (C_X5_moonOf (by omega) (by omega)) dX5_moon_7 lks_X5_107 rfl rfl cd_X5_moonOf (by decide) ⟨Nat.le_refl _, Nat.le_refl _⟩ (Nat.le_of_ble_eq_true rfl) ?_
  exact r_iret F dX5_moon_10 rfl rfl rfl

set_option maxHeartbeats 4000000 in
set_option maxRecDepth 100000 in
theorem C_X5_shown {l : Launch} {cy : Nat → ClassId} {D : va_G} {ad : Nat → Nat → Int → Nat} {M : Mem} {k : Nat} {S : St} {x : Int} (hc : 2 ≤ k ∧ k < 4) (hh : 0 ≤ S 20 0 ∧ S 20 0 < 1000000) (hx : 0 ≤ x ∧ x < 5) : Ct l cy D ad yX5_shown cX5_shown 2 (some .int) 0 [.ref (ad 14 k 0), .int (i32 x)] (setc M k S) (some (.int (i32 (shw S x)))) (setc M k S) := by
  refine Ct.mk (lv := [some _, some _]) 0 (by decide) rfl (Nat.le_of_ble_eq_true rfl) (fun p e s m below meth c F => ?_)
  refine r_aload_n (i := 0) F dX5_shown_0 rfl rfl ?_
  refine gf_X5_27 F dX5_shown_1 hc ?_
  refine r_bipush F dX5_shown_4 (by decide) ?_
  refine r_iload_n (i := 1) F dX5_shown_6 rfl rfl ?_
  refine r_imul F dX5_shown_7 ?_
  refine r_aload_n (i := 0) F dX5_shown_8 rfl rfl ?_
  refine gf_X5_78 F dX5_shown_9 hc ?_
  refine r_bipush F dX5_shown_12 (by decide) ?_
  refine r_irem F dX5_shown_14 (by omega) (by omega) (by decide) (by decide) ?_
  refine r_iadd F dX5_shown_15 ?_
  refine ia_20 F dX5_shown_16 hc (by omega) (by omega) ?_
  exact r_iret F dX5_shown_17 rfl rfl rfl

set_option maxHeartbeats 4000000 in
set_option maxRecDepth 100000 in
theorem C_X5_sight {l : Launch} {cy : Nat → ClassId} {D : va_G} {ad : Nat → Nat → Int → Nat} {M : Mem} {k : Nat} {S : St} {x : Int} (hc : 2 ≤ k ∧ k < 4) (hh : 0 ≤ S 20 0 ∧ S 20 0 < 1000000) (hx : 0 ≤ x ∧ x < 4) : Ct l cy D ad yX5_sight cX5_sight 2 (some .int) 3 [.ref (ad 14 k 0), .int (i32 x)] (setc M k S) (some (.int (i32 (sgP S x)))) (setc M k S) := by
  refine Ct.mk (lv := [some _, some _]) 0 (by decide) rfl (Nat.le_of_ble_eq_true rfl) (fun p e s m below meth c F => ?_)
  have hm := mo_bd S
  refine r_aload_n (i := 0) F dX5_sight_0 rfl rfl ?_
  refine gf_X5_39 F dX5_sight_1 hc ?_
  refine r_iload_n (i := 1) F dX5_sight_4 rfl rfl ?_
  refine ia_24 F dX5_sight_5 hc (by omega) (by omega) ?_
  refine r_aload_n (i := 0) F dX5_sight_6 rfl rfl ?_
  refine r_callV F (C_X5_moon hc hh) dX5_sight_7 lkv_X5_110 rfl rfl (dm14 hc) rfl rfl cd_X5_moon (by decide) ⟨Nat.le_refl _, Nat.le_refl _⟩ (Nat.le_of_ble_eq_true rfl) ?_
  refine r_iconst F dX5_sight_10 ?_
  refine r_idiv F dX5_sight_11 (by omega) (by omega) (by decide) (by decide) ?_
  refine r_iadd F dX5_sight_12 ?_
  exact r_iret F dX5_sight_13 rfl rfl rfl

set_option maxHeartbeats 4000000 in
set_option maxRecDepth 100000 in
theorem C_X5_farSight {l : Launch} {cy : Nat → ClassId} {D : va_G} {ad : Nat → Nat → Int → Nat} {M : Mem} {k : Nat} {S : St} {x : Int} (hc : 2 ≤ k ∧ k < 4) (hh : 0 ≤ S 20 0 ∧ S 20 0 < 1000000) (hx : 0 ≤ x ∧ x < 4) : Ct l cy D ad yX5_farSight cX5_farSight 2 (some .int) 3 [.ref (ad 14 k 0), .int (i32 x)] (setc M k S) (some (.int (i32 (sgL S x)))) (setc M k S) := by
  refine Ct.mk (lv := [some _, some _]) 0 (by decide) rfl (Nat.le_of_ble_eq_true rfl) (fun p e s m below meth c F => ?_)
  refine r_iconst F dX5_farSight_0 ?_
  refine r_aload_n (i := 0) F dX5_farSight_1 rfl rfl ?_
  refine gf_X5_39 F dX5_farSight_2 hc ?_
  refine r_iload_n (i := 1) F dX5_farSight_5 rfl rfl ?_
  refine ia_24 F dX5_farSight_6 hc (by omega) (by omega) ?_
  refine r_imul F dX5_farSight_7 ?_
  refine r_bipush F dX5_farSight_8 (by decide) ?_
  refine r_iadd F dX5_farSight_10 ?_
  refine r_aload_n (i := 0) F dX5_farSight_11 rfl rfl ?_
  refine r_callV F (C_X5_moon hc hh) dX5_farSight_12 lkv_X5_110 rfl rfl (dm14 hc) rfl rfl cd_X5_moon (by decide) ⟨Nat.le_refl _, Nat.le_refl _⟩ (Nat.le_of_ble_eq_true rfl) ?_
  refine r_isub F dX5_farSight_15 ?_
  exact r_iret F dX5_farSight_16 rfl rfl rfl

set_option maxHeartbeats 4000000 in
set_option maxRecDepth 100000 in
theorem C_X5_isKnown {l : Launch} {cy : Nat → ClassId} {D : va_G} {ad : Nat → Nat → Int → Nat} {M : Mem} {k : Nat} {S : St} {x : Int} (hc : 2 ≤ k ∧ k < 4) (hx : 0 ≤ x ∧ x < 8) : Ct l cy D ad yX5_isKnown cX5_isKnown 2 (some .boolean) 0 [.ref (ad 14 k 0), .int (i32 x)] (setc M k S) (some (.int (i32 (bi (kn S x))))) (setc M k S) := by
  refine Ct.mk (lv := [some _, some _]) 0 (by decide) rfl (Nat.le_of_ble_eq_true rfl) (fun p e s m below meth c F => ?_)
  refine r_iload_n (i := 1) F dX5_isKnown_0 rfl rfl ?_
  refine r_if_le (tgt := 18) F dX5_isKnown_1 (by decide) (by first | assumption | exact ir_of (by omega) (by omega)) (fun h1 => ?_) (fun h1 => ?_)
  · refine r_iconst F dX5_isKnown_18 ?_
    exact r_zret F dX5_isKnown_19 rfl (by unfold kn; first | simp [bi, h1, h11] | simp [bi, show ¬ 0 < x by omega]) rfl
  · refine r_aload_n (i := 0) F dX5_isKnown_4 rfl rfl ?_
    refine gf_X5_21 F dX5_isKnown_5 hc ?_
    refine r_iload_n (i := 1) F dX5_isKnown_8 rfl rfl ?_
    refine ia_18 F dX5_isKnown_9 hc (by omega) (by omega) ?_
    refine r_iconst F dX5_isKnown_10 ?_
    refine r_rcmp_lt (tgt := 18) F dX5_isKnown_11 (by decide) (fun h11 => ?_) (fun h11 => ?_)
    · refine r_iconst F dX5_isKnown_18 ?_
      exact r_zret F dX5_isKnown_19 rfl (by unfold kn; first | simp [bi, h1, h11] | simp [bi, show ¬ 0 < x by omega]) rfl
    · refine r_iconst F dX5_isKnown_14 ?_
      refine r_goto (tgt := 19) F dX5_isKnown_15 (by decide) ?_
      exact r_zret F dX5_isKnown_19 rfl (by unfold kn; first | simp [bi, h1, h11] | simp [bi, show ¬ 0 < x by omega]) rfl

set_option maxHeartbeats 4000000 in
set_option maxRecDepth 100000 in
theorem C_X5_isThere {l : Launch} {cy : Nat → ClassId} {D : va_G} {ad : Nat → Nat → Int → Nat} {M : Mem} {k : Nat} {S : St} {x : Int} (hc : 2 ≤ k ∧ k < 4) (hI : Inv S) (hx : 0 ≤ x ∧ x < 6) : Ct l cy D ad yX5_isThere cX5_isThere 2 (some .boolean) 0 [.ref (ad 14 k 0), .int (i32 x)] (setc M k S) (some (.int (i32 (bi (there S x))))) (setc M k S) := by
  refine Ct.mk (lv := [some _, some _]) 0 (by decide) rfl (Nat.le_of_ble_eq_true rfl) (fun p e s m below meth c F => ?_)
  obtain ⟨i13, i14, i15, i16, i17, i18, -⟩ := hI
  have b13 := i13 x
  have b15 := i15 x
  have b18 := i18 x
  refine r_aload_n (i := 0) F dX5_isThere_0 rfl rfl ?_
  refine gf_X5_66 F dX5_isThere_1 hc ?_
  refine r_iload_n (i := 1) F dX5_isThere_4 rfl rfl ?_
  refine ia_33 F dX5_isThere_5 hc (by omega) (by omega) ?_
  refine r_if_ne (tgt := 28) F dX5_isThere_6 (by decide) (by first | assumption | exact ir_of (by omega) (by omega)) (fun h6 => ?_) (fun h6 => ?_)
  · refine r_iconst F dX5_isThere_28 ?_
    exact r_zret F dX5_isThere_29 rfl (by unfold there; simp [bi, *]) rfl
  · refine r_aload_n (i := 0) F dX5_isThere_9 rfl rfl ?_
    refine gf_X5_57 F dX5_isThere_10 hc ?_
    refine r_iload_n (i := 1) F dX5_isThere_13 rfl rfl ?_
    refine ia_30 F dX5_isThere_14 hc (by omega) (by omega) ?_
    refine r_aload_n (i := 0) F dX5_isThere_15 rfl rfl ?_
    refine gf_X5_51 F dX5_isThere_16 hc ?_
    refine r_iload_n (i := 1) F dX5_isThere_19 rfl rfl ?_
    refine ia_28 F dX5_isThere_20 hc (by omega) (by omega) ?_
    refine r_icmp_ne (tgt := 28) F dX5_isThere_21 (by decide) (by first | assumption | exact ir_of (by omega) (by omega)) (by first | assumption | exact ir_of (by omega) (by omega)) (fun h21 => ?_) (fun h21 => ?_)
    · refine r_iconst F dX5_isThere_28 ?_
      exact r_zret F dX5_isThere_29 rfl (by unfold there; simp [bi, *]) rfl
    · refine r_iconst F dX5_isThere_24 ?_
      refine r_goto (tgt := 29) F dX5_isThere_25 (by decide) ?_
      exact r_zret F dX5_isThere_29 rfl (by unfold there; simp [bi, *]) rfl

set_option maxHeartbeats 4000000 in
set_option maxRecDepth 100000 in
theorem C_X5_watchersOfLight {l : Launch} {cy : Nat → ClassId} {D : va_G} {ad : Nat → Nat → Int → Nat} {M : Mem} {k : Nat} {S : St} {x : Int} (hc : 2 ≤ k ∧ k < 4) (hI : Inv S) (hh : 0 ≤ S 20 0 ∧ S 20 0 < 1000000) (hx : 0 ≤ x ∧ x < 5) : Ct l cy D ad yX5_watchersOfLight cX5_watchersOfLight 4 (some .int) 4 [.ref (ad 14 k 0), .int (i32 x)] (setc M k S) (some (.int (i32 (wL S x)))) (setc M k S) := by
  refine Ct.mk (lv := [some _, some _, none, none]) 2 (by decide) rfl (Nat.le_of_ble_eq_true rfl) (fun p e s m below meth c F => ?_)
  obtain ⟨-, -, -, -, -, -, -, -, -, i4, -, iw, i9, -, ic, -⟩ := hI
  have hm := mo_bd S
  have loop : ∀ (n : Nat) (j : Int), 0 ≤ j → j + (n : Int) = S 20 2 → V p l e (RM 4) s m ([.ref (ad 14 k 0), .int (i32 x)] : List Value).toArray below meth c 4 cy D ad (Aw ad s.heap.size) 0 0 (MQ below (Qn cy D ad s.heap.size (some (.int (i32 (wL S x)))) (setc M k S)) ([.ref (ad 14 k 0), .int (i32 x)] : List Value).toArray s 0 0 (Aw ad s.heap.size)) 4 [some (.ref (ad 14 k 0)), some (.int (i32 x)), some (.int (i32 (cnt (seesL S x) j.toNat))), some (.int (i32 j))] [] (setc M k S) := by
    intro n
    induction n with
    | zero =>
      intro j h0 h1
      have bw := iw j
      have b9 := i9 j
      have b4 := i4 x
      have hs : sgL S j = 2 * S 9 j + 6 - mo S := rfl
      have hab : 0 ≤ iabs (S 10 j - S 4 x) ∧ iabs (S 10 j - S 4 x) ≤ 15 := iabs_bd (by omega) (by omega)
      refine r_iload_n (i := 3) F dX5_watchersOfLight_4 rfl rfl ?_
      refine r_aload_n (i := 0) F dX5_watchersOfLight_5 rfl rfl ?_
      refine gf_X5_85 F dX5_watchersOfLight_6 hc ?_
      refine r_icmp_ge (tgt := 50) F dX5_watchersOfLight_9 (by decide) (by first | assumption | exact ir_of (by omega) (by omega)) (by first | assumption | exact ir_of (by omega) (by omega)) (fun h9 => ?_) (fun h9 => ?_)
      · refine r_iload_n (i := 2) F dX5_watchersOfLight_50 rfl rfl ?_
        exact r_iret F dX5_watchersOfLight_51 rfl (by rw [show j = S 20 2 by omega]; rfl) rfl
      · exfalso; omega
    | succ n ih =>
      intro j h0 h1
      have bw := iw j
      have b9 := i9 j
      have b4 := i4 x
      have hs : sgL S j = 2 * S 9 j + 6 - mo S := rfl
      have hab : 0 ≤ iabs (S 10 j - S 4 x) ∧ iabs (S 10 j - S 4 x) ≤ 15 := iabs_bd (by omega) (by omega)
      refine r_iload_n (i := 3) F dX5_watchersOfLight_4 rfl rfl ?_
      refine r_aload_n (i := 0) F dX5_watchersOfLight_5 rfl rfl ?_
      refine gf_X5_85 F dX5_watchersOfLight_6 hc ?_
      refine r_icmp_ge (tgt := 50) F dX5_watchersOfLight_9 (by decide) (by first | assumption | exact ir_of (by omega) (by omega)) (by first | assumption | exact ir_of (by omega) (by omega)) (fun h9 => ?_) (fun h9 => ?_)
      · exfalso; omega
      · refine r_iload_n (i := 2) F dX5_watchersOfLight_12 rfl rfl ?_
        refine r_aload_n (i := 0) F dX5_watchersOfLight_13 rfl rfl ?_
        refine gf_X5_42 F dX5_watchersOfLight_14 hc ?_
        refine r_iload_n (i := 3) F dX5_watchersOfLight_17 rfl rfl ?_
        refine ia_25 F dX5_watchersOfLight_18 hc (by omega) (by omega) ?_
        refine r_aload_n (i := 0) F dX5_watchersOfLight_19 rfl rfl ?_
        refine gf_X5_24 F dX5_watchersOfLight_20 hc ?_
        refine r_iload_n (i := 1) F dX5_watchersOfLight_23 rfl rfl ?_
        refine ia_19 F dX5_watchersOfLight_24 hc (by omega) (by omega) ?_
        refine r_isub F dX5_watchersOfLight_25 ?_
        refine r_mabs F dX5_watchersOfLight_26 lks_X5_101.1.1 lks_X5_101.1.2.1 lks_X5_101.1.2.2 cd_J9_abs_0f7a4 (by decide) (Nat.le_of_ble_eq_true rfl) ⟨Nat.le_refl _, Nat.le_refl _⟩ (by first | assumption | exact ir_of (by omega) (by omega)) ?_
        refine r_aload_n (i := 0) F dX5_watchersOfLight_29 rfl rfl ?_
        refine r_iload_n (i := 3) F dX5_watchersOfLight_30 rfl rfl ?_
        refine r_callV F (C_X5_farSight hc hh ⟨by omega, by omega⟩) dX5_watchersOfLight_31 lkv_X5_114 rfl rfl (dm14 hc) rfl rfl cd_X5_farSight (by decide) ⟨Nat.le_refl _, Nat.le_refl _⟩ (Nat.le_of_ble_eq_true rfl) ?_
        refine r_icmp_gt (tgt := 41) F dX5_watchersOfLight_34 (by decide) (by first | assumption | exact ir_of (by omega) (by omega)) (by first | assumption | exact ir_of (by omega) (by omega)) (fun h34 => ?_) (fun h34 => ?_)
        · refine r_iconst F dX5_watchersOfLight_41 ?_
          refine r_iadd F dX5_watchersOfLight_42 ?_
          refine r_istore_n (i := 2) (lv1 := [_, _, _, _]) F dX5_watchersOfLight_43 rfl (by decide) rfl rfl ?_
          refine r_iinc (lv1 := [_, _, _, _]) F dX5_watchersOfLight_44 rfl (by decide) rfl rfl ?_
          refine r_goto (tgt := 4) F dX5_watchersOfLight_47 (by decide) ?_
          have t := ih (j + 1) (by omega) (by omega)
          rw [cnt_S _ h0] at t
          first | (rw [show (seesL S x) j = true from decide_eq_true (by first | assumption | omega)] at t; exact t) | (rw [show (seesL S x) j = false from decide_eq_false (by first | assumption | omega)] at t; exact t)
        · refine r_iconst F dX5_watchersOfLight_37 ?_
          refine r_goto (tgt := 42) F dX5_watchersOfLight_38 (by decide) ?_
          refine r_iadd F dX5_watchersOfLight_42 ?_
          refine r_istore_n (i := 2) (lv1 := [_, _, _, _]) F dX5_watchersOfLight_43 rfl (by decide) rfl rfl ?_
          refine r_iinc (lv1 := [_, _, _, _]) F dX5_watchersOfLight_44 rfl (by decide) rfl rfl ?_
          refine r_goto (tgt := 4) F dX5_watchersOfLight_47 (by decide) ?_
          have t := ih (j + 1) (by omega) (by omega)
          rw [cnt_S _ h0] at t
          first | (rw [show (seesL S x) j = true from decide_eq_true (by first | assumption | omega)] at t; exact t) | (rw [show (seesL S x) j = false from decide_eq_false (by first | assumption | omega)] at t; exact t)
  refine r_iconst F dX5_watchersOfLight_0 ?_
  refine r_istore_n (i := 2) (lv1 := [_, _, _, _]) F dX5_watchersOfLight_1 rfl (by decide) rfl rfl ?_
  refine r_iconst F dX5_watchersOfLight_2 ?_
  refine r_istore_n (i := 3) (lv1 := [_, _, _, _]) F dX5_watchersOfLight_3 rfl (by decide) rfl rfl ?_
  exact loop (S 20 2).toNat 0 (by omega) (by omega)

set_option maxHeartbeats 4000000 in
set_option maxRecDepth 100000 in
theorem C_X5_watchersOf {l : Launch} {cy : Nat → ClassId} {D : va_G} {ad : Nat → Nat → Int → Nat} {M : Mem} {k : Nat} {S : St} {x : Int} (hc : 2 ≤ k ∧ k < 4) (hI : Inv S) (hh : 0 ≤ S 20 0 ∧ S 20 0 < 1000000) (hx : 0 ≤ x ∧ x < 16) : Ct l cy D ad yX5_watchersOf cX5_watchersOf 4 (some .int) 4 [.ref (ad 14 k 0), .int (i32 x)] (setc M k S) (some (.int (i32 (wP S x)))) (setc M k S) := by
  refine Ct.mk (lv := [some _, some _, none, none]) 2 (by decide) rfl (Nat.le_of_ble_eq_true rfl) (fun p e s m below meth c F => ?_)
  obtain ⟨-, -, -, -, -, -, -, -, -, i4, -, iw, i9, -, ic, -⟩ := hI
  have hm := mo_bd S
  have loop : ∀ (n : Nat) (j : Int), 0 ≤ j → j + (n : Int) = S 20 2 → V p l e (RM 4) s m ([.ref (ad 14 k 0), .int (i32 x)] : List Value).toArray below meth c 4 cy D ad (Aw ad s.heap.size) 0 0 (MQ below (Qn cy D ad s.heap.size (some (.int (i32 (wP S x)))) (setc M k S)) ([.ref (ad 14 k 0), .int (i32 x)] : List Value).toArray s 0 0 (Aw ad s.heap.size)) 4 [some (.ref (ad 14 k 0)), some (.int (i32 x)), some (.int (i32 (cnt (seesP S x) j.toNat))), some (.int (i32 j))] [] (setc M k S) := by
    intro n
    induction n with
    | zero =>
      intro j h0 h1
      have bw := iw j
      have b9 := i9 j
      have hs : sgP S j = S 9 j + mo S / 2 := rfl
      have hab : 0 ≤ iabs (S 10 j - x) ∧ iabs (S 10 j - x) ≤ 15 := iabs_bd (by omega) (by omega)
      refine r_iload_n (i := 3) F dX5_watchersOf_4 rfl rfl ?_
      refine r_aload_n (i := 0) F dX5_watchersOf_5 rfl rfl ?_
      refine gf_X5_85 F dX5_watchersOf_6 hc ?_
      refine r_icmp_ge (tgt := 45) F dX5_watchersOf_9 (by decide) (by first | assumption | exact ir_of (by omega) (by omega)) (by first | assumption | exact ir_of (by omega) (by omega)) (fun h9 => ?_) (fun h9 => ?_)
      · refine r_iload_n (i := 2) F dX5_watchersOf_45 rfl rfl ?_
        exact r_iret F dX5_watchersOf_46 rfl (by rw [show j = S 20 2 by omega]; rfl) rfl
      · exfalso; omega
    | succ n ih =>
      intro j h0 h1
      have bw := iw j
      have b9 := i9 j
      have hs : sgP S j = S 9 j + mo S / 2 := rfl
      have hab : 0 ≤ iabs (S 10 j - x) ∧ iabs (S 10 j - x) ≤ 15 := iabs_bd (by omega) (by omega)
      refine r_iload_n (i := 3) F dX5_watchersOf_4 rfl rfl ?_
      refine r_aload_n (i := 0) F dX5_watchersOf_5 rfl rfl ?_
      refine gf_X5_85 F dX5_watchersOf_6 hc ?_
      refine r_icmp_ge (tgt := 45) F dX5_watchersOf_9 (by decide) (by first | assumption | exact ir_of (by omega) (by omega)) (by first | assumption | exact ir_of (by omega) (by omega)) (fun h9 => ?_) (fun h9 => ?_)
      · exfalso; omega
      · refine r_iload_n (i := 2) F dX5_watchersOf_12 rfl rfl ?_
        refine r_aload_n (i := 0) F dX5_watchersOf_13 rfl rfl ?_
        refine gf_X5_42 F dX5_watchersOf_14 hc ?_
        refine r_iload_n (i := 3) F dX5_watchersOf_17 rfl rfl ?_
        refine ia_25 F dX5_watchersOf_18 hc (by omega) (by omega) ?_
        refine r_iload_n (i := 1) F dX5_watchersOf_19 rfl rfl ?_
        refine r_isub F dX5_watchersOf_20 ?_
        refine r_mabs F dX5_watchersOf_21 lks_X5_101.1.1 lks_X5_101.1.2.1 lks_X5_101.1.2.2 cd_J9_abs_0f7a4 (by decide) (Nat.le_of_ble_eq_true rfl) ⟨Nat.le_refl _, Nat.le_refl _⟩ (by first | assumption | exact ir_of (by omega) (by omega)) ?_
        refine r_aload_n (i := 0) F dX5_watchersOf_24 rfl rfl ?_
        refine r_iload_n (i := 3) F dX5_watchersOf_25 rfl rfl ?_
        refine r_callV F (C_X5_sight hc hh ⟨by omega, by omega⟩) dX5_watchersOf_26 lkv_X5_117 rfl rfl (dm14 hc) rfl rfl cd_X5_sight (by decide) ⟨Nat.le_refl _, Nat.le_refl _⟩ (Nat.le_of_ble_eq_true rfl) ?_
        refine r_icmp_gt (tgt := 36) F dX5_watchersOf_29 (by decide) (by first | assumption | exact ir_of (by omega) (by omega)) (by first | assumption | exact ir_of (by omega) (by omega)) (fun h29 => ?_) (fun h29 => ?_)
        · refine r_iconst F dX5_watchersOf_36 ?_
          refine r_iadd F dX5_watchersOf_37 ?_
          refine r_istore_n (i := 2) (lv1 := [_, _, _, _]) F dX5_watchersOf_38 rfl (by decide) rfl rfl ?_
          refine r_iinc (lv1 := [_, _, _, _]) F dX5_watchersOf_39 rfl (by decide) rfl rfl ?_
          refine r_goto (tgt := 4) F dX5_watchersOf_42 (by decide) ?_
          have t := ih (j + 1) (by omega) (by omega)
          rw [cnt_S _ h0] at t
          first | (rw [show (seesP S x) j = true from decide_eq_true (by first | assumption | omega)] at t; exact t) | (rw [show (seesP S x) j = false from decide_eq_false (by first | assumption | omega)] at t; exact t)
        · refine r_iconst F dX5_watchersOf_32 ?_
          refine r_goto (tgt := 37) F dX5_watchersOf_33 (by decide) ?_
          refine r_iadd F dX5_watchersOf_37 ?_
          refine r_istore_n (i := 2) (lv1 := [_, _, _, _]) F dX5_watchersOf_38 rfl (by decide) rfl rfl ?_
          refine r_iinc (lv1 := [_, _, _, _]) F dX5_watchersOf_39 rfl (by decide) rfl rfl ?_
          refine r_goto (tgt := 4) F dX5_watchersOf_42 (by decide) ?_
          have t := ih (j + 1) (by omega) (by omega)
          rw [cnt_S _ h0] at t
          first | (rw [show (seesP S x) j = true from decide_eq_true (by first | assumption | omega)] at t; exact t) | (rw [show (seesP S x) j = false from decide_eq_false (by first | assumption | omega)] at t; exact t)
  refine r_iconst F dX5_watchersOf_0 ?_
  refine r_istore_n (i := 2) (lv1 := [_, _, _, _]) F dX5_watchersOf_1 rfl (by decide) rfl rfl ?_
  refine r_iconst F dX5_watchersOf_2 ?_
  refine r_istore_n (i := 3) (lv1 := [_, _, _, _]) F dX5_watchersOf_3 rfl (by decide) rfl rfl ?_
  exact loop (S 20 2).toNat 0 (by omega) (by omega)

set_option maxHeartbeats 4000000 in
set_option maxRecDepth 100000 in
theorem C_X5_in {l : Launch} {cy : Nat → ClassId} {D : va_G} {ad : Nat → Nat → Int → Nat} {M : Mem} {k : Nat} {S : St} {x : Int} (hc : 2 ≤ k ∧ k < 4) (hI : Inv S) (hx : 0 ≤ x ∧ x < 3) : Ct l cy D ad yX5_in cX5_in 4 (some .int) 0 [.ref (ad 14 k 0), .int (i32 x)] (setc M k S) (some (.int (i32 (inF S x)))) (setc M k S) := by
  refine Ct.mk (lv := [some _, some _, none, none]) 2 (by decide) rfl (Nat.le_of_ble_eq_true rfl) (fun p e s m below meth c F => ?_)
  obtain ⟨-, -, -, -, -, i18, -, -, -, -, -, -, -, -, ic, -⟩ := hI
  have loop : ∀ (n : Nat) (j : Int), 0 ≤ j → j + (n : Int) = S 20 3 → V p l e (RM 0) s m ([.ref (ad 14 k 0), .int (i32 x)] : List Value).toArray below meth c 4 cy D ad (Aw ad s.heap.size) 0 0 (MQ below (Qn cy D ad s.heap.size (some (.int (i32 (inF S x)))) (setc M k S)) ([.ref (ad 14 k 0), .int (i32 x)] : List Value).toArray s 0 0 (Aw ad s.heap.size)) 4 [some (.ref (ad 14 k 0)), some (.int (i32 x)), some (.int (i32 (cnt (isF S x) j.toNat))), some (.int (i32 j))] [] (setc M k S) := by
    intro n
    induction n with
    | zero =>
      intro j h0 h1
      have b18 := i18 j
      refine r_iload_n (i := 3) F dX5_in_4 rfl rfl ?_
      refine r_aload_n (i := 0) F dX5_in_5 rfl rfl ?_
      refine gf_X5_88 F dX5_in_6 hc ?_
      refine r_icmp_ge (tgt := 36) F dX5_in_9 (by decide) (by first | assumption | exact ir_of (by omega) (by omega)) (by first | assumption | exact ir_of (by omega) (by omega)) (fun h9 => ?_) (fun h9 => ?_)
      · refine r_iload_n (i := 2) F dX5_in_36 rfl rfl ?_
        exact r_iret F dX5_in_37 rfl (by rw [show j = S 20 3 by omega]; rfl) rfl
      · exfalso; omega
    | succ n ih =>
      intro j h0 h1
      have b18 := i18 j
      refine r_iload_n (i := 3) F dX5_in_4 rfl rfl ?_
      refine r_aload_n (i := 0) F dX5_in_5 rfl rfl ?_
      refine gf_X5_88 F dX5_in_6 hc ?_
      refine r_icmp_ge (tgt := 36) F dX5_in_9 (by decide) (by first | assumption | exact ir_of (by omega) (by omega)) (by first | assumption | exact ir_of (by omega) (by omega)) (fun h9 => ?_) (fun h9 => ?_)
      · exfalso; omega
      · refine r_iload_n (i := 2) F dX5_in_12 rfl rfl ?_
        refine r_aload_n (i := 0) F dX5_in_13 rfl rfl ?_
        refine gf_X5_66 F dX5_in_14 hc ?_
        refine r_iload_n (i := 3) F dX5_in_17 rfl rfl ?_
        refine ia_33 F dX5_in_18 hc (by omega) (by omega) ?_
        refine r_iload_n (i := 1) F dX5_in_19 rfl rfl ?_
        refine r_icmp_ne (tgt := 27) F dX5_in_20 (by decide) (by first | assumption | exact ir_of (by omega) (by omega)) (by first | assumption | exact ir_of (by omega) (by omega)) (fun h20 => ?_) (fun h20 => ?_)
        · refine r_iconst F dX5_in_27 ?_
          refine r_iadd F dX5_in_28 ?_
          refine r_istore_n (i := 2) (lv1 := [_, _, _, _]) F dX5_in_29 rfl (by decide) rfl rfl ?_
          refine r_iinc (lv1 := [_, _, _, _]) F dX5_in_30 rfl (by decide) rfl rfl ?_
          refine r_goto (tgt := 4) F dX5_in_33 (by decide) ?_
          have t := ih (j + 1) (by omega) (by omega)
          rw [cnt_S _ h0] at t
          first | (rw [show (isF S x) j = true from decide_eq_true (by first | assumption | omega)] at t; exact t) | (rw [show (isF S x) j = false from decide_eq_false (by first | assumption | omega)] at t; exact t)
        · refine r_iconst F dX5_in_23 ?_
          refine r_goto (tgt := 28) F dX5_in_24 (by decide) ?_
          refine r_iadd F dX5_in_28 ?_
          refine r_istore_n (i := 2) (lv1 := [_, _, _, _]) F dX5_in_29 rfl (by decide) rfl rfl ?_
          refine r_iinc (lv1 := [_, _, _, _]) F dX5_in_30 rfl (by decide) rfl rfl ?_
          refine r_goto (tgt := 4) F dX5_in_33 (by decide) ?_
          have t := ih (j + 1) (by omega) (by omega)
          rw [cnt_S _ h0] at t
          first | (rw [show (isF S x) j = true from decide_eq_true (by first | assumption | omega)] at t; exact t) | (rw [show (isF S x) j = false from decide_eq_false (by first | assumption | omega)] at t; exact t)
  refine r_iconst F dX5_in_0 ?_
  refine r_istore_n (i := 2) (lv1 := [_, _, _, _]) F dX5_in_1 rfl (by decide) rfl rfl ?_
  refine r_iconst F dX5_in_2 ?_
  refine r_istore_n (i := 3) (lv1 := [_, _, _, _]) F dX5_in_3 rfl (by decide) rfl rfl ?_
  exact loop (S 20 3).toNat 0 (by omega) (by omega)

set_option maxHeartbeats 4000000 in
set_option maxRecDepth 100000 in
theorem C_X5_caves {l : Launch} {cy : Nat → ClassId} {D : va_G} {ad : Nat → Nat → Int → Nat} {M : Mem} {k : Nat} {S : St} (hc : 2 ≤ k ∧ k < 4) : Ct l cy D ad yX5_caves cX5_caves 6 (some .int) 0 [.ref (ad 14 k 0)] (setc M k S) (some (.int (i32 (caves S)))) (setc M k S) := by
  refine Ct.mk (lv := [some _, none, none, none, none, none]) 5 (by decide) rfl (Nat.le_of_ble_eq_true rfl) (fun p e s m below meth c F => ?_)
  have loop : ∀ (n : Nat) (j : Int), 0 ≤ j → j + (n : Int) = 16 → V p l e (RM 0) s m ([.ref (ad 14 k 0)] : List Value).toArray below meth c 6 cy D ad (Aw ad s.heap.size) 0 0 (MQ below (Qn cy D ad s.heap.size (some (.int (i32 (caves S)))) (setc M k S)) ([.ref (ad 14 k 0)] : List Value).toArray s 0 0 (Aw ad s.heap.size)) 13 [some (.ref (ad 14 k 0)), some (.int (i32 (sm (S 1) j.toNat))), some (.ref (ad 16 k 0)), some (.int (i32 16)), some (.int (i32 j)), none] [] (setc M k S) := by
    intro n
    induction n with
    | zero =>
      intro j h0 h1
      refine r_iload F dX5_caves_13 rfl ?_
      refine r_iload_n (i := 3) F dX5_caves_15 rfl rfl ?_
      refine r_icmp_ge (tgt := 36) F dX5_caves_16 (by decide) (by first | assumption | exact ir_of (by omega) (by omega)) (by first | assumption | exact ir_of (by omega) (by omega)) (fun h16 => ?_) (fun h16 => ?_)
      · refine r_iload_n (i := 1) F dX5_caves_36 rfl rfl ?_
        exact r_iret F dX5_caves_37 rfl (by rw [show j = 16 by omega]; rfl) rfl
      · exfalso; omega
    | succ n ih =>
      intro j h0 h1
      refine r_iload F dX5_caves_13 rfl ?_
      refine r_iload_n (i := 3) F dX5_caves_15 rfl rfl ?_
      refine r_icmp_ge (tgt := 36) F dX5_caves_16 (by decide) (by first | assumption | exact ir_of (by omega) (by omega)) (by first | assumption | exact ir_of (by omega) (by omega)) (fun h16 => ?_) (fun h16 => ?_)
      · exfalso; omega
      · refine r_aload_n (i := 2) F dX5_caves_19 rfl rfl ?_
        refine r_iload F dX5_caves_20 rfl ?_
        refine ia_16 F dX5_caves_22 hc (by omega) (by omega) ?_
        refine r_istore (lv1 := [_, _, _, _, _, _]) F dX5_caves_23 (by decide) rfl rfl ?_
        refine r_iload_n (i := 1) F dX5_caves_25 rfl rfl ?_
        refine r_iload F dX5_caves_26 rfl ?_
        refine r_iadd F dX5_caves_28 ?_
        refine r_istore_n (i := 1) (lv1 := [_, _, _, _, _, _]) F dX5_caves_29 rfl (by decide) rfl rfl ?_
        refine r_iinc (lv1 := [_, _, _, _, _, _]) F dX5_caves_30 rfl (by decide) rfl rfl ?_
        refine r_goto (tgt := 13) F dX5_caves_33 (by decide) ?_
        have t := ih (j + 1) (by omega) (by omega)
        rw [sm_S _ h0] at t
        exact V.kill (lv1 := [_, _, _, _, _, _]) 5 rfl t
  refine r_iconst F dX5_caves_0 ?_
  refine r_istore_n (i := 1) (lv1 := [_, _, _, _, _, _]) F dX5_caves_1 rfl (by decide) rfl rfl ?_
  refine r_aload_n (i := 0) F dX5_caves_2 rfl rfl ?_
  refine gf_X5_15 F dX5_caves_3 hc ?_
  refine r_astore_n (i := 2) (lv1 := [_, _, _, _, _, _]) F dX5_caves_6 rfl (by decide) rfl rfl ?_
  refine r_aload_n (i := 2) F dX5_caves_7 rfl rfl ?_
  refine al_16 F dX5_caves_8 hc ?_
  refine r_istore_n (i := 3) (lv1 := [_, _, _, _, _, _]) F dX5_caves_9 rfl (by decide) rfl rfl ?_
  refine r_iconst F dX5_caves_10 ?_
  refine r_istore (lv1 := [_, _, _, _, _, _]) F dX5_caves_11 (by decide) rfl rfl ?_
  exact loop 16 0 (by omega) (by omega)

set_option maxHeartbeats 4000000 in
set_option maxRecDepth 100000 in
theorem C_X5_known {l : Launch} {cy : Nat → ClassId} {D : va_G} {ad : Nat → Nat → Int → Nat} {M : Mem} {k : Nat} {S : St} (hc : 2 ≤ k ∧ k < 4) : Ct l cy D ad yX5_known cX5_known 3 (some .int) 1 [.ref (ad 14 k 0)] (setc M k S) (some (.int (i32 (known S)))) (setc M k S) := by
  refine Ct.mk (lv := [some _, none, none]) 2 (by decide) rfl (Nat.le_of_ble_eq_true rfl) (fun p e s m below meth c F => ?_)
  have loop : ∀ (n : Nat) (j : Int), 0 ≤ j → j + (n : Int) = 7 → V p l e (RM 1) s m ([.ref (ad 14 k 0)] : List Value).toArray below meth c 3 cy D ad (Aw ad s.heap.size) 0 0 (MQ below (Qn cy D ad s.heap.size (some (.int (i32 (known S)))) (setc M k S)) ([.ref (ad 14 k 0)] : List Value).toArray s 0 0 (Aw ad s.heap.size)) 4 [some (.ref (ad 14 k 0)), some (.int (i32 (cnt (kn1 S) j.toNat))), some (.int (i32 (j + 1)))] [] (setc M k S) := by
    intro n
    induction n with
    | zero =>
      intro j h0 h1
      refine r_iload_n (i := 2) F dX5_known_4 rfl rfl ?_
      refine r_bipush F dX5_known_5 (by decide) ?_
      refine r_icmp_gt (tgt := 32) F dX5_known_7 (by decide) (by first | assumption | exact ir_of (by omega) (by omega)) (by first | assumption | exact ir_of (by omega) (by omega)) (fun h7 => ?_) (fun h7 => ?_)
      · refine r_iload_n (i := 1) F dX5_known_32 rfl rfl ?_
        exact r_iret F dX5_known_33 rfl (by rw [show j = 7 by omega]; rfl) rfl
      · exfalso; omega
    | succ n ih =>
      intro j h0 h1
      refine r_iload_n (i := 2) F dX5_known_4 rfl rfl ?_
      refine r_bipush F dX5_known_5 (by decide) ?_
      refine r_icmp_gt (tgt := 32) F dX5_known_7 (by decide) (by first | assumption | exact ir_of (by omega) (by omega)) (by first | assumption | exact ir_of (by omega) (by omega)) (fun h7 => ?_) (fun h7 => ?_)
      · exfalso; omega
      · refine r_iload_n (i := 1) F dX5_known_10 rfl rfl ?_
        refine r_aload_n (i := 0) F dX5_known_11 rfl rfl ?_
        refine r_iload_n (i := 2) F dX5_known_12 rfl rfl ?_
        refine r_callV F (C_X5_isKnown hc ⟨by omega, by omega⟩) dX5_known_13 lkv_X5_137 rfl rfl (dm14 hc) rfl rfl cd_X5_isKnown (by decide) ⟨Nat.le_refl _, Nat.le_refl _⟩ (Nat.le_of_ble_eq_true rfl) ?_
        refine r_bz_eq (tgt := 23) F dX5_known_16 (by decide) (fun h16 => ?_) (fun h16 => ?_)
        · refine r_iconst F dX5_known_23 ?_
          refine r_iadd F dX5_known_24 ?_
          refine r_istore_n (i := 1) (lv1 := [_, _, _]) F dX5_known_25 rfl (by decide) rfl rfl ?_
          refine r_iinc (lv1 := [_, _, _]) F dX5_known_26 rfl (by decide) rfl rfl ?_
          refine r_goto (tgt := 4) F dX5_known_29 (by decide) ?_
          have t := ih (j + 1) (by omega) (by omega)
          rw [cnt_S _ h0, show kn1 S j = kn S (j + 1) from rfl, h16] at t
          exact t
        · refine r_iconst F dX5_known_19 ?_
          refine r_goto (tgt := 24) F dX5_known_20 (by decide) ?_
          refine r_iadd F dX5_known_24 ?_
          refine r_istore_n (i := 1) (lv1 := [_, _, _]) F dX5_known_25 rfl (by decide) rfl rfl ?_
          refine r_iinc (lv1 := [_, _, _]) F dX5_known_26 rfl (by decide) rfl rfl ?_
          refine r_goto (tgt := 4) F dX5_known_29 (by decide) ?_
          have t := ih (j + 1) (by omega) (by omega)
          rw [cnt_S _ h0, show kn1 S j = kn S (j + 1) from rfl, h16] at t
          exact t
  refine r_iconst F dX5_known_0 ?_
  refine r_istore_n (i := 1) (lv1 := [_, _, _]) F dX5_known_1 rfl (by decide) rfl rfl ?_
  refine r_iconst F dX5_known_2 ?_
  refine r_istore_n (i := 2) (lv1 := [_, _, _]) F dX5_known_3 rfl (by decide) rfl rfl ?_
  exact loop 7 0 (by omega) (by omega)

set_option maxHeartbeats 4000000 in
set_option maxRecDepth 100000 in
theorem C_X5_counted {l : Launch} {cy : Nat → ClassId} {D : va_G} {ad : Nat → Nat → Int → Nat} {M : Mem} {k : Nat} {S : St} {x : Int} (hc : 2 ≤ k ∧ k < 4) (hI : Inv S) (hx : 0 ≤ x ∧ x ≤ 10) : Ct l cy D ad yX5_counted cX5_counted 2 (some .int) 2 [.ref (ad 14 k 0), .int (i32 x)] (setc M k S) (some (.int (i32 (counted S x)))) (setc M k S) := by
  refine Ct.mk (lv := [some _, some _]) 0 (by decide) rfl (Nat.le_of_ble_eq_true rfl) (fun p e s m below meth c F => ?_)
  refine r_iload_n (i := 1) F dX5_counted_0 rfl rfl ?_
  have hq : x = 0 ∨ x = 1 ∨ x = 2 ∨ x = 3 ∨ x = 4 ∨ x = 5 ∨ x = 6 ∨ x = 7 ∨ x = 8 ∨ x = 9 ∨ x = 10 := by omega
  rcases hq with rfl | rfl | rfl | rfl | rfl | rfl | rfl | rfl | rfl | rfl | rfl
  · refine r_swIn (tgt := 56) F dX5_counted_1 (ir_of (by omega) (by omega)) (by decide) (by decide) rfl (by decide) ?_
    refine r_aload_n (i := 0) F dX5_counted_56 rfl rfl ?_
    refine gf_X5_78 F dX5_counted_57 hc ?_
    exact r_iret F dX5_counted_60 rfl rfl rfl
  · refine r_swIn (tgt := 61) F dX5_counted_1 (ir_of (by omega) (by omega)) (by decide) (by decide) rfl (by decide) ?_
    refine r_aload_n (i := 0) F dX5_counted_61 rfl rfl ?_
    refine gf_X5_82 F dX5_counted_62 hc ?_
    exact r_iret F dX5_counted_65 rfl rfl rfl
  · refine r_swIn (tgt := 66) F dX5_counted_1 (ir_of (by omega) (by omega)) (by decide) (by decide) rfl (by decide) ?_
    refine r_aload_n (i := 0) F dX5_counted_66 rfl rfl ?_
    refine gf_X5_85 F dX5_counted_67 hc ?_
    exact r_iret F dX5_counted_70 rfl rfl rfl
  · refine r_swIn (tgt := 71) F dX5_counted_1 (ir_of (by omega) (by omega)) (by decide) (by decide) rfl (by decide) ?_
    refine r_aload_n (i := 0) F dX5_counted_71 rfl rfl ?_
    refine gf_X5_88 F dX5_counted_72 hc ?_
    exact r_iret F dX5_counted_75 rfl rfl rfl
  · refine r_swIn (tgt := 76) F dX5_counted_1 (ir_of (by omega) (by omega)) (by decide) (by decide) rfl (by decide) ?_
    refine r_aload_n (i := 0) F dX5_counted_76 rfl rfl ?_
    refine r_iconst F dX5_counted_77 ?_
    refine r_callV F (C_X5_in hc hI (by decide)) dX5_counted_78 lkv_X5_159 rfl rfl (dm14 hc) rfl rfl cd_X5_in (by decide) ⟨Nat.le_refl _, Nat.le_refl _⟩ (Nat.le_of_ble_eq_true rfl) ?_
    exact r_iret F dX5_counted_81 rfl rfl rfl
  · refine r_swIn (tgt := 82) F dX5_counted_1 (ir_of (by omega) (by omega)) (by decide) (by decide) rfl (by decide) ?_
    refine r_aload_n (i := 0) F dX5_counted_82 rfl rfl ?_
    refine r_iconst F dX5_counted_83 ?_
    refine r_callV F (C_X5_in hc hI (by decide)) dX5_counted_84 lkv_X5_159 rfl rfl (dm14 hc) rfl rfl cd_X5_in (by decide) ⟨Nat.le_refl _, Nat.le_refl _⟩ (Nat.le_of_ble_eq_true rfl) ?_
    exact r_iret F dX5_counted_87 rfl rfl rfl
  · refine r_swIn (tgt := 88) F dX5_counted_1 (ir_of (by omega) (by omega)) (by decide) (by decide) rfl (by decide) ?_
    refine r_aload_n (i := 0) F dX5_counted_88 rfl rfl ?_
    refine r_iconst F dX5_counted_89 ?_
    refine r_callV F (C_X5_in hc hI (by decide)) dX5_counted_90 lkv_X5_159 rfl rfl (dm14 hc) rfl rfl cd_X5_in (by decide) ⟨Nat.le_refl _, Nat.le_refl _⟩ (Nat.le_of_ble_eq_true rfl) ?_
    exact r_iret F dX5_counted_93 rfl rfl rfl
  · refine r_swIn (tgt := 94) F dX5_counted_1 (ir_of (by omega) (by omega)) (by decide) (by decide) rfl (by decide) ?_
    refine r_aload_n (i := 0) F dX5_counted_94 rfl rfl ?_
    refine r_callV F (C_X5_caves hc) dX5_counted_95 lkv_X5_162 rfl rfl (dm14 hc) rfl rfl cd_X5_caves (by decide) ⟨Nat.le_refl _, Nat.le_refl _⟩ (Nat.le_of_ble_eq_true rfl) ?_
    exact r_iret F dX5_counted_98 rfl rfl rfl
  · refine r_swIn (tgt := 99) F dX5_counted_1 (ir_of (by omega) (by omega)) (by decide) (by decide) rfl (by decide) ?_
    refine r_aload_n (i := 0) F dX5_counted_99 rfl rfl ?_
    refine gf_X5_91 F dX5_counted_100 hc ?_
    exact r_iret F dX5_counted_103 rfl rfl rfl
  · refine r_swIn (tgt := 104) F dX5_counted_1 (ir_of (by omega) (by omega)) (by decide) (by decide) rfl (by decide) ?_
    refine r_aload_n (i := 0) F dX5_counted_104 rfl rfl ?_
    refine gf_X5_94 F dX5_counted_105 hc ?_
    exact r_iret F dX5_counted_108 rfl rfl rfl
  · refine r_swOut (tgt := 109) F dX5_counted_1 (ir_of (by omega) (by omega)) (by omega) (by decide) ?_
    refine r_aload_n (i := 0) F dX5_counted_109 rfl rfl ?_
    refine r_callV F (C_X5_known hc) dX5_counted_110 lkv_X5_165 rfl rfl (dm14 hc) rfl rfl cd_X5_known (by decide) ⟨Nat.le_refl _, Nat.le_refl _⟩ (Nat.le_of_ble_eq_true rfl) ?_
    exact r_iret F dX5_counted_113 rfl rfl rfl

set_option maxHeartbeats 4000000 in
set_option maxRecDepth 100000 in
theorem C_X5_note {l : Launch} {cy : Nat → ClassId} {D : va_G} {ad : Nat → Nat → Int → Nat} {M : Mem} {k : Nat} {S : St} (hc : 2 ≤ k ∧ k < 4) (hI : Inv S) (hh : 0 ≤ S 20 0 ∧ S 20 0 < 1000000) : Ct l cy D ad yX5_note cX5_note 2 none 5 [.ref (ad 14 k 0)] (setc M k S) none (setc M k (go1 S)) := by
  refine Ct.mk (lv := [some _, none]) 1 (by decide) rfl (Nat.le_of_ble_eq_true rfl) (fun p e s m below meth c F => ?_)
  have loop : ∀ (n : Nat) (j : Int) (S1 : St), 0 ≤ j → j + (n : Int) = S 20 1 → S1 = noteN S j.toNat → V p l e (RM 5) s m ([.ref (ad 14 k 0)] : List Value).toArray below meth c 2 cy D ad (Aw ad s.heap.size) 0 0 (MQ below (Qn cy D ad s.heap.size none (setc M k (go1 S))) ([.ref (ad 14 k 0)] : List Value).toArray s 0 0 (Aw ad s.heap.size)) 2 [some (.ref (ad 14 k 0)), some (.int (i32 j))] [] (setc M k S1) := by
    intro n
    induction n with
    | zero =>
      intro j S1 h0 h1 hS
      have hI1 : Inv S1 := by rw [hS]; exact noteN_inv hI _
      have e20 : ∀ i, S1 20 i = S 20 i := fun i => by rw [hS]; exact noteN_k (by decide) (by decide) _
      have hh1 : 0 ≤ S1 20 0 ∧ S1 20 0 < 1000000 := by rw [e20]; exact hh
      have e201 := e20 1
      have ic := hI.pc
      have bs := shw_bd hI1 j
      refine r_iload_n (i := 1) F dX5_note_2 rfl rfl ?_
      refine r_aload_n (i := 0) F dX5_note_3 rfl rfl ?_
      refine gf_X5_82 F dX5_note_4 hc ?_
      refine r_icmp_ge (tgt := 59) F dX5_note_7 (by decide) (by first | assumption | exact ir_of (by omega) (by omega)) (by first | assumption | exact ir_of (by omega) (by omega)) (fun h7 => ?_) (fun h7 => ?_)
      · exact r_vret F dX5_note_59 rfl (by rw [hS, show j = S 20 1 by omega]; rfl)
      · exfalso; omega
    | succ n ih =>
      intro j S1 h0 h1 hS
      have hI1 : Inv S1 := by rw [hS]; exact noteN_inv hI _
      have e20 : ∀ i, S1 20 i = S 20 i := fun i => by rw [hS]; exact noteN_k (by decide) (by decide) _
      have hh1 : 0 ≤ S1 20 0 ∧ S1 20 0 < 1000000 := by rw [e20]; exact hh
      have e201 := e20 1
      have ic := hI.pc
      have bs := shw_bd hI1 j
      refine r_iload_n (i := 1) F dX5_note_2 rfl rfl ?_
      refine r_aload_n (i := 0) F dX5_note_3 rfl rfl ?_
      refine gf_X5_82 F dX5_note_4 hc ?_
      refine r_icmp_ge (tgt := 59) F dX5_note_7 (by decide) (by first | assumption | exact ir_of (by omega) (by omega)) (by first | assumption | exact ir_of (by omega) (by omega)) (fun h7 => ?_) (fun h7 => ?_)
      · exfalso; omega
      · refine r_aload_n (i := 0) F dX5_note_10 rfl rfl ?_
        refine r_iload_n (i := 1) F dX5_note_11 rfl rfl ?_
        refine r_callV F (C_X5_shown hc hh1 ⟨by omega, by omega⟩) dX5_note_12 lkv_X5_120 rfl rfl (dm14 hc) rfl rfl cd_X5_shown (by decide) ⟨Nat.le_refl _, Nat.le_refl _⟩ (Nat.le_of_ble_eq_true rfl) ?_
        refine r_if_eq (tgt := 53) F dX5_note_15 (by decide) (ir_of (by omega) (by omega)) (fun h15 => ?_) (fun h15 => ?_)
        · refine r_iinc (lv1 := [_, _]) F dX5_note_53 rfl (by decide) rfl rfl ?_
          refine r_goto (tgt := 2) F dX5_note_56 (by decide) ?_
          exact ih (j + 1) _ (by omega) (by omega) (by rw [noteN_S _ h0, ← hS]; unfold noteS; first | rw [if_pos (Or.inl h15)] | rw [if_pos (Or.inr h23)] | (rw [if_neg (fun h => h.elim h15 h23)]; rfl))
        · refine r_aload_n (i := 0) F dX5_note_18 rfl rfl ?_
          refine r_iload_n (i := 1) F dX5_note_19 rfl rfl ?_
          refine r_callV F (C_X5_watchersOfLight hc hI1 hh1 ⟨by omega, by omega⟩) dX5_note_20 lkv_X5_123 rfl rfl (dm14 hc) rfl rfl cd_X5_watchersOfLight (by decide) ⟨Nat.le_refl _, Nat.le_refl _⟩ (Nat.le_of_ble_eq_true rfl) ?_
          refine r_if_ne (tgt := 29) F dX5_note_23 (by decide) (by have := cnt_bd (seesL S1 j) (S1 20 2).toNat; have := e20 2; unfold wL; exact ir_of (by omega) (by omega)) (fun h23 => ?_) (fun h23 => ?_)
          · refine r_aload_n (i := 0) F dX5_note_29 rfl rfl ?_
            refine gf_X5_21 F dX5_note_30 hc ?_
            refine r_aload_n (i := 0) F dX5_note_33 rfl rfl ?_
            refine r_iload_n (i := 1) F dX5_note_34 rfl rfl ?_
            refine r_callV F (C_X5_shown hc hh1 ⟨by omega, by omega⟩) dX5_note_35 lkv_X5_120 rfl rfl (dm14 hc) rfl rfl cd_X5_shown (by decide) ⟨Nat.le_refl _, Nat.le_refl _⟩ (Nat.le_of_ble_eq_true rfl) ?_
            refine r_dup2 F dX5_note_38 rfl rfl ?_
            refine ia_18 F dX5_note_39 hc (by omega) (by omega) ?_
            refine r_iconst F dX5_note_40 ?_
            refine r_iadd F dX5_note_41 ?_
            refine is_18 F dX5_note_42 hc (by omega) (by omega) ?_
            refine r_aload_n (i := 0) F dX5_note_43 rfl rfl ?_
            refine gf_X5_30 F dX5_note_44 hc ?_
            refine r_iload_n (i := 1) F dX5_note_47 rfl rfl ?_
            refine r_dup2 F dX5_note_48 rfl rfl ?_
            refine ia_21 F dX5_note_49 hc (by omega) (by omega) ?_
            refine r_iconst F dX5_note_50 ?_
            refine r_iadd F dX5_note_51 ?_
            refine is_21 F dX5_note_52 hc (by omega) (by omega) ?_
            refine r_iinc (lv1 := [_, _]) F dX5_note_53 rfl (by decide) rfl rfl ?_
            refine r_goto (tgt := 2) F dX5_note_56 (by decide) ?_
            exact ih (j + 1) _ (by omega) (by omega) (by rw [noteN_S _ h0, ← hS]; unfold noteS; first | rw [if_pos (Or.inl h15)] | rw [if_pos (Or.inr h23)] | (rw [if_neg (fun h => h.elim h15 h23)]; rfl))
          · refine r_goto (tgt := 53) F dX5_note_26 (by decide) ?_
            refine r_iinc (lv1 := [_, _]) F dX5_note_53 rfl (by decide) rfl rfl ?_
            refine r_goto (tgt := 2) F dX5_note_56 (by decide) ?_
            exact ih (j + 1) _ (by omega) (by omega) (by rw [noteN_S _ h0, ← hS]; unfold noteS; first | rw [if_pos (Or.inl h15)] | rw [if_pos (Or.inr h23)] | (rw [if_neg (fun h => h.elim h15 h23)]; rfl))
  refine r_iconst F dX5_note_0 ?_
  refine r_istore_n (i := 1) (lv1 := [_, _]) F dX5_note_1 rfl (by decide) rfl rfl ?_
  exact loop (S 20 1).toNat 0 S (by have := hI.pc; omega) (by have := hI.pc; omega) rfl

set_option maxHeartbeats 4000000 in
set_option maxRecDepth 100000 in
theorem C_X5_unload {l : Launch} {cy : Nat → ClassId} {D : va_G} {ad : Nat → Nat → Int → Nat} {M : Mem} {k : Nat} {S : St} {x : Int} (hc : 2 ≤ k ∧ k < 4) (hI : Inv S) (hx : 0 ≤ x ∧ x < 6) : Ct l cy D ad yX5_unload cX5_unload 4 (some .int) 1 [.ref (ad 14 k 0), .int (i32 x)] (setc M k S) (some (.int (i32 (unlM S x)))) (setc M k (unlS S x)) := by
  refine Ct.mk (lv := [some _, some _, none, none]) 2 (by decide) rfl (Nat.le_of_ble_eq_true rfl) (fun p e s m below meth c F => ?_)
  have b13 := hI.p13 x
  have b14 := hI.p14 x
  have b01 := hI.p01 (S 13 x)
  refine r_aload_n (i := 0) F dX5_unload_0 rfl rfl ?_
  refine gf_X5_51 F dX5_unload_1 hc ?_
  refine r_iload_n (i := 1) F dX5_unload_4 rfl rfl ?_
  refine ia_28 F dX5_unload_5 hc (by omega) (by omega) ?_
  refine r_istore_n (i := 2) (lv1 := [_, _, _, _]) F dX5_unload_6 rfl (by decide) rfl rfl ?_
  refine r_iconst F dX5_unload_7 ?_
  refine r_aload_n (i := 0) F dX5_unload_8 rfl rfl ?_
  refine gf_X5_54 F dX5_unload_9 hc ?_
  refine r_iload_n (i := 1) F dX5_unload_12 rfl rfl ?_
  refine ia_29 F dX5_unload_13 hc (by omega) (by omega) ?_
  refine r_mmin F dX5_unload_14 lks_X5_126.1.1 lks_X5_126.1.2.1 lks_X5_126.1.2.2 cd_J9_min_7cf53 (by decide) (Nat.le_of_ble_eq_true rfl) ⟨Nat.le_refl _, Nat.le_refl _⟩ (by first | assumption | exact ir_of (by omega) (by omega)) (by first | assumption | exact ir_of (by omega) (by omega)) ?_
  refine r_aload_n (i := 0) F dX5_unload_17 rfl rfl ?_
  refine gf_X5_9 F dX5_unload_18 hc ?_
  refine r_iload_n (i := 2) F dX5_unload_21 rfl rfl ?_
  refine ia_15 F dX5_unload_22 hc (by omega) (by omega) ?_
  refine r_aload_n (i := 0) F dX5_unload_23 rfl rfl ?_
  refine gf_X5_15 F dX5_unload_24 hc ?_
  refine r_iload_n (i := 2) F dX5_unload_27 rfl rfl ?_
  refine ia_16 F dX5_unload_28 hc (by omega) (by omega) ?_
  refine r_isub F dX5_unload_29 ?_
  refine r_mmin F dX5_unload_30 lks_X5_126.1.1 lks_X5_126.1.2.1 lks_X5_126.1.2.2 cd_J9_min_7cf53 (by decide) (Nat.le_of_ble_eq_true rfl) ⟨Nat.le_refl _, Nat.le_refl _⟩ (by first | assumption | exact ir_of (by omega) (by omega)) (by first | assumption | exact ir_of (by omega) (by omega)) ?_
  refine r_istore_n (i := 3) (lv1 := [_, _, _, _]) F dX5_unload_33 rfl (by decide) rfl rfl ?_
  refine r_aload_n (i := 0) F dX5_unload_34 rfl rfl ?_
  refine gf_X5_15 F dX5_unload_35 hc ?_
  refine r_iload_n (i := 2) F dX5_unload_38 rfl rfl ?_
  refine r_dup2 F dX5_unload_39 rfl rfl ?_
  refine ia_16 F dX5_unload_40 hc (by omega) (by omega) ?_
  refine r_iload_n (i := 3) F dX5_unload_41 rfl rfl ?_
  refine r_iadd F dX5_unload_42 ?_
  refine is_16 F dX5_unload_43 hc (by omega) (by omega) ?_
  refine r_aload_n (i := 0) F dX5_unload_44 rfl rfl ?_
  refine gf_X5_54 F dX5_unload_45 hc ?_
  refine r_iload_n (i := 1) F dX5_unload_48 rfl rfl ?_
  refine r_dup2 F dX5_unload_49 rfl rfl ?_
  refine ia_29 F dX5_unload_50 hc (by omega) (by omega) ?_
  refine r_iload_n (i := 3) F dX5_unload_51 rfl rfl ?_
  refine r_isub F dX5_unload_52 ?_
  refine is_29 F dX5_unload_53 hc (by omega) (by omega) ?_
  refine r_aload_n (i := 0) F dX5_unload_54 rfl rfl ?_
  refine gf_X5_69 F dX5_unload_55 hc ?_
  refine r_iload_n (i := 1) F dX5_unload_58 rfl rfl ?_
  refine r_dup2 F dX5_unload_59 rfl rfl ?_
  refine ia_34 F dX5_unload_60 hc (by omega) (by omega) ?_
  refine r_iload_n (i := 3) F dX5_unload_61 rfl rfl ?_
  refine r_iadd F dX5_unload_62 ?_
  refine is_34 F dX5_unload_63 hc (by omega) (by omega) ?_
  refine r_aload_n (i := 0) F dX5_unload_64 rfl rfl ?_
  refine gf_X5_54 F dX5_unload_65 hc ?_
  refine r_iload_n (i := 1) F dX5_unload_68 rfl rfl ?_
  refine ia_29 F dX5_unload_69 hc (by omega) (by omega) ?_
  refine r_if_ne (tgt := 80) F dX5_unload_70 (by decide) (by simp [u2]; exact ir_of (by omega) (by omega)) (fun h70 => ?_) (fun h70 => ?_)
  · refine r_iload_n (i := 3) F dX5_unload_80 rfl rfl ?_
    exact r_iret F dX5_unload_81 rfl rfl (congrArg (setc M k) (by simp [u2] at h70; unfold unlS unlM; first | rw [if_pos (by omega)]; rfl | rw [if_neg (by omega)]; rfl))
  · refine r_aload_n (i := 0) F dX5_unload_73 rfl rfl ?_
    refine gf_X5_66 F dX5_unload_74 hc ?_
    refine r_iload_n (i := 1) F dX5_unload_77 rfl rfl ?_
    refine r_iconst F dX5_unload_78 ?_
    refine is_33 F dX5_unload_79 hc (by omega) (by omega) ?_
    refine r_iload_n (i := 3) F dX5_unload_80 rfl rfl ?_
    exact r_iret F dX5_unload_81 rfl rfl (congrArg (setc M k) (by simp [u2] at h70; unfold unlS unlM; first | rw [if_pos (by omega)]; rfl | rw [if_neg (by omega)]; rfl))

set_option maxHeartbeats 4000000 in
set_option maxRecDepth 100000 in
theorem C_X5_read {l : Launch} {cy : Nat → ClassId} {D : va_G} {ad : Nat → Nat → Int → Nat} {M : Mem} {k : Nat} {S : St} {x : Int} (hc : 2 ≤ k ∧ k < 4) (hI : Inv S) (hh : 0 ≤ S 20 0 ∧ S 20 0 < 1000000) (hx : 0 ≤ x ∧ x < 6) : Ct l cy D ad yX5_read cX5_read 5 none 3 [.ref (ad 14 k 0), .int (i32 x)] (setc M k S) none (setc M k (readS S x)) := by
  refine Ct.mk (lv := [some _, some _, none, none, none]) 3 (by decide) rfl (Nat.le_of_ble_eq_true rfl) (fun p e s m below meth c F => ?_)
  have b13 := hI.p13 x
  have ic := hI.pc
  have hm := mo_bd S
  have loop : ∀ (n : Nat) (j q : Int), 0 ≤ j → j + (n : Int) = S 20 1 → q = bst S x j.toNat → V p l e (RM 3) s m ([.ref (ad 14 k 0), .int (i32 x)] : List Value).toArray below meth c 5 cy D ad (Aw ad s.heap.size) 0 0 (MQ below (Qn cy D ad s.heap.size none (setc M k (readS S x))) ([.ref (ad 14 k 0), .int (i32 x)] : List Value).toArray s 0 0 (Aw ad s.heap.size)) 4 [some (.ref (ad 14 k 0)), some (.int (i32 x)), some (.int (i32 q)), some (.int (i32 j)), none] [] (setc M k S) := by
    intro n
    induction n with
    | zero =>
      intro j q h0 h1 hq
      have b4 := hI.p4 j
      have bs := shw_bd hI j
      have b2 := hI.p2 (shw S j)
      have hab : 0 ≤ iabs (S 4 j - S 13 x) ∧ iabs (S 4 j - S 13 x) ≤ 15 := iabs_bd (by omega) (by omega)
      have bb := bst_bd (S := S) (b := x) j.toNat
      refine r_iload_n (i := 3) F dX5_read_4 rfl rfl ?_
      refine r_aload_n (i := 0) F dX5_read_5 rfl rfl ?_
      refine gf_X5_82 F dX5_read_6 hc ?_
      refine r_icmp_ge (tgt := 101) F dX5_read_9 (by decide) (by first | assumption | exact ir_of (by omega) (by omega)) (by first | assumption | exact ir_of (by omega) (by omega)) (fun h9 => ?_) (fun h9 => ?_)
      · refine r_iload_n (i := 2) F dX5_read_101 rfl rfl ?_
        refine r_iconst F dX5_read_102 ?_
        refine r_icmp_ne (tgt := 107) F dX5_read_103 (by decide) (ir_of (by omega) (by omega)) (ir_of (by omega) (by omega)) (fun h103 => ?_) (fun h103 => ?_)
        · have hq2 : q = bst S x (S 20 1).toNat := by rw [hq, show j = S 20 1 by omega]
          have bq := shw_bd hI q
          refine r_aload_n (i := 0) F dX5_read_107 rfl rfl ?_
          refine gf_X5_60 F dX5_read_108 hc ?_
          refine r_iload_n (i := 1) F dX5_read_111 rfl rfl ?_
          refine r_aload_n (i := 0) F dX5_read_112 rfl rfl ?_
          refine r_iload_n (i := 2) F dX5_read_113 rfl rfl ?_
          refine r_callV F (C_X5_shown hc hh ⟨by omega, by omega⟩) dX5_read_114 lkv_X5_120 rfl rfl (dm14 hc) rfl rfl cd_X5_shown (by decide) ⟨Nat.le_refl _, Nat.le_refl _⟩ (Nat.le_of_ble_eq_true rfl) ?_
          refine is_31 F dX5_read_117 hc (by omega) (by omega) ?_
          refine r_aload_n (i := 0) F dX5_read_118 rfl rfl ?_
          refine gf_X5_57 F dX5_read_119 hc ?_
          refine r_iload_n (i := 1) F dX5_read_122 rfl rfl ?_
          refine r_aload_n (i := 0) F dX5_read_123 rfl rfl ?_
          refine gf_X5_18 F dX5_read_124 hc ?_
          refine r_aload_n (i := 0) F dX5_read_127 rfl rfl ?_
          refine r_iload_n (i := 2) F dX5_read_128 rfl rfl ?_
          refine r_callV F (C_X5_shown hc hh ⟨by omega, by omega⟩) dX5_read_129 lkv_X5_120 rfl rfl (dm14 hc) rfl rfl cd_X5_shown (by decide) ⟨Nat.le_refl _, Nat.le_refl _⟩ (Nat.le_of_ble_eq_true rfl) ?_
          rw [show shw (u2 S 16 x (shw S q)) q = shw S q from rfl]
          refine ia_17 F dX5_read_132 hc (by omega) (by omega) ?_
          refine is_30 F dX5_read_133 hc (by omega) (by omega) ?_
          exact r_vret F dX5_read_134 rfl (congrArg (setc M k) (by unfold readS; rw [← hq2, if_neg h103]; rfl))
        · exact r_vret F dX5_read_106 rfl (congrArg (setc M k) (by unfold readS; rw [← show q = bst S x (S 20 1).toNat by rw [hq, show j = S 20 1 by omega], if_pos h103]))
      · exfalso; omega
    | succ n ih =>
      intro j q h0 h1 hq
      have b4 := hI.p4 j
      have bs := shw_bd hI j
      have b2 := hI.p2 (shw S j)
      have hab : 0 ≤ iabs (S 4 j - S 13 x) ∧ iabs (S 4 j - S 13 x) ≤ 15 := iabs_bd (by omega) (by omega)
      have bb := bst_bd (S := S) (b := x) j.toNat
      have bq4 := hI.p4 q
      have hab2 : 0 ≤ iabs (S 4 q - S 13 x) ∧ iabs (S 4 q - S 13 x) ≤ 15 := iabs_bd (by omega) (by omega)
      refine r_iload_n (i := 3) F dX5_read_4 rfl rfl ?_
      refine r_aload_n (i := 0) F dX5_read_5 rfl rfl ?_
      refine gf_X5_82 F dX5_read_6 hc ?_
      refine r_icmp_ge (tgt := 101) F dX5_read_9 (by decide) (by first | assumption | exact ir_of (by omega) (by omega)) (by first | assumption | exact ir_of (by omega) (by omega)) (fun h9 => ?_) (fun h9 => ?_)
      · exfalso; omega
      · refine r_aload_n (i := 0) F dX5_read_12 rfl rfl ?_
        refine gf_X5_24 F dX5_read_13 hc ?_
        refine r_iload_n (i := 3) F dX5_read_16 rfl rfl ?_
        refine ia_19 F dX5_read_17 hc (by omega) (by omega) ?_
        refine r_aload_n (i := 0) F dX5_read_18 rfl rfl ?_
        refine gf_X5_51 F dX5_read_19 hc ?_
        refine r_iload_n (i := 1) F dX5_read_22 rfl rfl ?_
        refine ia_28 F dX5_read_23 hc (by omega) (by omega) ?_
        refine r_isub F dX5_read_24 ?_
        refine r_mabs F dX5_read_25 lks_X5_101.1.1 lks_X5_101.1.2.1 lks_X5_101.1.2.2 cd_J9_abs_0f7a4 (by decide) (Nat.le_of_ble_eq_true rfl) ⟨Nat.le_refl _, Nat.le_refl _⟩ (by first | assumption | exact ir_of (by omega) (by omega)) ?_
        refine r_istore (lv1 := [_, _, _, _, _]) F dX5_read_28 (by decide) rfl rfl ?_
        refine r_aload_n (i := 0) F dX5_read_30 rfl rfl ?_
        refine r_iload_n (i := 3) F dX5_read_31 rfl rfl ?_
        refine r_callV F (C_X5_shown hc hh ⟨by omega, by omega⟩) dX5_read_32 lkv_X5_120 rfl rfl (dm14 hc) rfl rfl cd_X5_shown (by decide) ⟨Nat.le_refl _, Nat.le_refl _⟩ (Nat.le_of_ble_eq_true rfl) ?_
        refine r_if_eq (tgt := 95) F dX5_read_35 (by decide) (ir_of (by omega) (by omega)) (fun h35 => ?_) (fun h35 => ?_)
        · refine r_iinc (lv1 := [_, _, _, _, _]) F dX5_read_95 rfl (by decide) rfl rfl ?_
          refine r_goto (tgt := 4) F dX5_read_98 (by decide) ?_
          refine V.kill (lv1 := [_, _, _, _, _]) 4 rfl ?_
          exact ih (j + 1) _ (by omega) (by omega) (by rw [bst_S _ _ h0, ← hq]; split <;> rename_i hz <;> first | rfl | (exfalso; rcases hz with h | h | h | h <;> first | exact h35 h | exact h49 h | omega) | exact absurd (by first | exact Or.inl h35 | exact Or.inr (Or.inl h49) | exact Or.inr (Or.inr (Or.inl h61)) | exact Or.inr (Or.inr (Or.inr ⟨by omega, by omega⟩))) hz)
        · refine r_aload_n (i := 0) F dX5_read_38 rfl rfl ?_
          refine gf_X5_18 F dX5_read_39 hc ?_
          refine r_aload_n (i := 0) F dX5_read_42 rfl rfl ?_
          refine r_iload_n (i := 3) F dX5_read_43 rfl rfl ?_
          refine r_callV F (C_X5_shown hc hh ⟨by omega, by omega⟩) dX5_read_44 lkv_X5_120 rfl rfl (dm14 hc) rfl rfl cd_X5_shown (by decide) ⟨Nat.le_refl _, Nat.le_refl _⟩ (Nat.le_of_ble_eq_true rfl) ?_
          refine ia_17 F dX5_read_47 hc (by omega) (by omega) ?_
          refine r_iconst F dX5_read_48 ?_
          refine r_icmp_eq (tgt := 95) F dX5_read_49 (by decide) (by first | assumption | exact ir_of (by omega) (by omega)) (by first | assumption | exact ir_of (by omega) (by omega)) (fun h49 => ?_) (fun h49 => ?_)
          · refine r_iinc (lv1 := [_, _, _, _, _]) F dX5_read_95 rfl (by decide) rfl rfl ?_
            refine r_goto (tgt := 4) F dX5_read_98 (by decide) ?_
            refine V.kill (lv1 := [_, _, _, _, _]) 4 rfl ?_
            exact ih (j + 1) _ (by omega) (by omega) (by rw [bst_S _ _ h0, ← hq]; split <;> rename_i hz <;> first | rfl | (exfalso; rcases hz with h | h | h | h <;> first | exact h35 h | exact h49 h | omega) | exact absurd (by first | exact Or.inl h35 | exact Or.inr (Or.inl h49) | exact Or.inr (Or.inr (Or.inl h61)) | exact Or.inr (Or.inr (Or.inr ⟨by omega, by omega⟩))) hz)
          · refine r_iload F dX5_read_52 rfl ?_
            refine r_bipush F dX5_read_54 (by decide) ?_
            refine r_aload_n (i := 0) F dX5_read_56 rfl rfl ?_
            refine r_callV F (C_X5_moon hc hh) dX5_read_57 lkv_X5_110 rfl rfl (dm14 hc) rfl rfl cd_X5_moon (by decide) ⟨Nat.le_refl _, Nat.le_refl _⟩ (Nat.le_of_ble_eq_true rfl) ?_
            refine r_isub F dX5_read_60 ?_
            refine r_icmp_gt (tgt := 95) F dX5_read_61 (by decide) (by first | assumption | exact ir_of (by omega) (by omega)) (by first | assumption | exact ir_of (by omega) (by omega)) (fun h61 => ?_) (fun h61 => ?_)
            · refine r_iinc (lv1 := [_, _, _, _, _]) F dX5_read_95 rfl (by decide) rfl rfl ?_
              refine r_goto (tgt := 4) F dX5_read_98 (by decide) ?_
              refine V.kill (lv1 := [_, _, _, _, _]) 4 rfl ?_
              exact ih (j + 1) _ (by omega) (by omega) (by rw [bst_S _ _ h0, ← hq]; split <;> rename_i hz <;> first | rfl | (exfalso; rcases hz with h | h | h | h <;> first | exact h35 h | exact h49 h | omega) | exact absurd (by first | exact Or.inl h35 | exact Or.inr (Or.inl h49) | exact Or.inr (Or.inr (Or.inl h61)) | exact Or.inr (Or.inr (Or.inr ⟨by omega, by omega⟩))) hz)
            · refine r_iload_n (i := 2) F dX5_read_64 rfl rfl ?_
              refine r_iconst F dX5_read_65 ?_
              refine r_icmp_eq (tgt := 93) F dX5_read_66 (by decide) (by first | assumption | exact ir_of (by omega) (by omega)) (by first | assumption | exact ir_of (by omega) (by omega)) (fun h66 => ?_) (fun h66 => ?_)
              · refine r_iload_n (i := 3) F dX5_read_93 rfl rfl ?_
                refine r_istore_n (i := 2) (lv1 := [_, _, _, _, _]) F dX5_read_94 rfl (by decide) rfl rfl ?_
                refine r_iinc (lv1 := [_, _, _, _, _]) F dX5_read_95 rfl (by decide) rfl rfl ?_
                refine r_goto (tgt := 4) F dX5_read_98 (by decide) ?_
                refine V.kill (lv1 := [_, _, _, _, _]) 4 rfl ?_
                exact ih (j + 1) _ (by omega) (by omega) (by rw [bst_S _ _ h0, ← hq]; split <;> rename_i hz <;> first | rfl | (exfalso; rcases hz with h | h | h | h <;> first | exact h35 h | exact h49 h | omega) | exact absurd (by first | exact Or.inl h35 | exact Or.inr (Or.inl h49) | exact Or.inr (Or.inr (Or.inl h61)) | exact Or.inr (Or.inr (Or.inr ⟨by omega, by omega⟩))) hz)
              · refine r_iload F dX5_read_69 rfl ?_
                refine r_aload_n (i := 0) F dX5_read_71 rfl rfl ?_
                refine gf_X5_24 F dX5_read_72 hc ?_
                refine r_iload_n (i := 2) F dX5_read_75 rfl rfl ?_
                refine ia_19 F dX5_read_76 hc (by omega) (by omega) ?_
                refine r_aload_n (i := 0) F dX5_read_77 rfl rfl ?_
                refine gf_X5_51 F dX5_read_78 hc ?_
                refine r_iload_n (i := 1) F dX5_read_81 rfl rfl ?_
                refine ia_28 F dX5_read_82 hc (by omega) (by omega) ?_
                refine r_isub F dX5_read_83 ?_
                refine r_mabs F dX5_read_84 lks_X5_101.1.1 lks_X5_101.1.2.1 lks_X5_101.1.2.2 cd_J9_abs_0f7a4 (by decide) (Nat.le_of_ble_eq_true rfl) ⟨Nat.le_refl _, Nat.le_refl _⟩ (by first | assumption | exact ir_of (by omega) (by omega)) ?_
                refine r_icmp_lt (tgt := 93) F dX5_read_87 (by decide) (by first | assumption | exact ir_of (by omega) (by omega)) (by first | assumption | exact ir_of (by omega) (by omega)) (fun h87 => ?_) (fun h87 => ?_)
                · refine r_iload_n (i := 3) F dX5_read_93 rfl rfl ?_
                  refine r_istore_n (i := 2) (lv1 := [_, _, _, _, _]) F dX5_read_94 rfl (by decide) rfl rfl ?_
                  refine r_iinc (lv1 := [_, _, _, _, _]) F dX5_read_95 rfl (by decide) rfl rfl ?_
                  refine r_goto (tgt := 4) F dX5_read_98 (by decide) ?_
                  refine V.kill (lv1 := [_, _, _, _, _]) 4 rfl ?_
                  exact ih (j + 1) _ (by omega) (by omega) (by rw [bst_S _ _ h0, ← hq]; split <;> rename_i hz <;> first | rfl | (exfalso; rcases hz with h | h | h | h <;> first | exact h35 h | exact h49 h | omega) | exact absurd (by first | exact Or.inl h35 | exact Or.inr (Or.inl h49) | exact Or.inr (Or.inr (Or.inl h61)) | exact Or.inr (Or.inr (Or.inr ⟨by omega, by omega⟩))) hz)
                · refine r_goto (tgt := 95) F dX5_read_90 (by decide) ?_
                  refine r_iinc (lv1 := [_, _, _, _, _]) F dX5_read_95 rfl (by decide) rfl rfl ?_
                  refine r_goto (tgt := 4) F dX5_read_98 (by decide) ?_
                  refine V.kill (lv1 := [_, _, _, _, _]) 4 rfl ?_
                  exact ih (j + 1) _ (by omega) (by omega) (by rw [bst_S _ _ h0, ← hq]; split <;> rename_i hz <;> first | rfl | (exfalso; rcases hz with h | h | h | h <;> first | exact h35 h | exact h49 h | omega) | exact absurd (by first | exact Or.inl h35 | exact Or.inr (Or.inl h49) | exact Or.inr (Or.inr (Or.inl h61)) | exact Or.inr (Or.inr (Or.inr ⟨by omega, by omega⟩))) hz)
  refine r_iconst F dX5_read_0 ?_
  refine r_istore_n (i := 2) (lv1 := [_, _, _, _, _]) F dX5_read_1 rfl (by decide) rfl rfl ?_
  refine r_iconst F dX5_read_2 ?_
  refine r_istore_n (i := 3) (lv1 := [_, _, _, _, _]) F dX5_read_3 rfl (by decide) rfl rfl ?_
  exact loop (S 20 1).toNat 0 (-1) (by omega) (by omega) rfl

set_option maxHeartbeats 4000000 in
set_option maxRecDepth 100000 in
theorem C_X5_sail {l : Launch} {cy : Nat → ClassId} {D : va_G} {ad : Nat → Nat → Int → Nat} {M : Mem} {k : Nat} {S : St} {x : Int} (hc : 2 ≤ k ∧ k < 4) (hI : Inv S) (hh : 0 ≤ S 20 0 ∧ S 20 0 < 1000000) (hx : 0 ≤ x ∧ x < 6) : Ct l cy D ad yX5_sail cX5_sail 2 none 4 [.ref (ad 14 k 0), .int (i32 x)] (setc M k S) none (setc M k (sailS S x)) := by
  refine Ct.mk (lv := [some _, some _]) 0 (by decide) rfl (Nat.le_of_ble_eq_true rfl) (fun p e s m below meth c F => ?_)
  have b17 := hI.p17 x
  have K : ∀ S1 : St, Inv S1 → mvS S1 x = sailS S x → V p l e (RM 4) s m ([.ref (ad 14 k 0), .int (i32 x)] : List Value).toArray below meth c 2 cy D ad (Aw ad s.heap.size) 0 0 (MQ below (Qn cy D ad s.heap.size none (setc M k (sailS S x))) ([.ref (ad 14 k 0), .int (i32 x)] : List Value).toArray s 0 0 (Aw ad s.heap.size)) 15 [some (.ref (ad 14 k 0)), some (.int (i32 x))] [] (setc M k S1) := by
    intro S1 hI1 hS
    have b13 := hI1.p13 x
    have b15 := hI1.p15 x
    refine r_aload_n (i := 0) F dX5_sail_15 rfl rfl ?_
    refine gf_X5_57 F dX5_sail_16 hc ?_
    refine r_iload_n (i := 1) F dX5_sail_19 rfl rfl ?_
    refine ia_30 F dX5_sail_20 hc (by omega) (by omega) ?_
    refine r_iconst F dX5_sail_21 ?_
    refine r_icmp_ne (tgt := 26) F dX5_sail_22 (by decide) (by first | assumption | exact ir_of (by omega) (by omega)) (by first | assumption | exact ir_of (by omega) (by omega)) (fun h22 => ?_) (fun h22 => ?_)
    · refine r_aload_n (i := 0) F dX5_sail_26 rfl rfl ?_
      refine gf_X5_51 F dX5_sail_27 hc ?_
      refine r_iload_n (i := 1) F dX5_sail_30 rfl rfl ?_
      refine r_dup2 F dX5_sail_31 rfl rfl ?_
      refine ia_28 F dX5_sail_32 hc (by omega) (by omega) ?_
      refine r_bipush F dX5_sail_33 (by decide) ?_
      refine r_iconst F dX5_sail_35 ?_
      refine r_aload_n (i := 0) F dX5_sail_36 rfl rfl ?_
      refine gf_X5_57 F dX5_sail_37 hc ?_
      refine r_iload_n (i := 1) F dX5_sail_40 rfl rfl ?_
      refine ia_30 F dX5_sail_41 hc (by omega) (by omega) ?_
      refine r_aload_n (i := 0) F dX5_sail_42 rfl rfl ?_
      refine gf_X5_51 F dX5_sail_43 hc ?_
      refine r_iload_n (i := 1) F dX5_sail_46 rfl rfl ?_
      refine ia_28 F dX5_sail_47 hc (by omega) (by omega) ?_
      refine r_isub F dX5_sail_48 ?_
      refine r_mmin F dX5_sail_49 lks_X5_126.1.1 lks_X5_126.1.2.1 lks_X5_126.1.2.2 cd_J9_min_7cf53 (by decide) (Nat.le_of_ble_eq_true rfl) ⟨Nat.le_refl _, Nat.le_refl _⟩ (by first | assumption | exact ir_of (by omega) (by omega)) (by first | assumption | exact ir_of (by omega) (by omega)) ?_
      refine r_mmax F dX5_sail_52 lks_X5_134.1.1 lks_X5_134.1.2.1 lks_X5_134.1.2.2 cd_J9_max_7cf53 (by decide) (Nat.le_of_ble_eq_true rfl) ⟨Nat.le_refl _, Nat.le_refl _⟩ (by first | assumption | exact ir_of (by omega) (by omega)) (by first | assumption | exact ir_of (by omega) (by omega)) ?_
      refine r_iadd F dX5_sail_55 ?_
      refine is_28 F dX5_sail_56 hc (by omega) (by omega) ?_
      exact r_vret F dX5_sail_57 rfl (congrArg (setc M k) (by rw [← hS]; unfold mvS; first | rw [if_pos h22] | rw [if_neg h22]))
    · exact r_vret F dX5_sail_25 rfl (congrArg (setc M k) (by rw [← hS]; unfold mvS; first | rw [if_pos h22] | rw [if_neg h22]))
  refine r_aload_n (i := 0) F dX5_sail_0 rfl rfl ?_
  refine gf_X5_63 F dX5_sail_1 hc ?_
  refine r_iload_n (i := 1) F dX5_sail_4 rfl rfl ?_
  refine ia_32 F dX5_sail_5 hc (by omega) (by omega) ?_
  refine r_iconst F dX5_sail_6 ?_
  refine r_icmp_ne (tgt := 15) F dX5_sail_7 (by decide) (by first | assumption | exact ir_of (by omega) (by omega)) (by first | assumption | exact ir_of (by omega) (by omega)) (fun h7 => ?_) (fun h7 => ?_)
  · exact K _ (by first | exact hI | exact readS_inv hI x) (by unfold sailS; first | rw [if_pos h7] | rw [if_neg h7])
  · refine r_aload_n (i := 0) F dX5_sail_10 rfl rfl ?_
    refine r_iload_n (i := 1) F dX5_sail_11 rfl rfl ?_
    refine r_callV F (C_X5_read hc hI hh hx) dX5_sail_12 lkv_X5_130 rfl rfl (dm14 hc) rfl rfl cd_X5_read (by decide) ⟨Nat.le_refl _, Nat.le_refl _⟩ (Nat.le_of_ble_eq_true rfl) ?_
    exact K _ (by first | exact hI | exact readS_inv hI x) (by unfold sailS; first | rw [if_pos h7] | rw [if_neg h7])

set_option maxHeartbeats 4000000 in
set_option maxRecDepth 100000 in
theorem C_X5_walk {l : Launch} {cy : Nat → ClassId} {D : va_G} {ad : Nat → Nat → Int → Nat} {M : Mem} {k : Nat} {S : St} {x : Int} (hc : 2 ≤ k ∧ k < 4) (hI : Inv S) (hx : 0 ≤ x ∧ x < S 20 2) : Ct l cy D ad yX5_walk cX5_walk 2 none 0 [.ref (ad 14 k 0), .int (i32 x)] (setc M k S) none (setc M k (walkS S x)) := by
  refine Ct.mk (lv := [some _, some _]) 0 (by decide) rfl (Nat.le_of_ble_eq_true rfl) (fun p e s m below meth c F => ?_)
  have bw := hI.pw x
  have b11 := hI.p11 x hx.1 hx.2
  have ic := hI.pc
  refine r_aload_n (i := 0) F dX5_walk_0 rfl rfl ?_
  refine gf_X5_33 F dX5_walk_1 hc ?_
  refine r_iload_n (i := 1) F dX5_walk_4 rfl rfl ?_
  refine ia_22 F dX5_walk_5 hc (by omega) (by omega) ?_
  refine r_aload_n (i := 0) F dX5_walk_6 rfl rfl ?_
  refine gf_X5_36 F dX5_walk_7 hc ?_
  refine r_iload_n (i := 1) F dX5_walk_10 rfl rfl ?_
  refine ia_23 F dX5_walk_11 hc (by omega) (by omega) ?_
  refine r_icmp_ne (tgt := 16) F dX5_walk_12 (by decide) (by first | assumption | exact ir_of (by omega) (by omega)) (by first | assumption | exact ir_of (by omega) (by omega)) (fun h12 => ?_) (fun h12 => ?_)
  · refine r_aload_n (i := 0) F dX5_walk_16 rfl rfl ?_
    refine gf_X5_42 F dX5_walk_17 hc ?_
    refine r_iload_n (i := 1) F dX5_walk_20 rfl rfl ?_
    refine ia_25 F dX5_walk_21 hc (by omega) (by omega) ?_
    refine r_aload_n (i := 0) F dX5_walk_22 rfl rfl ?_
    refine gf_X5_45 F dX5_walk_23 hc ?_
    refine r_iload_n (i := 1) F dX5_walk_26 rfl rfl ?_
    refine ia_26 F dX5_walk_27 hc (by omega) (by omega) ?_
    refine r_if_le (tgt := 40) F dX5_walk_28 (by decide) (by first | assumption | exact ir_of (by omega) (by omega)) (fun h28 => ?_) (fun h28 => ?_)
    · refine r_aload_n (i := 0) F dX5_walk_40 rfl rfl ?_
      refine gf_X5_33 F dX5_walk_41 hc ?_
      refine r_iload_n (i := 1) F dX5_walk_44 rfl rfl ?_
      refine ia_22 F dX5_walk_45 hc (by omega) (by omega) ?_
      refine r_icmp_ne (tgt := 62) F dX5_walk_46 (by decide) (by first | assumption | exact ir_of (by omega) (by omega)) (by first | assumption | exact ir_of (by omega) (by omega)) (fun h46 => ?_) (fun h46 => ?_)
      · refine r_aload_n (i := 0) F dX5_walk_62 rfl rfl ?_
        refine gf_X5_42 F dX5_walk_63 hc ?_
        refine r_iload_n (i := 1) F dX5_walk_66 rfl rfl ?_
        refine r_dup2 F dX5_walk_67 rfl rfl ?_
        refine ia_25 F dX5_walk_68 hc (by omega) (by omega) ?_
        refine r_aload_n (i := 0) F dX5_walk_69 rfl rfl ?_
        refine gf_X5_45 F dX5_walk_70 hc ?_
        refine r_iload_n (i := 1) F dX5_walk_73 rfl rfl ?_
        refine ia_26 F dX5_walk_74 hc (by omega) (by omega) ?_
        refine r_iadd F dX5_walk_75 ?_
        refine is_25 F dX5_walk_76 hc (by omega) (by omega) ?_
        exact r_vret F dX5_walk_77 rfl (congrArg (setc M k) (by unfold walkS; first | rw [if_pos h12] | (rw [if_neg h12, show wg S x = -S 11 x from (by unfold wg; (first | rw [if_pos h28] | rw [if_neg (show ¬ 0 < S 11 x by omega)]); exact if_pos h46), u2_at]; rfl) | rw [if_neg h12, show wg S x = S 11 x from (by unfold wg; (first | rw [if_pos h28] | rw [if_neg (show ¬ 0 < S 11 x by omega)]); exact if_neg h46), u2_self]))
      · refine r_aload_n (i := 0) F dX5_walk_49 rfl rfl ?_
        refine gf_X5_45 F dX5_walk_50 hc ?_
        refine r_iload_n (i := 1) F dX5_walk_53 rfl rfl ?_
        refine r_aload_n (i := 0) F dX5_walk_54 rfl rfl ?_
        refine gf_X5_45 F dX5_walk_55 hc ?_
        refine r_iload_n (i := 1) F dX5_walk_58 rfl rfl ?_
        refine ia_26 F dX5_walk_59 hc (by omega) (by omega) ?_
        refine r_ineg F dX5_walk_60 ?_
        refine is_26 F dX5_walk_61 hc (by omega) (by omega) ?_
        refine r_aload_n (i := 0) F dX5_walk_62 rfl rfl ?_
        refine gf_X5_42 F dX5_walk_63 hc ?_
        refine r_iload_n (i := 1) F dX5_walk_66 rfl rfl ?_
        refine r_dup2 F dX5_walk_67 rfl rfl ?_
        refine ia_25 F dX5_walk_68 hc (by omega) (by omega) ?_
        refine r_aload_n (i := 0) F dX5_walk_69 rfl rfl ?_
        refine gf_X5_45 F dX5_walk_70 hc ?_
        refine r_iload_n (i := 1) F dX5_walk_73 rfl rfl ?_
        refine ia_26 F dX5_walk_74 hc (by omega) (by omega) ?_
        refine r_iadd F dX5_walk_75 ?_
        refine is_25 F dX5_walk_76 hc (by omega) (by omega) ?_
        exact r_vret F dX5_walk_77 rfl (congrArg (setc M k) (by unfold walkS; first | rw [if_pos h12] | (rw [if_neg h12, show wg S x = -S 11 x from (by unfold wg; (first | rw [if_pos h28] | rw [if_neg (show ¬ 0 < S 11 x by omega)]); exact if_pos h46), u2_at]; rfl) | rw [if_neg h12, show wg S x = S 11 x from (by unfold wg; (first | rw [if_pos h28] | rw [if_neg (show ¬ 0 < S 11 x by omega)]); exact if_neg h46), u2_self]))
    · refine r_aload_n (i := 0) F dX5_walk_31 rfl rfl ?_
      refine gf_X5_36 F dX5_walk_32 hc ?_
      refine r_iload_n (i := 1) F dX5_walk_35 rfl rfl ?_
      refine ia_23 F dX5_walk_36 hc (by omega) (by omega) ?_
      refine r_goto (tgt := 46) F dX5_walk_37 (by decide) ?_
      refine r_icmp_ne (tgt := 62) F dX5_walk_46 (by decide) (by first | assumption | exact ir_of (by omega) (by omega)) (by first | assumption | exact ir_of (by omega) (by omega)) (fun h46 => ?_) (fun h46 => ?_)
      · refine r_aload_n (i := 0) F dX5_walk_62 rfl rfl ?_
        refine gf_X5_42 F dX5_walk_63 hc ?_
        refine r_iload_n (i := 1) F dX5_walk_66 rfl rfl ?_
        refine r_dup2 F dX5_walk_67 rfl rfl ?_
        refine ia_25 F dX5_walk_68 hc (by omega) (by omega) ?_
        refine r_aload_n (i := 0) F dX5_walk_69 rfl rfl ?_
        refine gf_X5_45 F dX5_walk_70 hc ?_
        refine r_iload_n (i := 1) F dX5_walk_73 rfl rfl ?_
        refine ia_26 F dX5_walk_74 hc (by omega) (by omega) ?_
        refine r_iadd F dX5_walk_75 ?_
        refine is_25 F dX5_walk_76 hc (by omega) (by omega) ?_
        exact r_vret F dX5_walk_77 rfl (congrArg (setc M k) (by unfold walkS; first | rw [if_pos h12] | (rw [if_neg h12, show wg S x = -S 11 x from (by unfold wg; (first | rw [if_pos h28] | rw [if_neg (show ¬ 0 < S 11 x by omega)]); exact if_pos h46), u2_at]; rfl) | rw [if_neg h12, show wg S x = S 11 x from (by unfold wg; (first | rw [if_pos h28] | rw [if_neg (show ¬ 0 < S 11 x by omega)]); exact if_neg h46), u2_self]))
      · refine r_aload_n (i := 0) F dX5_walk_49 rfl rfl ?_
        refine gf_X5_45 F dX5_walk_50 hc ?_
        refine r_iload_n (i := 1) F dX5_walk_53 rfl rfl ?_
        refine r_aload_n (i := 0) F dX5_walk_54 rfl rfl ?_
        refine gf_X5_45 F dX5_walk_55 hc ?_
        refine r_iload_n (i := 1) F dX5_walk_58 rfl rfl ?_
        refine ia_26 F dX5_walk_59 hc (by omega) (by omega) ?_
        refine r_ineg F dX5_walk_60 ?_
        refine is_26 F dX5_walk_61 hc (by omega) (by omega) ?_
        refine r_aload_n (i := 0) F dX5_walk_62 rfl rfl ?_
        refine gf_X5_42 F dX5_walk_63 hc ?_
        refine r_iload_n (i := 1) F dX5_walk_66 rfl rfl ?_
        refine r_dup2 F dX5_walk_67 rfl rfl ?_
        refine ia_25 F dX5_walk_68 hc (by omega) (by omega) ?_
        refine r_aload_n (i := 0) F dX5_walk_69 rfl rfl ?_
        refine gf_X5_45 F dX5_walk_70 hc ?_
        refine r_iload_n (i := 1) F dX5_walk_73 rfl rfl ?_
        refine ia_26 F dX5_walk_74 hc (by omega) (by omega) ?_
        refine r_iadd F dX5_walk_75 ?_
        refine is_25 F dX5_walk_76 hc (by omega) (by omega) ?_
        exact r_vret F dX5_walk_77 rfl (congrArg (setc M k) (by unfold walkS; first | rw [if_pos h12] | (rw [if_neg h12, show wg S x = -S 11 x from (by unfold wg; (first | rw [if_pos h28] | rw [if_neg (show ¬ 0 < S 11 x by omega)]); exact if_pos h46), u2_at]; rfl) | rw [if_neg h12, show wg S x = S 11 x from (by unfold wg; (first | rw [if_pos h28] | rw [if_neg (show ¬ 0 < S 11 x by omega)]); exact if_neg h46), u2_self]))
  · exact r_vret F dX5_walk_15 rfl (congrArg (setc M k) (by unfold walkS; first | rw [if_pos h12] | (rw [if_neg h12, show wg S x = -S 11 x from (by unfold wg; (first | rw [if_pos h28] | rw [if_neg (show ¬ 0 < S 11 x by omega)]); exact if_pos h46), u2_at]; rfl) | rw [if_neg h12, show wg S x = S 11 x from (by unfold wg; (first | rw [if_pos h28] | rw [if_neg (show ¬ 0 < S 11 x by omega)]); exact if_neg h46), u2_self]))

set_option maxHeartbeats 4000000 in
set_option maxRecDepth 100000 in
theorem C_X5_seize {l : Launch} {cy : Nat → ClassId} {D : va_G} {ad : Nat → Nat → Int → Nat} {M : Mem} {k : Nat} {S : St} {x : Int} (hc : 2 ≤ k ∧ k < 4) (hI : Inv S) (hh : 0 ≤ S 20 0 ∧ S 20 0 < 1000000) (hx : 0 ≤ x ∧ x < S 20 2) : Ct l cy D ad yX5_seize cX5_seize 4 none 4 [.ref (ad 14 k 0), .int (i32 x)] (setc M k S) none (setc M k (seizeS S x)) := by
  refine Ct.mk (lv := [some _, some _, none, none]) 2 (by decide) rfl (Nat.le_of_ble_eq_true rfl) (fun p e s m below meth c F => ?_)
  have bw := hI.pw x
  have b9 := hI.p9 x
  have ic := hI.pc
  have hm := mo_bd S
  have hs : sgP S x = S 9 x + mo S / 2 := rfl
  have loop : ∀ (n : Nat) (j : Int), 0 ≤ j → j + (n : Int) = S 20 3 → (∀ i, 0 ≤ i → i < j → catB S x i = false) → V p l e (RM 4) s m ([.ref (ad 14 k 0), .int (i32 x)] : List Value).toArray below meth c 4 cy D ad (Aw ad s.heap.size) 0 0 (MQ below (Qn cy D ad s.heap.size none (setc M k (seizeS S x))) ([.ref (ad 14 k 0), .int (i32 x)] : List Value).toArray s 0 0 (Aw ad s.heap.size)) 2 [some (.ref (ad 14 k 0)), some (.int (i32 x)), some (.int (i32 j)), none] [] (setc M k S) := by
    intro n
    induction n with
    | zero =>
      intro j h0 h1 hb
      have b13 := hI.p13 j
      have b14 := hI.p14 j
      have b16 := hI.p16 j
      have hab : 0 ≤ iabs (S 10 x - S 13 j) ∧ iabs (S 10 x - S 13 j) ≤ 15 := iabs_bd (by omega) (by omega)
      refine r_iload_n (i := 2) F dX5_seize_2 rfl rfl ?_
      refine r_aload_n (i := 0) F dX5_seize_3 rfl rfl ?_
      refine gf_X5_88 F dX5_seize_4 hc ?_
      refine r_icmp_ge (tgt := 112) F dX5_seize_7 (by decide) (by first | assumption | exact ir_of (by omega) (by omega)) (by first | assumption | exact ir_of (by omega) (by omega)) (fun h7 => ?_) (fun h7 => ?_)
      · exact r_vret F dX5_seize_112 rfl (congrArg (setc M k) (by unfold seizeS; rw [if_pos]; exact fst_none (fun i g1 g2 => hb i g1 (by omega))))
      · exfalso; omega
    | succ n ih =>
      intro j h0 h1 hb
      have b13 := hI.p13 j
      have b14 := hI.p14 j
      have b16 := hI.p16 j
      have hab : 0 ≤ iabs (S 10 x - S 13 j) ∧ iabs (S 10 x - S 13 j) ≤ 15 := iabs_bd (by omega) (by omega)
      refine r_iload_n (i := 2) F dX5_seize_2 rfl rfl ?_
      refine r_aload_n (i := 0) F dX5_seize_3 rfl rfl ?_
      refine gf_X5_88 F dX5_seize_4 hc ?_
      refine r_icmp_ge (tgt := 112) F dX5_seize_7 (by decide) (by first | assumption | exact ir_of (by omega) (by omega)) (by first | assumption | exact ir_of (by omega) (by omega)) (fun h7 => ?_) (fun h7 => ?_)
      · exfalso; omega
      · refine r_aload_n (i := 0) F dX5_seize_10 rfl rfl ?_
        refine r_iload_n (i := 1) F dX5_seize_11 rfl rfl ?_
        refine r_callV F (C_X5_sight hc hh ⟨by omega, by omega⟩) dX5_seize_12 lkv_X5_117 rfl rfl (dm14 hc) rfl rfl cd_X5_sight (by decide) ⟨Nat.le_refl _, Nat.le_refl _⟩ (Nat.le_of_ble_eq_true rfl) ?_
        refine r_aload_n (i := 0) F dX5_seize_15 rfl rfl ?_
        refine r_aload_n (i := 0) F dX5_seize_16 rfl rfl ?_
        refine gf_X5_60 F dX5_seize_17 hc ?_
        refine r_iload_n (i := 2) F dX5_seize_20 rfl rfl ?_
        refine ia_31 F dX5_seize_21 hc (by omega) (by omega) ?_
        refine r_callV F (C_X5_isKnown hc ⟨by omega, by omega⟩) dX5_seize_22 lkv_X5_137 rfl rfl (dm14 hc) rfl rfl cd_X5_isKnown (by decide) ⟨Nat.le_refl _, Nat.le_refl _⟩ (Nat.le_of_ble_eq_true rfl) ?_
        refine r_bz_eq (tgt := 32) F dX5_seize_25 (by decide) (fun h25 => ?_) (fun h25 => ?_)
        · refine r_iconst F dX5_seize_32 ?_
          refine r_iadd F dX5_seize_33 ?_
          refine r_istore_n (i := 3) (lv1 := [_, _, _, _]) F dX5_seize_34 rfl (by decide) rfl rfl ?_
          refine r_aload_n (i := 0) F dX5_seize_35 rfl rfl ?_
          refine r_iload_n (i := 2) F dX5_seize_36 rfl rfl ?_
          refine r_callV F (C_X5_isThere hc hI ⟨by omega, by omega⟩) dX5_seize_37 lkv_X5_141 rfl rfl (dm14 hc) rfl rfl cd_X5_isThere (by decide) ⟨Nat.le_refl _, Nat.le_refl _⟩ (Nat.le_of_ble_eq_true rfl) ?_
          refine r_bz_eq (tgt := 106) F dX5_seize_40 (by decide) (fun h40 => ?_) (fun h40 => ?_)
          · refine r_iinc (lv1 := [_, _, _, _]) F dX5_seize_106 rfl (by decide) rfl rfl ?_
            refine r_goto (tgt := 2) F dX5_seize_109 (by decide) ?_
            refine V.kill (lv1 := [_, _, _, _]) 3 rfl ?_
            exact ih (j + 1) (by omega) (by omega) (fun i g1 g2 => if e : i = j then by subst e; unfold catB; simp [*]; try omega else hb i g1 (by omega))
          · refine r_aload_n (i := 0) F dX5_seize_43 rfl rfl ?_
            refine gf_X5_42 F dX5_seize_44 hc ?_
            refine r_iload_n (i := 1) F dX5_seize_47 rfl rfl ?_
            refine ia_25 F dX5_seize_48 hc (by omega) (by omega) ?_
            refine r_aload_n (i := 0) F dX5_seize_49 rfl rfl ?_
            refine gf_X5_51 F dX5_seize_50 hc ?_
            refine r_iload_n (i := 2) F dX5_seize_53 rfl rfl ?_
            refine ia_28 F dX5_seize_54 hc (by omega) (by omega) ?_
            refine r_isub F dX5_seize_55 ?_
            refine r_mabs F dX5_seize_56 lks_X5_101.1.1 lks_X5_101.1.2.1 lks_X5_101.1.2.2 cd_J9_abs_0f7a4 (by decide) (Nat.le_of_ble_eq_true rfl) ⟨Nat.le_refl _, Nat.le_refl _⟩ (by first | assumption | exact ir_of (by omega) (by omega)) ?_
            refine r_iload_n (i := 3) F dX5_seize_59 rfl rfl ?_
            refine r_icmp_le (tgt := 66) F dX5_seize_60 (by decide) (by first | assumption | exact ir_of (by omega) (by omega)) (by first | assumption | exact ir_of (by omega) (by omega)) (fun h60 => ?_) (fun h60 => ?_)
            · refine r_aload_n (i := 0) F dX5_seize_66 rfl rfl ?_
              refine gf_X5_66 F dX5_seize_67 hc ?_
              refine r_iload_n (i := 2) F dX5_seize_70 rfl rfl ?_
              refine r_iconst F dX5_seize_71 ?_
              refine is_33 F dX5_seize_72 hc (by omega) (by omega) ?_
              refine r_aload_n (i := 0) F dX5_seize_73 rfl rfl ?_
              refine r_dup F dX5_seize_74 rfl ?_
              refine gf_X5_91 F dX5_seize_75 hc ?_
              refine r_aload_n (i := 0) F dX5_seize_78 rfl rfl ?_
              refine gf_X5_54 F dX5_seize_79 hc ?_
              refine r_iload_n (i := 2) F dX5_seize_82 rfl rfl ?_
              refine ia_29 F dX5_seize_83 hc (by omega) (by omega) ?_
              refine r_iadd F dX5_seize_84 ?_
              refine pf_X5_91 F dX5_seize_85 hc ?_
              refine r_aload_n (i := 0) F dX5_seize_88 rfl rfl ?_
              refine gf_X5_54 F dX5_seize_89 hc ?_
              refine r_iload_n (i := 2) F dX5_seize_92 rfl rfl ?_
              refine r_iconst F dX5_seize_93 ?_
              refine is_29 F dX5_seize_94 hc (by omega) (by omega) ?_
              refine r_aload_n (i := 0) F dX5_seize_95 rfl rfl ?_
              refine gf_X5_48 F dX5_seize_96 hc ?_
              refine r_iload_n (i := 1) F dX5_seize_99 rfl rfl ?_
              refine r_dup2 F dX5_seize_100 rfl rfl ?_
              refine ia_27 F dX5_seize_101 hc (by omega) (by omega) ?_
              refine r_iconst F dX5_seize_102 ?_
              refine r_iadd F dX5_seize_103 ?_
              refine is_27 F dX5_seize_104 hc (by omega) (by omega) ?_
              exact r_vret F dX5_seize_105 rfl (congrArg (setc M k) (by have e := fst_at h0 (show catB S x j = true from (by unfold catB; simp [*]; try omega)) hb (n := (S 20 3).toNat) (by omega); unfold seizeS; rw [e, if_neg (by omega)]; exact catS_ref rfl rfl))
            · refine r_goto (tgt := 106) F dX5_seize_63 (by decide) ?_
              refine r_iinc (lv1 := [_, _, _, _]) F dX5_seize_106 rfl (by decide) rfl rfl ?_
              refine r_goto (tgt := 2) F dX5_seize_109 (by decide) ?_
              refine V.kill (lv1 := [_, _, _, _]) 3 rfl ?_
              exact ih (j + 1) (by omega) (by omega) (fun i g1 g2 => if e : i = j then by subst e; unfold catB; simp [*]; try omega else hb i g1 (by omega))
        · refine r_iconst F dX5_seize_28 ?_
          refine r_goto (tgt := 33) F dX5_seize_29 (by decide) ?_
          refine r_iadd F dX5_seize_33 ?_
          refine r_istore_n (i := 3) (lv1 := [_, _, _, _]) F dX5_seize_34 rfl (by decide) rfl rfl ?_
          refine r_aload_n (i := 0) F dX5_seize_35 rfl rfl ?_
          refine r_iload_n (i := 2) F dX5_seize_36 rfl rfl ?_
          refine r_callV F (C_X5_isThere hc hI ⟨by omega, by omega⟩) dX5_seize_37 lkv_X5_141 rfl rfl (dm14 hc) rfl rfl cd_X5_isThere (by decide) ⟨Nat.le_refl _, Nat.le_refl _⟩ (Nat.le_of_ble_eq_true rfl) ?_
          refine r_bz_eq (tgt := 106) F dX5_seize_40 (by decide) (fun h40 => ?_) (fun h40 => ?_)
          · refine r_iinc (lv1 := [_, _, _, _]) F dX5_seize_106 rfl (by decide) rfl rfl ?_
            refine r_goto (tgt := 2) F dX5_seize_109 (by decide) ?_
            refine V.kill (lv1 := [_, _, _, _]) 3 rfl ?_
            exact ih (j + 1) (by omega) (by omega) (fun i g1 g2 => if e : i = j then by subst e; unfold catB; simp [*]; try omega else hb i g1 (by omega))
          · refine r_aload_n (i := 0) F dX5_seize_43 rfl rfl ?_
            refine gf_X5_42 F dX5_seize_44 hc ?_
            refine r_iload_n (i := 1) F dX5_seize_47 rfl rfl ?_
            refine ia_25 F dX5_seize_48 hc (by omega) (by omega) ?_
            refine r_aload_n (i := 0) F dX5_seize_49 rfl rfl ?_
            refine gf_X5_51 F dX5_seize_50 hc ?_
            refine r_iload_n (i := 2) F dX5_seize_53 rfl rfl ?_
            refine ia_28 F dX5_seize_54 hc (by omega) (by omega) ?_
            refine r_isub F dX5_seize_55 ?_
            refine r_mabs F dX5_seize_56 lks_X5_101.1.1 lks_X5_101.1.2.1 lks_X5_101.1.2.2 cd_J9_abs_0f7a4 (by decide) (Nat.le_of_ble_eq_true rfl) ⟨Nat.le_refl _, Nat.le_refl _⟩ (by first | assumption | exact ir_of (by omega) (by omega)) ?_
            refine r_iload_n (i := 3) F dX5_seize_59 rfl rfl ?_
            refine r_icmp_le (tgt := 66) F dX5_seize_60 (by decide) (by first | assumption | exact ir_of (by omega) (by omega)) (by first | assumption | exact ir_of (by omega) (by omega)) (fun h60 => ?_) (fun h60 => ?_)
            · refine r_aload_n (i := 0) F dX5_seize_66 rfl rfl ?_
              refine gf_X5_66 F dX5_seize_67 hc ?_
              refine r_iload_n (i := 2) F dX5_seize_70 rfl rfl ?_
              refine r_iconst F dX5_seize_71 ?_
              refine is_33 F dX5_seize_72 hc (by omega) (by omega) ?_
              refine r_aload_n (i := 0) F dX5_seize_73 rfl rfl ?_
              refine r_dup F dX5_seize_74 rfl ?_
              refine gf_X5_91 F dX5_seize_75 hc ?_
              refine r_aload_n (i := 0) F dX5_seize_78 rfl rfl ?_
              refine gf_X5_54 F dX5_seize_79 hc ?_
              refine r_iload_n (i := 2) F dX5_seize_82 rfl rfl ?_
              refine ia_29 F dX5_seize_83 hc (by omega) (by omega) ?_
              refine r_iadd F dX5_seize_84 ?_
              refine pf_X5_91 F dX5_seize_85 hc ?_
              refine r_aload_n (i := 0) F dX5_seize_88 rfl rfl ?_
              refine gf_X5_54 F dX5_seize_89 hc ?_
              refine r_iload_n (i := 2) F dX5_seize_92 rfl rfl ?_
              refine r_iconst F dX5_seize_93 ?_
              refine is_29 F dX5_seize_94 hc (by omega) (by omega) ?_
              refine r_aload_n (i := 0) F dX5_seize_95 rfl rfl ?_
              refine gf_X5_48 F dX5_seize_96 hc ?_
              refine r_iload_n (i := 1) F dX5_seize_99 rfl rfl ?_
              refine r_dup2 F dX5_seize_100 rfl rfl ?_
              refine ia_27 F dX5_seize_101 hc (by omega) (by omega) ?_
              refine r_iconst F dX5_seize_102 ?_
              refine r_iadd F dX5_seize_103 ?_
              refine is_27 F dX5_seize_104 hc (by omega) (by omega) ?_
              exact r_vret F dX5_seize_105 rfl (congrArg (setc M k) (by have e := fst_at h0 (show catB S x j = true from (by unfold catB; simp [*]; try omega)) hb (n := (S 20 3).toNat) (by omega); unfold seizeS; rw [e, if_neg (by omega)]; exact catS_ref rfl rfl))
            · refine r_goto (tgt := 106) F dX5_seize_63 (by decide) ?_
              refine r_iinc (lv1 := [_, _, _, _]) F dX5_seize_106 rfl (by decide) rfl rfl ?_
              refine r_goto (tgt := 2) F dX5_seize_109 (by decide) ?_
              refine V.kill (lv1 := [_, _, _, _]) 3 rfl ?_
              exact ih (j + 1) (by omega) (by omega) (fun i g1 g2 => if e : i = j then by subst e; unfold catB; simp [*]; try omega else hb i g1 (by omega))
  refine r_iconst F dX5_seize_0 ?_
  refine r_istore_n (i := 2) (lv1 := [_, _, _, _]) F dX5_seize_1 rfl (by decide) rfl rfl ?_
  exact loop (S 20 3).toNat 0 (by omega) (by omega) (fun i g1 g2 => by omega)

set_option maxHeartbeats 4000000 in
set_option maxRecDepth 100000 in
theorem C_X5_go {l : Launch} {cy : Nat → ClassId} {D : va_G} {ad : Nat → Nat → Int → Nat} {M : Mem} {k : Nat} {S : St} (hc : 2 ≤ k ∧ k < 4) (hI : Inv S) (hh : 0 ≤ S 20 0 ∧ S 20 0 < 1000000) : Ct l cy D ad yX5_go cX5_go 3 (some .int) 6 [.ref (ad 14 k 0)] (setc M k S) (some (.int (i32 (goM S)))) (setc M k (go S)) := by
  refine Ct.mk (lv := [some _, none, none]) 2 (by decide) rfl (Nat.le_of_ble_eq_true rfl) (fun p e s m below meth c F => ?_)
  have ic := hI.pc
  have loopb : ∀ (n : Nat) (j : Int) (S1 : St), 0 ≤ j → j + (n : Int) = S 20 2 → S1 = watchN (go2 S) j.toNat → V p l e (RM 6) s m ([.ref (ad 14 k 0)] : List Value).toArray below meth c 3 cy D ad (Aw ad s.heap.size) 0 0 (MQ below (Qn cy D ad s.heap.size (some (.int (i32 (goM S)))) (setc M k (go S))) ([.ref (ad 14 k 0)] : List Value).toArray s 0 0 (Aw ad s.heap.size)) 60 [some (.ref (ad 14 k 0)), some (.int (i32 (goM S))), some (.int (i32 j))] [] (setc M k S1) := by
    intro n
    induction n with
    | zero =>
      intro j S1 h0 h1 hS
      have hI1 : Inv S1 := by rw [hS]; exact watchN_inv (go2_inv hI) _ (by rw [go2_20]; omega)
      have e20 : ∀ i, i ≠ 4 → S1 20 i = S 20 i := fun i hi => by rw [hS, watchN_k (by decide) (by decide) (by decide) (Or.inr hi) (by decide) (by decide), go2_20]
      have e200 := e20 0 (by decide)
      have e202 := e20 2 (by decide)
      have hh1 : 0 ≤ S1 20 0 ∧ S1 20 0 < 1000000 := by omega
      have hI2 : j < S1 20 2 → Inv (walkS S1 j) := fun h => walkS_inv hI1 h0 h
      have f20 : ∀ i, walkS S1 j 20 i = S1 20 i := fun i => walkS_k (by decide) (by decide)
      have f200 := f20 0
      have f202 := f20 2
      refine r_iload_n (i := 2) F dX5_go_60 rfl rfl ?_
      refine r_aload_n (i := 0) F dX5_go_61 rfl rfl ?_
      refine gf_X5_85 F dX5_go_62 hc ?_
      refine r_icmp_ge (tgt := 84) F dX5_go_65 (by decide) (by first | assumption | exact ir_of (by omega) (by omega)) (by first | assumption | exact ir_of (by omega) (by omega)) (fun h65 => ?_) (fun h65 => ?_)
      · refine r_aload_n (i := 0) F dX5_go_84 rfl rfl ?_
        refine r_dup F dX5_go_85 rfl ?_
        refine gf_X5_78 F dX5_go_86 hc ?_
        refine r_iconst F dX5_go_89 ?_
        refine r_iadd F dX5_go_90 ?_
        refine pf_X5_78 F dX5_go_91 hc ?_
        refine r_iload_n (i := 1) F dX5_go_94 rfl rfl ?_
        exact r_iret F dX5_go_95 rfl rfl (congrArg (setc M k) (by rw [show go S = u2 (go3 S) 20 0 (S 20 0 + 1) from rfl, ← show S1 = go3 S from (by rw [hS, show j = S 20 2 by omega]; rfl), ← e200]))
      · exfalso; omega
    | succ n ih =>
      intro j S1 h0 h1 hS
      have hI1 : Inv S1 := by rw [hS]; exact watchN_inv (go2_inv hI) _ (by rw [go2_20]; omega)
      have e20 : ∀ i, i ≠ 4 → S1 20 i = S 20 i := fun i hi => by rw [hS, watchN_k (by decide) (by decide) (by decide) (Or.inr hi) (by decide) (by decide), go2_20]
      have e200 := e20 0 (by decide)
      have e202 := e20 2 (by decide)
      have hh1 : 0 ≤ S1 20 0 ∧ S1 20 0 < 1000000 := by omega
      have hI2 : j < S1 20 2 → Inv (walkS S1 j) := fun h => walkS_inv hI1 h0 h
      have f20 : ∀ i, walkS S1 j 20 i = S1 20 i := fun i => walkS_k (by decide) (by decide)
      have f200 := f20 0
      have f202 := f20 2
      refine r_iload_n (i := 2) F dX5_go_60 rfl rfl ?_
      refine r_aload_n (i := 0) F dX5_go_61 rfl rfl ?_
      refine gf_X5_85 F dX5_go_62 hc ?_
      refine r_icmp_ge (tgt := 84) F dX5_go_65 (by decide) (by first | assumption | exact ir_of (by omega) (by omega)) (by first | assumption | exact ir_of (by omega) (by omega)) (fun h65 => ?_) (fun h65 => ?_)
      · exfalso; omega
      · refine r_aload_n (i := 0) F dX5_go_68 rfl rfl ?_
        refine r_iload_n (i := 2) F dX5_go_69 rfl rfl ?_
        refine r_callV F (C_X5_walk hc hI1 ⟨by omega, by omega⟩) dX5_go_70 lkv_X5_153 rfl rfl (dm14 hc) rfl rfl cd_X5_walk (by decide) ⟨Nat.le_refl _, Nat.le_refl _⟩ (Nat.le_of_ble_eq_true rfl) ?_
        refine r_aload_n (i := 0) F dX5_go_73 rfl rfl ?_
        refine r_iload_n (i := 2) F dX5_go_74 rfl rfl ?_
        refine r_callV F (C_X5_seize hc (hI2 (by omega)) (by omega) ⟨by omega, by omega⟩) dX5_go_75 lkv_X5_156 rfl rfl (dm14 hc) rfl rfl cd_X5_seize (by decide) ⟨Nat.le_refl _, Nat.le_refl _⟩ (Nat.le_of_ble_eq_true rfl) ?_
        refine r_iinc (lv1 := [_, _, _]) F dX5_go_78 rfl (by decide) rfl rfl ?_
        refine r_goto (tgt := 60) F dX5_go_81 (by decide) ?_
        exact ih (j + 1) _ (by omega) (by omega) (by rw [watchN_S _ h0, ← hS]; rfl)
  have loopa : ∀ (n : Nat) (j q : Int) (S1 : St), 0 ≤ j → j + (n : Int) = S 20 3 → S1 = boatN (go1 S) j.toNat → q = boatM (go1 S) j.toNat → V p l e (RM 6) s m ([.ref (ad 14 k 0)] : List Value).toArray below meth c 3 cy D ad (Aw ad s.heap.size) 0 0 (MQ below (Qn cy D ad s.heap.size (some (.int (i32 (goM S)))) (setc M k (go S))) ([.ref (ad 14 k 0)] : List Value).toArray s 0 0 (Aw ad s.heap.size)) 8 [some (.ref (ad 14 k 0)), some (.int (i32 q)), some (.int (i32 j))] [] (setc M k S1) := by
    intro n
    induction n with
    | zero =>
      intro j q S1 h0 h1 hS hq
      have hI1 : Inv S1 := by rw [hS]; exact boatN_inv (go1_inv hI) _
      have e20 : ∀ i, S1 20 i = S 20 i := fun i => by rw [hS, boatN_k (by decide) (by decide) (by decide) (by decide) (by decide) (by decide) (by decide), go1_k (by decide) (by decide)]
      have e200 := e20 0
      have e203 := e20 3
      have hh1 : 0 ≤ S1 20 0 ∧ S1 20 0 < 1000000 := by omega
      have b18 := hI1.p18 j
      refine r_iload_n (i := 2) F dX5_go_8 rfl rfl ?_
      refine r_aload_n (i := 0) F dX5_go_9 rfl rfl ?_
      refine gf_X5_88 F dX5_go_10 hc ?_
      refine r_icmp_ge (tgt := 58) F dX5_go_13 (by decide) (by first | assumption | exact ir_of (by omega) (by omega)) (by first | assumption | exact ir_of (by omega) (by omega)) (fun h13 => ?_) (fun h13 => ?_)
      · refine r_iconst F dX5_go_58 ?_
        refine r_istore_n (i := 2) (lv1 := [_, _, _]) F dX5_go_59 rfl (by decide) rfl rfl ?_
        have e : S1 = go2 S := by rw [hS, show j = S 20 3 by omega]; rfl
        have e2 : q = goM S := by rw [hq, show j = S 20 3 by omega]; rfl
        rw [e, e2]
        exact loopb (S 20 2).toNat 0 _ (by omega) (by omega) rfl
      · exfalso; omega
    | succ n ih =>
      intro j q S1 h0 h1 hS hq
      have hI1 : Inv S1 := by rw [hS]; exact boatN_inv (go1_inv hI) _
      have e20 : ∀ i, S1 20 i = S 20 i := fun i => by rw [hS, boatN_k (by decide) (by decide) (by decide) (by decide) (by decide) (by decide) (by decide), go1_k (by decide) (by decide)]
      have e200 := e20 0
      have e203 := e20 3
      have hh1 : 0 ≤ S1 20 0 ∧ S1 20 0 < 1000000 := by omega
      have b18 := hI1.p18 j
      refine r_iload_n (i := 2) F dX5_go_8 rfl rfl ?_
      refine r_aload_n (i := 0) F dX5_go_9 rfl rfl ?_
      refine gf_X5_88 F dX5_go_10 hc ?_
      refine r_icmp_ge (tgt := 58) F dX5_go_13 (by decide) (by first | assumption | exact ir_of (by omega) (by omega)) (by first | assumption | exact ir_of (by omega) (by omega)) (fun h13 => ?_) (fun h13 => ?_)
      · exfalso; omega
      · refine r_aload_n (i := 0) F dX5_go_16 rfl rfl ?_
        refine gf_X5_66 F dX5_go_17 hc ?_
        refine r_iload_n (i := 2) F dX5_go_20 rfl rfl ?_
        refine ia_33 F dX5_go_21 hc (by omega) (by omega) ?_
        refine r_if_eq (tgt := 28) F dX5_go_22 (by decide) (by first | assumption | exact ir_of (by omega) (by omega)) (fun h22 => ?_) (fun h22 => ?_)
        · refine r_aload_n (i := 0) F dX5_go_28 rfl rfl ?_
          refine r_iload_n (i := 2) F dX5_go_29 rfl rfl ?_
          refine r_callV F (C_X5_isThere hc hI1 ⟨by omega, by omega⟩) dX5_go_30 lkv_X5_141 rfl rfl (dm14 hc) rfl rfl cd_X5_isThere (by decide) ⟨Nat.le_refl _, Nat.le_refl _⟩ (Nat.le_of_ble_eq_true rfl) ?_
          refine r_bz_eq (tgt := 47) F dX5_go_33 (by decide) (fun h33 => ?_) (fun h33 => ?_)
          · refine r_aload_n (i := 0) F dX5_go_47 rfl rfl ?_
            refine r_iload_n (i := 2) F dX5_go_48 rfl rfl ?_
            refine r_callV F (C_X5_sail hc hI1 hh1 ⟨by omega, by omega⟩) dX5_go_49 lkv_X5_150 rfl rfl (dm14 hc) rfl rfl cd_X5_sail (by decide) ⟨Nat.le_refl _, Nat.le_refl _⟩ (Nat.le_of_ble_eq_true rfl) ?_
            refine r_iinc (lv1 := [_, _, _]) F dX5_go_52 rfl (by decide) rfl rfl ?_
            refine r_goto (tgt := 8) F dX5_go_55 (by decide) ?_
            exact ih (j + 1) _ _ (by omega) (by omega) (by rw [boatN_S _ h0, ← hS]; unfold boatS; first | rw [if_pos h22] | (rw [if_neg (by omega)]; first | rw [if_pos (by unfold there at h33; simp at h33; exact h33.2)] | rw [if_neg (by unfold there at h33; simp at h33; omega)])) (by rw [boatM_S _ h0, ← hS, ← hq]; first | rw [if_pos h33] | (rw [if_neg (by rw [h33]; decide), Int.add_zero]) | (rw [if_neg (by unfold there; simp; omega), Int.add_zero]))
          · refine r_iload_n (i := 1) F dX5_go_36 rfl rfl ?_
            refine r_aload_n (i := 0) F dX5_go_37 rfl rfl ?_
            refine r_iload_n (i := 2) F dX5_go_38 rfl rfl ?_
            refine r_callV F (C_X5_unload hc hI1 ⟨by omega, by omega⟩) dX5_go_39 lkv_X5_147 rfl rfl (dm14 hc) rfl rfl cd_X5_unload (by decide) ⟨Nat.le_refl _, Nat.le_refl _⟩ (Nat.le_of_ble_eq_true rfl) ?_
            refine r_iadd F dX5_go_42 ?_
            refine r_istore_n (i := 1) (lv1 := [_, _, _]) F dX5_go_43 rfl (by decide) rfl rfl ?_
            refine r_goto (tgt := 52) F dX5_go_44 (by decide) ?_
            refine r_iinc (lv1 := [_, _, _]) F dX5_go_52 rfl (by decide) rfl rfl ?_
            refine r_goto (tgt := 8) F dX5_go_55 (by decide) ?_
            exact ih (j + 1) _ _ (by omega) (by omega) (by rw [boatN_S _ h0, ← hS]; unfold boatS; first | rw [if_pos h22] | (rw [if_neg (by omega)]; first | rw [if_pos (by unfold there at h33; simp at h33; exact h33.2)] | rw [if_neg (by unfold there at h33; simp at h33; omega)])) (by rw [boatM_S _ h0, ← hS, ← hq]; first | rw [if_pos h33] | (rw [if_neg (by rw [h33]; decide), Int.add_zero]) | (rw [if_neg (by unfold there; simp; omega), Int.add_zero]))
        · refine r_goto (tgt := 52) F dX5_go_25 (by decide) ?_
          refine r_iinc (lv1 := [_, _, _]) F dX5_go_52 rfl (by decide) rfl rfl ?_
          refine r_goto (tgt := 8) F dX5_go_55 (by decide) ?_
          exact ih (j + 1) _ _ (by omega) (by omega) (by rw [boatN_S _ h0, ← hS]; unfold boatS; first | rw [if_pos h22] | (rw [if_neg (by omega)]; first | rw [if_pos (by unfold there at h33; simp at h33; exact h33.2)] | rw [if_neg (by unfold there at h33; simp at h33; omega)])) (by rw [boatM_S _ h0, ← hS, ← hq]; first | rw [if_pos h33] | (rw [if_neg (by rw [h33]; decide), Int.add_zero]) | (rw [if_neg (by unfold there; simp; omega), Int.add_zero]))
  refine r_iconst F dX5_go_0 ?_
  refine r_istore_n (i := 1) (lv1 := [_, _, _]) F dX5_go_1 rfl (by decide) rfl rfl ?_
  refine r_aload_n (i := 0) F dX5_go_2 rfl rfl ?_
  refine r_callV F (C_X5_note hc hI hh) dX5_go_3 lkv_X5_144 rfl rfl (dm14 hc) rfl rfl cd_X5_note (by decide) ⟨Nat.le_refl _, Nat.le_refl _⟩ (Nat.le_of_ble_eq_true rfl) ?_
  refine r_iconst F dX5_go_6 ?_
  refine r_istore_n (i := 2) (lv1 := [_, _, _]) F dX5_go_7 rfl (by decide) rfl rfl ?_
  exact loopa (S 20 3).toNat 0 0 _ (by omega) (by omega) rfl rfl

set_option maxHeartbeats 4000000 in
set_option maxRecDepth 100000 in
theorem C_X5_send {l : Launch} {cy : Nat → ClassId} {D : va_G} {ad : Nat → Nat → Int → Nat} {M : Mem} {k : Nat} {S : St} {x q : Int} (hc : 2 ≤ k ∧ k < 4) (hx : 0 ≤ x ∧ x < 6) (hq : -1 ≤ q ∧ q ≤ 15) : Ct l cy D ad yX5_send cX5_send 3 none 0 [.ref (ad 14 k 0), .int (i32 x), .int (i32 q)] (setc M k S) none (setc M k (sendS S x q)) := by
  refine Ct.mk (lv := [some _, some _, some _]) 0 (by decide) rfl (Nat.le_of_ble_eq_true rfl) (fun p e s m below meth c F => ?_)
  refine r_aload_n (i := 0) F dX5_send_0 rfl rfl ?_
  refine gf_X5_57 F dX5_send_1 hc ?_
  refine r_iload_n (i := 1) F dX5_send_4 rfl rfl ?_
  refine r_iload_n (i := 2) F dX5_send_5 rfl rfl ?_
  refine is_30 F dX5_send_6 hc (by omega) (by omega) ?_
  refine r_aload_n (i := 0) F dX5_send_7 rfl rfl ?_
  refine gf_X5_63 F dX5_send_8 hc ?_
  refine r_iload_n (i := 1) F dX5_send_11 rfl rfl ?_
  refine r_iload_n (i := 2) F dX5_send_12 rfl rfl ?_
  refine r_iconst F dX5_send_13 ?_
  refine r_icmp_ne (tgt := 21) F dX5_send_14 (by decide) (by first | assumption | exact ir_of (by omega) (by omega)) (by first | assumption | exact ir_of (by omega) (by omega)) (fun h14 => ?_) (fun h14 => ?_)
  · refine r_iconst F dX5_send_21 ?_
    refine is_32 F dX5_send_22 hc (by omega) (by omega) ?_
    refine r_aload_n (i := 0) F dX5_send_23 rfl rfl ?_
    refine gf_X5_60 F dX5_send_24 hc ?_
    refine r_iload_n (i := 1) F dX5_send_27 rfl rfl ?_
    refine r_iconst F dX5_send_28 ?_
    refine is_31 F dX5_send_29 hc (by omega) (by omega) ?_
    exact r_vret F dX5_send_30 rfl (congrArg (setc M k) (by unfold sendS; first | rw [if_pos h14] | rw [if_neg h14]))
  · refine r_iconst F dX5_send_17 ?_
    refine r_goto (tgt := 22) F dX5_send_18 (by decide) ?_
    refine is_32 F dX5_send_22 hc (by omega) (by omega) ?_
    refine r_aload_n (i := 0) F dX5_send_23 rfl rfl ?_
    refine gf_X5_60 F dX5_send_24 hc ?_
    refine r_iload_n (i := 1) F dX5_send_27 rfl rfl ?_
    refine r_iconst F dX5_send_28 ?_
    refine is_31 F dX5_send_29 hc (by omega) (by omega) ?_
    exact r_vret F dX5_send_30 rfl (congrArg (setc M k) (by unfold sendS; first | rw [if_pos h14] | rw [if_neg h14]))
