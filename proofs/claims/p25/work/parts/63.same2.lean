/-! The coast by hand held against the class. -/
section JR
variable {p : Program} {l : Launch} {e : Env} {R : Room} {s : State} {m : MethodId} {args : Array Value} {below : List Frame} {meth : Method} {c : Code} {nL : Nat} {cy : Nat → ClassId} {D : va_G} {ad : Nat → Nat → Int → Nat} {A : Nat → Prop} {kc ks : Nat} {Q : State → Prop} {pc : Nat} {lv : List (Option Value)} {st : List Value} {M : Mem} {cc : ByteArray} {ret : Option FieldType} {own : String} {S T : St}
theorem r_lcmpE (F : Fx p s m args meth c own cc nL ret cy D ad A) {x : Int64} (d : decode cc pc = .ok (.lcmp, 1)) (kk : V p l e R s m args below meth c nL cy D ad A kc ks Q (pc + 1) lv (.int (i32 0) :: st) M) : V p l e R s m args below meth c nL cy D ad A kc ks Q pc lv (.long x :: .long x :: st) M := by
  obtain ⟨hx, hb, -⟩ := F
  intro H locs ls hP hS hl
  refine W.lcmp hx hb d ?_
  rw [show lg_cmp x x = i32 0 from by unfold lg_cmp; rw [if_neg (by intro h; rw [gt_iff_lt, Int64.lt_iff_toInt_lt] at h; omega), if_pos rfl]; rfl]
  exact kk H locs ls hP hS hl
theorem r_dcmpE (F : Fx p s m args meth c own cc nL ret cy D ad A) {x : UInt64} (d : decode cc pc = .ok (.dcmp .l, 1)) (h : Op.cmpValue (FP.dcmp x x) .l = 0) (kk : V p l e R s m args below meth c nL cy D ad A kc ks Q (pc + 1) lv (.int (i32 0) :: st) M) : V p l e R s m args below meth c nL cy D ad A kc ks Q pc lv (.double x :: .double x :: st) M := by
  obtain ⟨hx, hb, -⟩ := F
  intro H locs ls hP hS hl
  refine lv_dcmp hx hb d ?_
  rw [h]
  exact kk H locs ls hP hS hl
end JR
theorem mean_cmp {S : St} (hI : Inv S) : Op.cmpValue (FP.dcmp (meanF S) (meanF S)) .l = 0 := by
  have ic := hI.pc
  have ib := cnt_bd (isF S 0) (S 20 3).toNat
  have ib2 : 0 ≤ inF S 0 ∧ inF S 0 ≤ 6 := by unfold inF; omega
  have sb := sm_bd (f := balF S) (B := 20) (fun i => by have := hI.p14 i; unfold balF; split <;> omega) (S 20 3).toNat
  unfold meanF
  by_cases h : inF S 0 = 0
  · rw [if_pos h]; exact fp_zero
  · rw [if_neg h]
    exact (fp_two (by omega) (by omega)).2
set_option maxHeartbeats 4000000 in
set_option maxRecDepth 100000 in
theorem C_X5_isSame {l : Launch} {cy : Nat → ClassId} {D : va_G} {ad : Nat → Nat → Int → Nat} {M : Mem} {S : St}  (hsh : Sh ad S) (hI : Inv S) (hh9 : 0 ≤ S 20 0 ∧ S 20 0 < 9000) (hM0 : M 0 = S) (hz29 : ad 40 29 0 ≠ 1) (hz32 : ad 40 32 0 ≠ 1) (hz30 : ad 40 30 0 ≠ 1) : Cm l cy D ad yX5_isSame cX5_isSame 10 (some FieldType.boolean) 6 49 311 [.ref (ad 13 2 0), .ref (ad 0 0 0)] (setc M 2 S) (some (.int (i32 (bi true)))) (setc M 2 S) := by
  refine Cm.mk (lv := [some _, some _, none, none, none, none, none, none, none, none]) 8 (by decide) rfl (Nat.le_of_ble_eq_true rfl) (fun p e s m below meth c F => ?_)
  have hsh9 := hsh
  obtain ⟨hs, hn1, hn2, hn3⟩ := hsh
  have ic := hI.pc
  have hh : 0 ≤ S 20 0 ∧ S 20 0 < 1000000 := ⟨hh9.1, by omega⟩
  have hhc : 0 ≤ S 20 0 ∧ S 20 0 < 900000 := ⟨hh9.1, by omega⟩
  have ib := cnt_bd (isF S 0) (S 20 3).toNat
  have ib2 : 0 ≤ inF S 0 ∧ inF S 0 ≤ 6 := by unfold inF; omega
  have sb := sm_bd (f := balF S) (B := 20) (fun i => by have := hI.p14 i; unfold balF; split <;> omega) (S 20 3).toNat
  have h7 : V p l e { frames := 6, cells := 49, slots := 311, locals := 30 * 6 } s m ([.ref (ad 13 2 0), .ref (ad 0 0 0)] : List Value).toArray below meth c 10 cy D ad (Aw ad s.heap.size) 49 311 (MQ below (Qn cy D ad s.heap.size (some (.int (i32 (bi true)))) (setc M 2 S)) ([.ref (ad 13 2 0), .ref (ad 0 0 0)] : List Value).toArray s 49 311 (Aw ad s.heap.size)) 770 [some (.ref (ad 13 2 0)), some (.ref (ad 0 0 0)), some (.int (i32 (sm (balF S) (S 20 3).toNat))), none, none, none, none, none, none, none] [] (setc M 2 S) := by
    refine r_aload_n (i := 1) F dX5_isSame_770 rfl rfl ?_
    refine r_aload_n (i := 0) F dX5_isSame_771 rfl rfl ?_
    refine gf_X5_40 F dX5_isSame_772 hs ?_
    refine r_bipush F dX5_isSame_775 (by decide) ?_
    refine r_idiv F dX5_isSame_777 (by omega) (by omega) (by decide) (by decide) ?_
    refine r_callV F (K_X4_moon (show (setc M 2 S) 0 = S from hM0) hI ⟨by omega, by omega⟩) dX5_isSame_778 lkv_X5_113 rfl rfl rfl rfl rfl cd_X4_moon (by decide) ⟨by show _ ≤ 49; omega, by show _ ≤ 311; omega⟩ (Nat.le_of_ble_eq_true rfl) ?_
    refine r_aload_n (i := 0) F dX5_isSame_781 rfl rfl ?_
    refine r_callV F (C_X5_moon hsh9 hh) dX5_isSame_782 lkv_X5_58 rfl rfl (dm13 hs) rfl rfl cd_X5_moon (by decide) ⟨by show _ ≤ 49; omega, by show _ ≤ 311; omega⟩ (Nat.le_of_ble_eq_true rfl) ?_
    refine r_cne (tgt := 821) F dX5_isSame_785 (by decide) rfl ?_
    refine r_aload_n (i := 1) F dX5_isSame_788 rfl rfl ?_
    refine r_callV F (K_X4_mean (show (setc M 2 S) 0 = S from hM0) hI) dX5_isSame_789 lkv_X5_115 rfl rfl rfl rfl rfl cd_X4_mean (by decide) ⟨by show _ ≤ 49; omega, by show _ ≤ 311; omega⟩ (Nat.le_of_ble_eq_true rfl) ?_
    refine r_aload_n (i := 0) F dX5_isSame_792 rfl rfl ?_
    refine r_iconst F dX5_isSame_793 ?_
    refine r_callV F (C_X5_in (q := 0) hsh9 hI (by decide)) dX5_isSame_794 lkv_X5_81 rfl rfl (dm13 hs) rfl rfl cd_X5_in (by decide) ⟨by show _ ≤ 49; omega, by show _ ≤ 311; omega⟩ (Nat.le_of_ble_eq_true rfl) ?_
    refine r_if_ne (tgt := 804) F dX5_isSame_797 (by decide) (ir_of (by omega) (by omega)) (fun h797 => ?_) (fun h797 => ?_)
    · refine r_iload_n (i := 2) F dX5_isSame_804 rfl rfl ?_
      refine r_i2d F dX5_isSame_805 ?_
      refine r_aload_n (i := 0) F dX5_isSame_806 rfl rfl ?_
      refine r_iconst F dX5_isSame_807 ?_
      refine r_callV F (C_X5_in (q := 0) hsh9 hI (by decide)) dX5_isSame_808 lkv_X5_81 rfl rfl (dm13 hs) rfl rfl cd_X5_in (by decide) ⟨by show _ ≤ 49; omega, by show _ ≤ 311; omega⟩ (Nat.le_of_ble_eq_true rfl) ?_
      refine r_i2d F dX5_isSame_811 ?_
      refine r_ddiv F dX5_isSame_812 (fp_two (by omega) (by omega)).1 ?_
      refine V.cg (st1 := [.double (meanF S), .double (meanF S)]) rfl (by unfold meanF; first | (rw [if_pos h797] <;> rfl) | (rw [if_neg h797] <;> rfl)) ?_
      refine r_dcmpE F dX5_isSame_813 (mean_cmp hI) ?_
      refine r_if_ne (tgt := 821) F dX5_isSame_814 (by decide) (by first | assumption | exact ir_of (by omega) (by omega)) (fun h814 => ?_) (fun h814 => ?_)
      · exfalso; omega
      · refine r_iconst F dX5_isSame_817 ?_
        refine r_goto (tgt := 822) F dX5_isSame_818 (by decide) ?_
        exact r_zret F dX5_isSame_822 rfl rfl rfl
    · refine r_dconst0 F dX5_isSame_800 ?_
      refine r_goto (tgt := 813) F dX5_isSame_801 (by decide) ?_
      refine V.cg (st1 := [.double (meanF S), .double (meanF S)]) rfl (by unfold meanF; first | (rw [if_pos h797] <;> rfl) | (rw [if_neg h797] <;> rfl)) ?_
      refine r_dcmpE F dX5_isSame_813 (mean_cmp hI) ?_
      refine r_if_ne (tgt := 821) F dX5_isSame_814 (by decide) (by first | assumption | exact ir_of (by omega) (by omega)) (fun h814 => ?_) (fun h814 => ?_)
      · exfalso; omega
      · refine r_iconst F dX5_isSame_817 ?_
        refine r_goto (tgt := 822) F dX5_isSame_818 (by decide) ?_
        exact r_zret F dX5_isSame_822 rfl rfl rfl
  have h6 : ∀ (n : Nat) (j : Int), 0 ≤ j → j + (n : Int) = S 20 3 → V p l e { frames := 6, cells := 49, slots := 311, locals := 30 * 6 } s m ([.ref (ad 13 2 0), .ref (ad 0 0 0)] : List Value).toArray below meth c 10 cy D ad (Aw ad s.heap.size) (43 + j.toNat) (269 + 7 * j.toNat) (MQ below (Qn cy D ad s.heap.size (some (.int (i32 (bi true)))) (setc M 2 S)) ([.ref (ad 13 2 0), .ref (ad 0 0 0)] : List Value).toArray s 49 311 (Aw ad s.heap.size)) 598 [some (.ref (ad 13 2 0)), some (.ref (ad 0 0 0)), some (.int (i32 (sm (balF S) (j).toNat))), some (.int (i32 j)), none, none, none, none, none, none] [] (setc M 2 S) := by
    intro n
    induction n with
    | zero =>
      intro j h0 h1
      refine r_iload_n (i := 3) F dX5_isSame_598 rfl rfl ?_
      refine r_aload_n (i := 0) F dX5_isSame_599 rfl rfl ?_
      refine gf_X5_30 F dX5_isSame_600 hs ?_
      refine al_20 F dX5_isSame_603 hs hn3 ?_
      refine r_icmp_ge (tgt := 770) F dX5_isSame_604 (by decide) (by first | assumption | exact ir_of (by omega) (by omega)) (by first | assumption | exact ir_of (by omega) (by omega)) (fun h604 => ?_) (fun h604 => ?_)
      · refine V.kill (lv1 := [_, _, _, _, _, _, _, _, _, _]) 3 rfl ?_
        rw [show j = S 20 3 by omega]
        refine V.wide (kc1 := 49) (ks1 := 311) (by omega) (by omega) h7
      · exfalso; omega
    | succ n ih =>
      intro j h0 h1
      have b13 := hI.p13 j
      have b15 := hI.p15 j
      have b18 := hI.p18 j
      have f0 := fm_0 (a := S 18 j) (by omega)
      have f1 := fm_bd (a := S 18 j) (by omega)
      have fv : (S 18 j = 1 → fm (S 18 j) = 3) ∧ (S 18 j = 2 → fm (S 18 j) = 4) := by unfold fm; constructor <;> intro z <;> rw [z] <;> decide
      have kx : V p l e { frames := 6, cells := 49, slots := 311, locals := 30 * 6 } s m ([.ref (ad 13 2 0), .ref (ad 0 0 0)] : List Value).toArray below meth c 10 cy D ad (Aw ad s.heap.size) (44 + j.toNat) (276 + 7 * j.toNat) (MQ below (Qn cy D ad s.heap.size (some (.int (i32 (bi true)))) (setc M 2 S)) ([.ref (ad 13 2 0), .ref (ad 0 0 0)] : List Value).toArray s 49 311 (Aw ad s.heap.size)) 746 [some (.ref (ad 13 2 0)), some (.ref (ad 0 0 0)), some (.int (i32 (sm (balF S) (j).toNat))), some (.int (i32 j)), some (.ref (ad 23 2 j)), none, none, none, none, none] [] (setc M 2 S) := by
        refine r_iload_n (i := 2) F dX5_isSame_746 rfl rfl ?_
        refine r_aload F dX5_isSame_747 rfl ?_
        refine r_iconst F dX5_isSame_749 ?_
        refine ia_23_3 F dX5_isSame_750 hs (by omega) (by omega) (by omega) ?_
        refine r_if_ne (tgt := 761) F dX5_isSame_751 (by decide) (by first | assumption | exact ir_of (by omega) (by omega)) (fun h751 => ?_) (fun h751 => ?_)
        · refine r_iconst F dX5_isSame_761 ?_
          refine r_iadd F dX5_isSame_762 ?_
          refine r_istore_n (i := 2) (lv1 := [_, _, _, _, _, _, _, _, _, _]) F dX5_isSame_763 rfl (by decide) rfl rfl ?_
          refine r_iinc (lv1 := [_, _, _, _, _, _, _, _, _, _]) F dX5_isSame_764 rfl (by decide) rfl rfl ?_
          refine r_goto (tgt := 598) F dX5_isSame_767 (by decide) ?_
          refine V.kill (lv1 := [_, _, _, _, _, _, _, _, _, _]) 4 rfl ?_
          have t := ih (j + 1) (by omega) (by omega)
          rw [sm_S _ h0] at t
          refine V.wide (kc1 := 43 + (j + 1).toNat) (ks1 := 269 + 7 * (j + 1).toNat) (by omega) (by omega) ?_
          first | (rw [show balF S j = S 14 j from if_pos (by omega)] at t; exact t) | (rw [show balF S j = 0 from if_neg (by omega)] at t; exact t)
        · refine r_aload F dX5_isSame_754 rfl ?_
          refine r_iconst F dX5_isSame_756 ?_
          refine ia_23_1 F dX5_isSame_757 hs (by omega) (by omega) (by omega) ?_
          refine r_goto (tgt := 762) F dX5_isSame_758 (by decide) ?_
          refine r_iadd F dX5_isSame_762 ?_
          refine r_istore_n (i := 2) (lv1 := [_, _, _, _, _, _, _, _, _, _]) F dX5_isSame_763 rfl (by decide) rfl rfl ?_
          refine r_iinc (lv1 := [_, _, _, _, _, _, _, _, _, _]) F dX5_isSame_764 rfl (by decide) rfl rfl ?_
          refine r_goto (tgt := 598) F dX5_isSame_767 (by decide) ?_
          refine V.kill (lv1 := [_, _, _, _, _, _, _, _, _, _]) 4 rfl ?_
          have t := ih (j + 1) (by omega) (by omega)
          rw [sm_S _ h0] at t
          refine V.wide (kc1 := 43 + (j + 1).toNat) (ks1 := 269 + 7 * (j + 1).toNat) (by omega) (by omega) ?_
          first | (rw [show balF S j = S 14 j from if_pos (by omega)] at t; exact t) | (rw [show balF S j = 0 from if_neg (by omega)] at t; exact t)
      have hin : V p l e { frames := 6, cells := 49, slots := 311, locals := 30 * 6 } s m ([.ref (ad 13 2 0), .ref (ad 0 0 0)] : List Value).toArray below meth c 10 cy D ad (Aw ad s.heap.size) (44 + j.toNat) (276 + 7 * j.toNat) (MQ below (Qn cy D ad s.heap.size (some (.int (i32 (bi true)))) (setc M 2 S)) ([.ref (ad 13 2 0), .ref (ad 0 0 0)] : List Value).toArray s 49 311 (Aw ad s.heap.size)) 746 [some (.ref (ad 13 2 0)), some (.ref (ad 0 0 0)), some (.int (i32 (sm (balF S) (j).toNat))), some (.int (i32 j)), some (.ref (ad 23 2 j)), none, none, none, none, none] [] (setc M 2 S) → ∀ ad9 : Nat → Nat → Int → Nat, Ext ad ad9 29 7 → Fx p s m ([.ref (ad 13 2 0), .ref (ad 0 0 0)] : List Value).toArray meth c yX5_isSame.cls cX5_isSame 10 (some FieldType.boolean) cy D ad9 (Aw ad s.heap.size) → ∀ T9 : St, (∀ w : Int, 0 ≤ w → w < 7 → toldF S j w = T9 5 w) → (∀ (k : Nat) (i : Int), k ≠ 5 → T9 k i = M 4 k i) → ∀ (n9 : Nat) (i : Int), 0 ≤ i → i + (n9 : Int) = 7 → V p l e { frames := 6, cells := 49, slots := 311, locals := 30 * 6 } s m ([.ref (ad 13 2 0), .ref (ad 0 0 0)] : List Value).toArray below meth c 10 cy D ad9 (Aw ad s.heap.size) (44 + j.toNat) (276 + 7 * j.toNat) (MQ below (Qn cy D ad s.heap.size (some (.int (i32 (bi true)))) (setc M 2 S)) ([.ref (ad 13 2 0), .ref (ad 0 0 0)] : List Value).toArray s 49 311 (Aw ad s.heap.size)) 716 [some (.ref (ad 13 2 0)), some (.ref (ad 0 0 0)), some (.int (i32 (sm (balF S) (j).toNat))), some (.int (i32 j)), some (.ref (ad 23 2 j)), none, some (.ref (ad9 29 2 0)), some (.int (i32 i)), none, none] [] (setc (setc M 4 T9) 2 S) := by
        intro kx ad9 E9 F T9 hT hT0
        have hl29 : (ad9 41 29 0 : Int) = 7 := by rw [E9.2.1]; rfl
        have hs29 := E9.1
        have hs0 := hs
        have hs : ad9 40 13 0 = 1 := (E9.fl (by decide) (Or.inl rfl) (by decide)).trans hs0
        have hn10 : (ad9 41 18 0 : Int) = S 20 1 := by rw [E9.fl (by decide) (Or.inr rfl) (by decide)]; exact hn1
        have hn20 : (ad9 41 19 0 : Int) = S 20 2 := by rw [E9.fl (by decide) (Or.inr rfl) (by decide)]; exact hn2
        have hn30 : (ad9 41 20 0 : Int) = S 20 3 := by rw [E9.fl (by decide) (Or.inr rfl) (by decide)]; exact hn3
        have hn1 := hn10
        have hn2 := hn20
        have hn3 := hn30
        have hsh0 := hsh9
        have hsh9 : Sh ad9 S := ⟨hs, hn1, hn2, hn3⟩
        have e13 : ad9 13 2 0 = ad 13 2 0 := E9.lo (by decide) (by decide)
        have e0 : ad9 0 0 0 = ad 0 0 0 := E9.lo (by decide) (by decide)
        have e22 : ∀ x9 : Int, ad9 22 2 x9 = ad 22 2 x9 := fun x9 => E9.lo (by decide) (by decide)
        have e23 : ∀ x9 : Int, ad9 23 2 x9 = ad 23 2 x9 := fun x9 => E9.lo (by decide) (by decide)
        have hX0 : (setc (setc M 4 T9) 2 S) 0 = S := hM0
        intro n9
        induction n9 with
        | zero =>
          intro i g0 g1
          refine r_iload F dX5_isSame_716 rfl ?_
          refine r_bipush F dX5_isSame_718 (by decide) ?_
          refine r_icmp_ge (tgt := 746) F dX5_isSame_720 (by decide) (by first | assumption | exact ir_of (by omega) (by omega)) (by first | assumption | exact ir_of (by omega) (by omega)) (fun h720 => ?_) (fun h720 => ?_)
          · refine V.kill (lv1 := [_, _, _, _, _, _, _, _, _, _]) 6 rfl ?_
            refine V.kill (lv1 := [_, _, _, _, _, _, _, _, _, _]) 7 rfl ?_
            refine V.drop (M := setc M 2 S) (E9.less (by decide) hz29 hz32 (j_oth M T9 S 29 (by decide) (fun k9 i9 hk9 => hT0 k9 i9 hk9))) ?_
            exact kx
          · exfalso; omega
        | succ n9 ih9 =>
          intro i g0 g1
          refine r_iload F dX5_isSame_716 rfl ?_
          refine r_bipush F dX5_isSame_718 (by decide) ?_
          refine r_icmp_ge (tgt := 746) F dX5_isSame_720 (by decide) (by first | assumption | exact ir_of (by omega) (by omega)) (by first | assumption | exact ir_of (by omega) (by omega)) (fun h720 => ?_) (fun h720 => ?_)
          · exfalso; omega
          · refine r_aload_n (x := ad9 0 0 0) (i := 1) F dX5_isSame_723 rfl (by rw [e0]; rfl) ?_
            refine r_iload_n (i := 3) F dX5_isSame_724 rfl rfl ?_
            refine r_iload F dX5_isSame_725 rfl ?_
            refine r_callV F (K_X4_told hX0 hI ⟨by omega, by omega⟩ ⟨by omega, by omega⟩) dX5_isSame_727 lkv_X5_110 rfl rfl rfl rfl rfl cd_X4_told (by decide) ⟨by show _ ≤ 49; omega, by show _ ≤ 311; omega⟩ (Nat.le_of_ble_eq_true rfl) ?_
            refine r_aload F dX5_isSame_730 rfl ?_
            refine r_iload F dX5_isSame_732 rfl ?_
            refine jg_29 F dX5_isSame_734 hs29 (by omega) (by omega) (by omega) ?_
            refine r_ceq (tgt := 740) F dX5_isSame_735 (by decide) (hT i g0 (by omega)) ?_
            refine r_iinc (lv1 := [_, _, _, _, _, _, _, _, _, _]) F dX5_isSame_740 rfl (by decide) rfl rfl ?_
            refine r_goto (tgt := 716) F dX5_isSame_743 (by decide) ?_
            exact ih9 (i + 1) (by omega) (by omega)
      have hst : ∀ z : Int, z = stg S j → V p l e { frames := 6, cells := 49, slots := 311, locals := 30 * 6 } s m ([.ref (ad 13 2 0), .ref (ad 0 0 0)] : List Value).toArray below meth c 10 cy D ad (Aw ad s.heap.size) (43 + j.toNat) (269 + 7 * j.toNat) (MQ below (Qn cy D ad s.heap.size (some (.int (i32 (bi true)))) (setc M 2 S)) ([.ref (ad 13 2 0), .ref (ad 0 0 0)] : List Value).toArray s 49 311 (Aw ad s.heap.size)) 656 [some (.ref (ad 13 2 0)), some (.ref (ad 0 0 0)), some (.int (i32 (sm (balF S) (j).toNat))), some (.int (i32 j)), some (.ref (ad 23 2 j)), none, none, none, none, none] [.int (i32 z)] (setc M 2 S) := by
        intro z hz
        refine r_istore (lv1 := [_, _, _, _, _, _, _, _, _, _]) F dX5_isSame_656 (by decide) rfl rfl ?_
        refine r_bipush F dX5_isSame_658 (by decide) ?_
        refine V.cast (j_self M S) ?_
        refine j_newa F 29 (by decide) hz29 hz32 7 dX5_isSame_660 rfl (by decide) ⟨by show _ ≤ 49; omega, by show _ ≤ 311; omega⟩ (fun ad9 E9 F => ?_)
        have hl29 : (ad9 41 29 0 : Int) = 7 := by rw [E9.2.1]; rfl
        have hs29 := E9.1
        have hs0 := hs
        have hs : ad9 40 13 0 = 1 := (E9.fl (by decide) (Or.inl rfl) (by decide)).trans hs0
        have hn10 : (ad9 41 18 0 : Int) = S 20 1 := by rw [E9.fl (by decide) (Or.inr rfl) (by decide)]; exact hn1
        have hn20 : (ad9 41 19 0 : Int) = S 20 2 := by rw [E9.fl (by decide) (Or.inr rfl) (by decide)]; exact hn2
        have hn30 : (ad9 41 20 0 : Int) = S 20 3 := by rw [E9.fl (by decide) (Or.inr rfl) (by decide)]; exact hn3
        have hn1 := hn10
        have hn2 := hn20
        have hn3 := hn30
        have hsh0 := hsh9
        have hsh9 : Sh ad9 S := ⟨hs, hn1, hn2, hn3⟩
        have e13 : ad9 13 2 0 = ad 13 2 0 := E9.lo (by decide) (by decide)
        have e0 : ad9 0 0 0 = ad 0 0 0 := E9.lo (by decide) (by decide)
        have e22 : ∀ x9 : Int, ad9 22 2 x9 = ad 22 2 x9 := fun x9 => E9.lo (by decide) (by decide)
        have e23 : ∀ x9 : Int, ad9 23 2 x9 = ad 23 2 x9 := fun x9 => E9.lo (by decide) (by decide)
        refine r_dup F dX5_isSame_662 rfl ?_
        refine r_iconst F dX5_isSame_663 ?_
        refine r_aload (x := ad9 23 2 j) F dX5_isSame_664 (by rw [e23]; rfl) ?_
        refine r_iconst F dX5_isSame_666 ?_
        refine ia_23_0 F dX5_isSame_667 hs (by omega) (by omega) (by omega) ?_
        refine js_29 F dX5_isSame_668 hs29 (by omega) (by omega) (by omega) ?_
        refine r_dup F dX5_isSame_669 rfl ?_
        refine r_iconst F dX5_isSame_670 ?_
        refine r_aload (x := ad9 23 2 j) F dX5_isSame_671 (by rw [e23]; rfl) ?_
        refine r_iconst F dX5_isSame_673 ?_
        refine ia_23_1 F dX5_isSame_674 hs (by omega) (by omega) (by omega) ?_
        refine js_29 F dX5_isSame_675 hs29 (by omega) (by omega) (by omega) ?_
        refine r_dup F dX5_isSame_676 rfl ?_
        refine r_iconst F dX5_isSame_677 ?_
        refine r_aload (x := ad9 23 2 j) F dX5_isSame_678 (by rw [e23]; rfl) ?_
        refine r_iconst F dX5_isSame_680 ?_
        refine ia_23_2 F dX5_isSame_681 hs (by omega) (by omega) (by omega) ?_
        refine js_29 F dX5_isSame_682 hs29 (by omega) (by omega) (by omega) ?_
        refine r_dup F dX5_isSame_683 rfl ?_
        refine r_iconst F dX5_isSame_684 ?_
        refine r_iload F dX5_isSame_685 rfl ?_
        refine js_29 F dX5_isSame_687 hs29 (by omega) (by omega) (by omega) ?_
        refine r_dup F dX5_isSame_688 rfl ?_
        refine r_iconst F dX5_isSame_689 ?_
        refine r_aload (x := ad9 23 2 j) F dX5_isSame_690 (by rw [e23]; rfl) ?_
        refine r_iconst F dX5_isSame_692 ?_
        refine ia_23_4 F dX5_isSame_693 hs (by omega) (by omega) (by omega) ?_
        refine js_29 F dX5_isSame_694 hs29 (by omega) (by omega) (by omega) ?_
        refine r_dup F dX5_isSame_695 rfl ?_
        refine r_iconst F dX5_isSame_696 ?_
        refine r_aload (x := ad9 23 2 j) F dX5_isSame_697 (by rw [e23]; rfl) ?_
        refine r_iconst F dX5_isSame_699 ?_
        refine ia_23_5 F dX5_isSame_700 hs (by omega) (by omega) (by omega) ?_
        refine js_29 F dX5_isSame_701 hs29 (by omega) (by omega) (by omega) ?_
        refine r_dup F dX5_isSame_702 rfl ?_
        refine r_bipush F dX5_isSame_703 (by decide) ?_
        refine r_aload (x := ad9 23 2 j) F dX5_isSame_705 (by rw [e23]; rfl) ?_
        refine r_bipush F dX5_isSame_707 (by decide) ?_
        refine ia_23_6 F dX5_isSame_709 hs (by omega) (by omega) (by omega) ?_
        refine js_29 F dX5_isSame_710 hs29 (by omega) (by omega) (by omega) ?_
        refine r_astore (lv1 := [_, _, _, _, _, _, _, _, _, _]) F dX5_isSame_711 (by decide) rfl rfl ?_
        refine r_iconst F dX5_isSame_713 ?_
        refine r_istore (lv1 := [_, _, _, _, _, _, _, _, _, _]) F dX5_isSame_714 (by decide) rfl rfl ?_
        refine V.kill (lv1 := [_, _, _, _, _, _, _, _, _, _]) 5 rfl ?_
        refine V.wide (kc1 := (44 + j.toNat)) (ks1 := (276 + 7 * j.toNat)) (by omega) (by omega) ?_
        refine hin kx ad9 E9 F _ (fun w g1 g2 => ?_) (fun k9 i9 hk9 => ?_) 7 0 (by decide) (by decide)
        · have hw9 : w = 0 ∨ w = 1 ∨ w = 2 ∨ w = 3 ∨ w = 4 ∨ w = 5 ∨ w = 6 := by omega
          rcases hw9 with rfl | rfl | rfl | rfl | rfl | rfl | rfl <;> first | (simp [u2, toldF]; done) | (simp [u2, toldF]; omega)
        · simp [u2, zk, hk9]
      refine r_iload_n (i := 3) F dX5_isSame_598 rfl rfl ?_
      refine r_aload_n (i := 0) F dX5_isSame_599 rfl rfl ?_
      refine gf_X5_30 F dX5_isSame_600 hs ?_
      refine al_20 F dX5_isSame_603 hs hn3 ?_
      refine r_icmp_ge (tgt := 770) F dX5_isSame_604 (by decide) (by first | assumption | exact ir_of (by omega) (by omega)) (by first | assumption | exact ir_of (by omega) (by omega)) (fun h604 => ?_) (fun h604 => ?_)
      · exfalso; omega
      · refine r_aload_n (i := 0) F dX5_isSame_607 rfl rfl ?_
        refine gf_X5_30 F dX5_isSame_608 hs ?_
        refine r_iload_n (i := 3) F dX5_isSame_611 rfl rfl ?_
        refine aa_20 F dX5_isSame_612 hs (by omega) (by omega) (by omega) ?_
        refine r_astore (lv1 := [_, _, _, _, _, _, _, _, _, _]) F dX5_isSame_613 (by decide) rfl rfl ?_
        refine r_aload F dX5_isSame_615 rfl ?_
        refine r_iconst F dX5_isSame_617 ?_
        refine ia_23_3 F dX5_isSame_618 hs (by omega) (by omega) (by omega) ?_
        refine r_if_le (tgt := 629) F dX5_isSame_619 (by decide) (by first | assumption | exact ir_of (by omega) (by omega)) (fun h619 => ?_) (fun h619 => ?_)
        · refine r_aload F dX5_isSame_629 rfl ?_
          refine r_iconst F dX5_isSame_631 ?_
          refine ia_23_2 F dX5_isSame_632 hs (by omega) (by omega) (by omega) ?_
          refine r_if_ge (tgt := 640) F dX5_isSame_633 (by decide) (by first | assumption | exact ir_of (by omega) (by omega)) (fun h633 => ?_) (fun h633 => ?_)
          · refine r_aload F dX5_isSame_640 rfl ?_
            refine r_iconst F dX5_isSame_642 ?_
            refine ia_23_0 F dX5_isSame_643 hs (by omega) (by omega) (by omega) ?_
            refine r_aload F dX5_isSame_644 rfl ?_
            refine r_iconst F dX5_isSame_646 ?_
            refine ia_23_2 F dX5_isSame_647 hs (by omega) (by omega) (by omega) ?_
            refine r_icmp_ne (tgt := 655) F dX5_isSame_648 (by decide) (by first | assumption | exact ir_of (by omega) (by omega)) (by first | assumption | exact ir_of (by omega) (by omega)) (fun h648 => ?_) (fun h648 => ?_)
            · refine r_iconst F dX5_isSame_655 ?_
              exact hst _ (by unfold stg; (repeat' split) <;> omega)
            · refine r_iconst F dX5_isSame_651 ?_
              refine r_goto (tgt := 656) F dX5_isSame_652 (by decide) ?_
              exact hst _ (by unfold stg; (repeat' split) <;> omega)
          · refine r_iconst F dX5_isSame_636 ?_
            refine r_goto (tgt := 656) F dX5_isSame_637 (by decide) ?_
            exact hst _ (by unfold stg; (repeat' split) <;> omega)
        · refine r_aload F dX5_isSame_622 rfl ?_
          refine r_iconst F dX5_isSame_624 ?_
          refine ia_23_3 F dX5_isSame_625 hs (by omega) (by omega) (by omega) ?_
          refine r_goto (tgt := 656) F dX5_isSame_626 (by decide) ?_
          exact hst _ (by unfold stg; (repeat' split) <;> omega)
  have h5 : ∀ (n : Nat) (j : Int), 0 ≤ j → j + (n : Int) = S 20 2 → V p l e { frames := 6, cells := 49, slots := 311, locals := 30 * 6 } s m ([.ref (ad 13 2 0), .ref (ad 0 0 0)] : List Value).toArray below meth c 10 cy D ad (Aw ad s.heap.size) (39 + j.toNat) (249 + 5 * j.toNat) (MQ below (Qn cy D ad s.heap.size (some (.int (i32 (bi true)))) (setc M 2 S)) ([.ref (ad 13 2 0), .ref (ad 0 0 0)] : List Value).toArray s 49 311 (Aw ad s.heap.size)) 484 [some (.ref (ad 13 2 0)), some (.ref (ad 0 0 0)), some (.int (i32 0)), some (.int (i32 j)), none, none, none, none, none, none] [] (setc M 2 S) := by
    intro n
    induction n with
    | zero =>
      intro j h0 h1
      refine r_iload_n (i := 3) F dX5_isSame_484 rfl rfl ?_
      refine r_aload_n (i := 0) F dX5_isSame_485 rfl rfl ?_
      refine gf_X5_27 F dX5_isSame_486 hs ?_
      refine al_19 F dX5_isSame_489 hs hn2 ?_
      refine r_icmp_ge (tgt := 596) F dX5_isSame_490 (by decide) (by first | assumption | exact ir_of (by omega) (by omega)) (by first | assumption | exact ir_of (by omega) (by omega)) (fun h490 => ?_) (fun h490 => ?_)
      · refine r_iconst F dX5_isSame_596 ?_
        refine r_istore_n (i := 3) (lv1 := [_, _, _, _, _, _, _, _, _, _]) F dX5_isSame_597 rfl (by decide) rfl rfl ?_
        refine V.wide (kc1 := 43 + (0 : Int).toNat) (ks1 := 269 + 7 * (0 : Int).toNat) (by show _ ≤ 43; omega) (by show _ ≤ 269; omega) ?_
        exact h6 (S 20 3).toNat 0 (by decide) (by omega)
      · exfalso; omega
    | succ n ih =>
      intro j h0 h1
      have bw := hI.pw j
      have b9 := hI.p9 j
      have hm := mo_bd S
      have kx : V p l e { frames := 6, cells := 49, slots := 311, locals := 30 * 6 } s m ([.ref (ad 13 2 0), .ref (ad 0 0 0)] : List Value).toArray below meth c 10 cy D ad (Aw ad s.heap.size) (40 + j.toNat) (254 + 5 * j.toNat) (MQ below (Qn cy D ad s.heap.size (some (.int (i32 (bi true)))) (setc M 2 S)) ([.ref (ad 13 2 0), .ref (ad 0 0 0)] : List Value).toArray s 49 311 (Aw ad s.heap.size)) 590 [some (.ref (ad 13 2 0)), some (.ref (ad 0 0 0)), some (.int (i32 0)), some (.int (i32 j)), none, none, none, none, none, none] [] (setc M 2 S) := by
        refine r_iinc (lv1 := [_, _, _, _, _, _, _, _, _, _]) F dX5_isSame_590 rfl (by decide) rfl rfl ?_
        refine r_goto (tgt := 484) F dX5_isSame_593 (by decide) ?_
        refine V.wide (kc1 := 39 + (j + 1).toNat) (ks1 := 249 + 5 * (j + 1).toNat) (by omega) (by omega) ?_
        exact ih (j + 1) (by omega) (by omega)
      have hin : V p l e { frames := 6, cells := 49, slots := 311, locals := 30 * 6 } s m ([.ref (ad 13 2 0), .ref (ad 0 0 0)] : List Value).toArray below meth c 10 cy D ad (Aw ad s.heap.size) (40 + j.toNat) (254 + 5 * j.toNat) (MQ below (Qn cy D ad s.heap.size (some (.int (i32 (bi true)))) (setc M 2 S)) ([.ref (ad 13 2 0), .ref (ad 0 0 0)] : List Value).toArray s 49 311 (Aw ad s.heap.size)) 590 [some (.ref (ad 13 2 0)), some (.ref (ad 0 0 0)), some (.int (i32 0)), some (.int (i32 j)), none, none, none, none, none, none] [] (setc M 2 S) → ∀ ad9 : Nat → Nat → Int → Nat, Ext ad ad9 29 5 → Fx p s m ([.ref (ad 13 2 0), .ref (ad 0 0 0)] : List Value).toArray meth c yX5_isSame.cls cX5_isSame 10 (some FieldType.boolean) cy D ad9 (Aw ad s.heap.size) → ∀ T9 : St, (∀ w : Int, 0 ≤ w → w < 5 → aboutF S j w = T9 5 w) → (∀ (k : Nat) (i : Int), k ≠ 5 → T9 k i = M 4 k i) → ∀ (n9 : Nat) (i : Int), 0 ≤ i → i + (n9 : Int) = 5 → V p l e { frames := 6, cells := 49, slots := 311, locals := 30 * 6 } s m ([.ref (ad 13 2 0), .ref (ad 0 0 0)] : List Value).toArray below meth c 10 cy D ad9 (Aw ad s.heap.size) (40 + j.toNat) (254 + 5 * j.toNat) (MQ below (Qn cy D ad s.heap.size (some (.int (i32 (bi true)))) (setc M 2 S)) ([.ref (ad 13 2 0), .ref (ad 0 0 0)] : List Value).toArray s 49 311 (Aw ad s.heap.size)) 561 [some (.ref (ad 13 2 0)), some (.ref (ad 0 0 0)), some (.int (i32 0)), some (.int (i32 j)), none, some (.ref (ad9 29 2 0)), some (.int (i32 i)), none, none, none] [] (setc (setc M 4 T9) 2 S) := by
        intro kx ad9 E9 F T9 hT hT0
        have hl29 : (ad9 41 29 0 : Int) = 5 := by rw [E9.2.1]; rfl
        have hs29 := E9.1
        have hs0 := hs
        have hs : ad9 40 13 0 = 1 := (E9.fl (by decide) (Or.inl rfl) (by decide)).trans hs0
        have hn10 : (ad9 41 18 0 : Int) = S 20 1 := by rw [E9.fl (by decide) (Or.inr rfl) (by decide)]; exact hn1
        have hn20 : (ad9 41 19 0 : Int) = S 20 2 := by rw [E9.fl (by decide) (Or.inr rfl) (by decide)]; exact hn2
        have hn30 : (ad9 41 20 0 : Int) = S 20 3 := by rw [E9.fl (by decide) (Or.inr rfl) (by decide)]; exact hn3
        have hn1 := hn10
        have hn2 := hn20
        have hn3 := hn30
        have hsh0 := hsh9
        have hsh9 : Sh ad9 S := ⟨hs, hn1, hn2, hn3⟩
        have e13 : ad9 13 2 0 = ad 13 2 0 := E9.lo (by decide) (by decide)
        have e0 : ad9 0 0 0 = ad 0 0 0 := E9.lo (by decide) (by decide)
        have e22 : ∀ x9 : Int, ad9 22 2 x9 = ad 22 2 x9 := fun x9 => E9.lo (by decide) (by decide)
        have e23 : ∀ x9 : Int, ad9 23 2 x9 = ad 23 2 x9 := fun x9 => E9.lo (by decide) (by decide)
        have hX0 : (setc (setc M 4 T9) 2 S) 0 = S := hM0
        intro n9
        induction n9 with
        | zero =>
          intro i g0 g1
          refine r_iload F dX5_isSame_561 rfl ?_
          refine r_iconst F dX5_isSame_563 ?_
          refine r_icmp_ge (tgt := 590) F dX5_isSame_564 (by decide) (by first | assumption | exact ir_of (by omega) (by omega)) (by first | assumption | exact ir_of (by omega) (by omega)) (fun h564 => ?_) (fun h564 => ?_)
          · refine V.kill (lv1 := [_, _, _, _, _, _, _, _, _, _]) 5 rfl ?_
            refine V.kill (lv1 := [_, _, _, _, _, _, _, _, _, _]) 6 rfl ?_
            refine V.drop (M := setc M 2 S) (E9.less (by decide) hz29 hz32 (j_oth M T9 S 29 (by decide) (fun k9 i9 hk9 => hT0 k9 i9 hk9))) ?_
            exact kx
          · exfalso; omega
        | succ n9 ih9 =>
          intro i g0 g1
          refine r_iload F dX5_isSame_561 rfl ?_
          refine r_iconst F dX5_isSame_563 ?_
          refine r_icmp_ge (tgt := 590) F dX5_isSame_564 (by decide) (by first | assumption | exact ir_of (by omega) (by omega)) (by first | assumption | exact ir_of (by omega) (by omega)) (fun h564 => ?_) (fun h564 => ?_)
          · exfalso; omega
          · refine r_aload_n (x := ad9 0 0 0) (i := 1) F dX5_isSame_567 rfl (by rw [e0]; rfl) ?_
            refine r_iload_n (i := 3) F dX5_isSame_568 rfl rfl ?_
            refine r_iload F dX5_isSame_569 rfl ?_
            refine r_callV F (K_X4_about hX0 hI hhc ⟨by omega, by omega⟩ ⟨by omega, by omega⟩) dX5_isSame_571 lkv_X5_107 rfl rfl rfl rfl rfl cd_X4_about (by decide) ⟨by show _ ≤ 49; omega, by show _ ≤ 311; omega⟩ (Nat.le_of_ble_eq_true rfl) ?_
            refine r_aload F dX5_isSame_574 rfl ?_
            refine r_iload F dX5_isSame_576 rfl ?_
            refine jg_29 F dX5_isSame_578 hs29 (by omega) (by omega) (by omega) ?_
            refine r_ceq (tgt := 584) F dX5_isSame_579 (by decide) (hT i g0 (by omega)) ?_
            refine r_iinc (lv1 := [_, _, _, _, _, _, _, _, _, _]) F dX5_isSame_584 rfl (by decide) rfl rfl ?_
            refine r_goto (tgt := 561) F dX5_isSame_587 (by decide) ?_
            exact ih9 (i + 1) (by omega) (by omega)
      refine r_iload_n (i := 3) F dX5_isSame_484 rfl rfl ?_
      refine r_aload_n (i := 0) F dX5_isSame_485 rfl rfl ?_
      refine gf_X5_27 F dX5_isSame_486 hs ?_
      refine al_19 F dX5_isSame_489 hs hn2 ?_
      refine r_icmp_ge (tgt := 596) F dX5_isSame_490 (by decide) (by first | assumption | exact ir_of (by omega) (by omega)) (by first | assumption | exact ir_of (by omega) (by omega)) (fun h490 => ?_) (fun h490 => ?_)
      · exfalso; omega
      · refine r_aload_n (i := 0) F dX5_isSame_493 rfl rfl ?_
        refine gf_X5_27 F dX5_isSame_494 hs ?_
        refine r_iload_n (i := 3) F dX5_isSame_497 rfl rfl ?_
        refine aa_19 F dX5_isSame_498 hs (by omega) (by omega) (by omega) ?_
        refine r_astore (lv1 := [_, _, _, _, _, _, _, _, _, _]) F dX5_isSame_499 (by decide) rfl rfl ?_
        refine r_iconst F dX5_isSame_501 ?_
        refine V.cast (j_self M S) ?_
        refine j_newa F 29 (by decide) hz29 hz32 5 dX5_isSame_502 rfl (by decide) ⟨by show _ ≤ 49; omega, by show _ ≤ 311; omega⟩ (fun ad9 E9 F => ?_)
        have hl29 : (ad9 41 29 0 : Int) = 5 := by rw [E9.2.1]; rfl
        have hs29 := E9.1
        have hs0 := hs
        have hs : ad9 40 13 0 = 1 := (E9.fl (by decide) (Or.inl rfl) (by decide)).trans hs0
        have hn10 : (ad9 41 18 0 : Int) = S 20 1 := by rw [E9.fl (by decide) (Or.inr rfl) (by decide)]; exact hn1
        have hn20 : (ad9 41 19 0 : Int) = S 20 2 := by rw [E9.fl (by decide) (Or.inr rfl) (by decide)]; exact hn2
        have hn30 : (ad9 41 20 0 : Int) = S 20 3 := by rw [E9.fl (by decide) (Or.inr rfl) (by decide)]; exact hn3
        have hn1 := hn10
        have hn2 := hn20
        have hn3 := hn30
        have hsh0 := hsh9
        have hsh9 : Sh ad9 S := ⟨hs, hn1, hn2, hn3⟩
        have e13 : ad9 13 2 0 = ad 13 2 0 := E9.lo (by decide) (by decide)
        have e0 : ad9 0 0 0 = ad 0 0 0 := E9.lo (by decide) (by decide)
        have e22 : ∀ x9 : Int, ad9 22 2 x9 = ad 22 2 x9 := fun x9 => E9.lo (by decide) (by decide)
        have e23 : ∀ x9 : Int, ad9 23 2 x9 = ad 23 2 x9 := fun x9 => E9.lo (by decide) (by decide)
        refine r_dup F dX5_isSame_504 rfl ?_
        refine r_iconst F dX5_isSame_505 ?_
        refine r_aload (x := ad9 22 2 j) F dX5_isSame_506 (by rw [e22]; rfl) ?_
        refine r_iconst F dX5_isSame_508 ?_
        refine ia_22_3 F dX5_isSame_509 hs (by omega) (by omega) (by omega) ?_
        refine js_29 F dX5_isSame_510 hs29 (by omega) (by omega) (by omega) ?_
        refine r_dup F dX5_isSame_511 rfl ?_
        refine r_iconst F dX5_isSame_512 ?_
        refine r_aload (x := ad9 22 2 j) F dX5_isSame_513 (by rw [e22]; rfl) ?_
        refine r_iconst F dX5_isSame_515 ?_
        refine ia_22_4 F dX5_isSame_516 hs (by omega) (by omega) (by omega) ?_
        refine js_29 F dX5_isSame_517 hs29 (by omega) (by omega) (by omega) ?_
        refine r_dup F dX5_isSame_518 rfl ?_
        refine r_iconst F dX5_isSame_519 ?_
        refine r_aload (x := ad9 22 2 j) F dX5_isSame_520 (by rw [e22]; rfl) ?_
        refine r_iconst F dX5_isSame_522 ?_
        refine ia_22_2 F dX5_isSame_523 hs (by omega) (by omega) (by omega) ?_
        refine r_aload_n (x := ad9 13 2 0) (i := 0) F dX5_isSame_524 rfl (by rw [e13]; rfl) ?_
        refine r_callV F (C_X5_moon hsh9 hh) dX5_isSame_525 lkv_X5_58 rfl rfl (dm13 hs) rfl rfl cd_X5_moon (by decide) ⟨by show _ ≤ 49; omega, by show _ ≤ 311; omega⟩ (Nat.le_of_ble_eq_true rfl) ?_
        refine r_iconst F dX5_isSame_528 ?_
        refine r_idiv F dX5_isSame_529 (by omega) (by omega) (by decide) (by decide) ?_
        refine r_iadd F dX5_isSame_530 ?_
        refine js_29 F dX5_isSame_531 hs29 (by omega) (by omega) (by omega) ?_
        refine r_dup F dX5_isSame_532 rfl ?_
        refine r_iconst F dX5_isSame_533 ?_
        refine r_iconst F dX5_isSame_534 ?_
        refine r_aload (x := ad9 22 2 j) F dX5_isSame_535 (by rw [e22]; rfl) ?_
        refine r_iconst F dX5_isSame_537 ?_
        refine ia_22_2 F dX5_isSame_538 hs (by omega) (by omega) (by omega) ?_
        refine r_imul F dX5_isSame_539 ?_
        refine r_bipush F dX5_isSame_540 (by decide) ?_
        refine r_iadd F dX5_isSame_542 ?_
        refine r_aload_n (x := ad9 13 2 0) (i := 0) F dX5_isSame_543 rfl (by rw [e13]; rfl) ?_
        refine r_callV F (C_X5_moon hsh9 hh) dX5_isSame_544 lkv_X5_58 rfl rfl (dm13 hs) rfl rfl cd_X5_moon (by decide) ⟨by show _ ≤ 49; omega, by show _ ≤ 311; omega⟩ (Nat.le_of_ble_eq_true rfl) ?_
        refine r_isub F dX5_isSame_547 ?_
        refine js_29 F dX5_isSame_548 hs29 (by omega) (by omega) (by omega) ?_
        refine r_dup F dX5_isSame_549 rfl ?_
        refine r_iconst F dX5_isSame_550 ?_
        refine r_aload (x := ad9 22 2 j) F dX5_isSame_551 (by rw [e22]; rfl) ?_
        refine r_iconst F dX5_isSame_553 ?_
        refine ia_22_5 F dX5_isSame_554 hs (by omega) (by omega) (by omega) ?_
        refine js_29 F dX5_isSame_555 hs29 (by omega) (by omega) (by omega) ?_
        refine r_astore (lv1 := [_, _, _, _, _, _, _, _, _, _]) F dX5_isSame_556 (by decide) rfl rfl ?_
        refine r_iconst F dX5_isSame_558 ?_
        refine r_istore (lv1 := [_, _, _, _, _, _, _, _, _, _]) F dX5_isSame_559 (by decide) rfl rfl ?_
        refine V.kill (lv1 := [_, _, _, _, _, _, _, _, _, _]) 4 rfl ?_
        refine V.wide (kc1 := (40 + j.toNat)) (ks1 := (254 + 5 * j.toNat)) (by omega) (by omega) ?_
        refine hin kx ad9 E9 F _ (fun w g1 g2 => ?_) (fun k9 i9 hk9 => ?_) 5 0 (by decide) (by decide)
        · have hw9 : w = 0 ∨ w = 1 ∨ w = 2 ∨ w = 3 ∨ w = 4 := by omega
          rcases hw9 with rfl | rfl | rfl | rfl | rfl <;> first | (simp [u2, aboutF, sgP, sgL]; done) | (simp [u2, aboutF, sgP, sgL]; omega)
        · simp [u2, zk, hk9]
  have h4 : ∀ (n : Nat) (j : Int), 0 ≤ j → j + (n : Int) = S 20 1 → V p l e { frames := 6, cells := 49, slots := 311, locals := 30 * 6 } s m ([.ref (ad 13 2 0), .ref (ad 0 0 0)] : List Value).toArray below meth c 10 cy D ad (Aw ad s.heap.size) (34 + j.toNat) (229 + 4 * j.toNat) (MQ below (Qn cy D ad s.heap.size (some (.int (i32 (bi true)))) (setc M 2 S)) ([.ref (ad 13 2 0), .ref (ad 0 0 0)] : List Value).toArray s 49 311 (Aw ad s.heap.size)) 391 [some (.ref (ad 13 2 0)), some (.ref (ad 0 0 0)), some (.int (i32 0)), some (.int (i32 j)), none, none, none, none, none, none] [] (setc M 2 S) := by
    intro n
    induction n with
    | zero =>
      intro j h0 h1
      refine r_iload_n (i := 3) F dX5_isSame_391 rfl rfl ?_
      refine r_aload_n (i := 0) F dX5_isSame_392 rfl rfl ?_
      refine gf_X5_23 F dX5_isSame_393 hs ?_
      refine al_18 F dX5_isSame_396 hs hn1 ?_
      refine r_icmp_ge (tgt := 482) F dX5_isSame_397 (by decide) (by first | assumption | exact ir_of (by omega) (by omega)) (by first | assumption | exact ir_of (by omega) (by omega)) (fun h397 => ?_) (fun h397 => ?_)
      · refine r_iconst F dX5_isSame_482 ?_
        refine r_istore_n (i := 3) (lv1 := [_, _, _, _, _, _, _, _, _, _]) F dX5_isSame_483 rfl (by decide) rfl rfl ?_
        refine V.wide (kc1 := 39 + (0 : Int).toNat) (ks1 := 249 + 5 * (0 : Int).toNat) (by show _ ≤ 39; omega) (by show _ ≤ 249; omega) ?_
        exact h5 (S 20 2).toNat 0 (by decide) (by omega)
      · exfalso; omega
    | succ n ih =>
      intro j h0 h1
      have kx : V p l e { frames := 6, cells := 49, slots := 311, locals := 30 * 6 } s m ([.ref (ad 13 2 0), .ref (ad 0 0 0)] : List Value).toArray below meth c 10 cy D ad (Aw ad s.heap.size) (35 + j.toNat) (233 + 4 * j.toNat) (MQ below (Qn cy D ad s.heap.size (some (.int (i32 (bi true)))) (setc M 2 S)) ([.ref (ad 13 2 0), .ref (ad 0 0 0)] : List Value).toArray s 49 311 (Aw ad s.heap.size)) 476 [some (.ref (ad 13 2 0)), some (.ref (ad 0 0 0)), some (.int (i32 0)), some (.int (i32 j)), none, none, none, none, none, none] [] (setc M 2 S) := by
        refine r_iinc (lv1 := [_, _, _, _, _, _, _, _, _, _]) F dX5_isSame_476 rfl (by decide) rfl rfl ?_
        refine r_goto (tgt := 391) F dX5_isSame_479 (by decide) ?_
        refine V.wide (kc1 := 34 + (j + 1).toNat) (ks1 := 229 + 4 * (j + 1).toNat) (by omega) (by omega) ?_
        exact ih (j + 1) (by omega) (by omega)
      have hin : V p l e { frames := 6, cells := 49, slots := 311, locals := 30 * 6 } s m ([.ref (ad 13 2 0), .ref (ad 0 0 0)] : List Value).toArray below meth c 10 cy D ad (Aw ad s.heap.size) (35 + j.toNat) (233 + 4 * j.toNat) (MQ below (Qn cy D ad s.heap.size (some (.int (i32 (bi true)))) (setc M 2 S)) ([.ref (ad 13 2 0), .ref (ad 0 0 0)] : List Value).toArray s 49 311 (Aw ad s.heap.size)) 476 [some (.ref (ad 13 2 0)), some (.ref (ad 0 0 0)), some (.int (i32 0)), some (.int (i32 j)), none, none, none, none, none, none] [] (setc M 2 S) → ∀ ad9 : Nat → Nat → Int → Nat, Ext ad ad9 29 4 → Fx p s m ([.ref (ad 13 2 0), .ref (ad 0 0 0)] : List Value).toArray meth c yX5_isSame.cls cX5_isSame 10 (some FieldType.boolean) cy D ad9 (Aw ad s.heap.size) → ∀ T9 : St, (∀ w : Int, 0 ≤ w → w < 4 → lightF S j w = T9 5 w) → (∀ (k : Nat) (i : Int), k ≠ 5 → T9 k i = M 4 k i) → ∀ (n9 : Nat) (i : Int), 0 ≤ i → i + (n9 : Int) = 4 → V p l e { frames := 6, cells := 49, slots := 311, locals := 30 * 6 } s m ([.ref (ad 13 2 0), .ref (ad 0 0 0)] : List Value).toArray below meth c 10 cy D ad9 (Aw ad s.heap.size) (35 + j.toNat) (233 + 4 * j.toNat) (MQ below (Qn cy D ad s.heap.size (some (.int (i32 (bi true)))) (setc M 2 S)) ([.ref (ad 13 2 0), .ref (ad 0 0 0)] : List Value).toArray s 49 311 (Aw ad s.heap.size)) 447 [some (.ref (ad 13 2 0)), some (.ref (ad 0 0 0)), some (.int (i32 0)), some (.int (i32 j)), some (.ref (ad9 29 2 0)), some (.int (i32 i)), none, none, none, none] [] (setc (setc M 4 T9) 2 S) := by
        intro kx ad9 E9 F T9 hT hT0
        have hl29 : (ad9 41 29 0 : Int) = 4 := by rw [E9.2.1]; rfl
        have hs29 := E9.1
        have hs0 := hs
        have hs : ad9 40 13 0 = 1 := (E9.fl (by decide) (Or.inl rfl) (by decide)).trans hs0
        have hn10 : (ad9 41 18 0 : Int) = S 20 1 := by rw [E9.fl (by decide) (Or.inr rfl) (by decide)]; exact hn1
        have hn20 : (ad9 41 19 0 : Int) = S 20 2 := by rw [E9.fl (by decide) (Or.inr rfl) (by decide)]; exact hn2
        have hn30 : (ad9 41 20 0 : Int) = S 20 3 := by rw [E9.fl (by decide) (Or.inr rfl) (by decide)]; exact hn3
        have hn1 := hn10
        have hn2 := hn20
        have hn3 := hn30
        have hsh0 := hsh9
        have hsh9 : Sh ad9 S := ⟨hs, hn1, hn2, hn3⟩
        have e13 : ad9 13 2 0 = ad 13 2 0 := E9.lo (by decide) (by decide)
        have e0 : ad9 0 0 0 = ad 0 0 0 := E9.lo (by decide) (by decide)
        have e22 : ∀ x9 : Int, ad9 22 2 x9 = ad 22 2 x9 := fun x9 => E9.lo (by decide) (by decide)
        have e23 : ∀ x9 : Int, ad9 23 2 x9 = ad 23 2 x9 := fun x9 => E9.lo (by decide) (by decide)
        have hX0 : (setc (setc M 4 T9) 2 S) 0 = S := hM0
        intro n9
        induction n9 with
        | zero =>
          intro i g0 g1
          refine r_iload F dX5_isSame_447 rfl ?_
          refine r_iconst F dX5_isSame_449 ?_
          refine r_icmp_ge (tgt := 476) F dX5_isSame_450 (by decide) (by first | assumption | exact ir_of (by omega) (by omega)) (by first | assumption | exact ir_of (by omega) (by omega)) (fun h450 => ?_) (fun h450 => ?_)
          · refine V.kill (lv1 := [_, _, _, _, _, _, _, _, _, _]) 4 rfl ?_
            refine V.kill (lv1 := [_, _, _, _, _, _, _, _, _, _]) 5 rfl ?_
            refine V.drop (M := setc M 2 S) (E9.less (by decide) hz29 hz32 (j_oth M T9 S 29 (by decide) (fun k9 i9 hk9 => hT0 k9 i9 hk9))) ?_
            exact kx
          · exfalso; omega
        | succ n9 ih9 =>
          intro i g0 g1
          refine r_iload F dX5_isSame_447 rfl ?_
          refine r_iconst F dX5_isSame_449 ?_
          refine r_icmp_ge (tgt := 476) F dX5_isSame_450 (by decide) (by first | assumption | exact ir_of (by omega) (by omega)) (by first | assumption | exact ir_of (by omega) (by omega)) (fun h450 => ?_) (fun h450 => ?_)
          · exfalso; omega
          · refine r_aload_n (x := ad9 0 0 0) (i := 1) F dX5_isSame_453 rfl (by rw [e0]; rfl) ?_
            refine r_iload_n (i := 3) F dX5_isSame_454 rfl rfl ?_
            refine r_iload F dX5_isSame_455 rfl ?_
            refine r_callV F (K_X4_light hX0 hI hhc ⟨by omega, by omega⟩ ⟨by omega, by omega⟩) dX5_isSame_457 lkv_X5_104 rfl rfl rfl rfl rfl cd_X4_light (by decide) ⟨by show _ ≤ 49; omega, by show _ ≤ 311; omega⟩ (Nat.le_of_ble_eq_true rfl) ?_
            refine r_aload F dX5_isSame_460 rfl ?_
            refine r_iload F dX5_isSame_462 rfl ?_
            refine jg_29 F dX5_isSame_464 hs29 (by omega) (by omega) (by omega) ?_
            refine r_ceq (tgt := 470) F dX5_isSame_465 (by decide) (hT i g0 (by omega)) ?_
            refine r_iinc (lv1 := [_, _, _, _, _, _, _, _, _, _]) F dX5_isSame_470 rfl (by decide) rfl rfl ?_
            refine r_goto (tgt := 447) F dX5_isSame_473 (by decide) ?_
            exact ih9 (i + 1) (by omega) (by omega)
      refine r_iload_n (i := 3) F dX5_isSame_391 rfl rfl ?_
      refine r_aload_n (i := 0) F dX5_isSame_392 rfl rfl ?_
      refine gf_X5_23 F dX5_isSame_393 hs ?_
      refine al_18 F dX5_isSame_396 hs hn1 ?_
      refine r_icmp_ge (tgt := 482) F dX5_isSame_397 (by decide) (by first | assumption | exact ir_of (by omega) (by omega)) (by first | assumption | exact ir_of (by omega) (by omega)) (fun h397 => ?_) (fun h397 => ?_)
      · exfalso; omega
      · refine r_iconst F dX5_isSame_400 ?_
        refine V.cast (j_self M S) ?_
        refine j_newa F 29 (by decide) hz29 hz32 4 dX5_isSame_401 rfl (by decide) ⟨by show _ ≤ 49; omega, by show _ ≤ 311; omega⟩ (fun ad9 E9 F => ?_)
        have hl29 : (ad9 41 29 0 : Int) = 4 := by rw [E9.2.1]; rfl
        have hs29 := E9.1
        have hs0 := hs
        have hs : ad9 40 13 0 = 1 := (E9.fl (by decide) (Or.inl rfl) (by decide)).trans hs0
        have hn10 : (ad9 41 18 0 : Int) = S 20 1 := by rw [E9.fl (by decide) (Or.inr rfl) (by decide)]; exact hn1
        have hn20 : (ad9 41 19 0 : Int) = S 20 2 := by rw [E9.fl (by decide) (Or.inr rfl) (by decide)]; exact hn2
        have hn30 : (ad9 41 20 0 : Int) = S 20 3 := by rw [E9.fl (by decide) (Or.inr rfl) (by decide)]; exact hn3
        have hn1 := hn10
        have hn2 := hn20
        have hn3 := hn30
        have hsh0 := hsh9
        have hsh9 : Sh ad9 S := ⟨hs, hn1, hn2, hn3⟩
        have e13 : ad9 13 2 0 = ad 13 2 0 := E9.lo (by decide) (by decide)
        have e0 : ad9 0 0 0 = ad 0 0 0 := E9.lo (by decide) (by decide)
        have e22 : ∀ x9 : Int, ad9 22 2 x9 = ad 22 2 x9 := fun x9 => E9.lo (by decide) (by decide)
        have e23 : ∀ x9 : Int, ad9 23 2 x9 = ad 23 2 x9 := fun x9 => E9.lo (by decide) (by decide)
        refine r_dup F dX5_isSame_403 rfl ?_
        refine r_iconst F dX5_isSame_404 ?_
        refine r_aload_n (x := ad9 13 2 0) (i := 0) F dX5_isSame_405 rfl (by rw [e13]; rfl) ?_
        refine gf_X5_23 F dX5_isSame_406 hs ?_
        refine r_iload_n (i := 3) F dX5_isSame_409 rfl rfl ?_
        refine aa_18 F dX5_isSame_410 hs (by omega) (by omega) (by omega) ?_
        refine r_iconst F dX5_isSame_411 ?_
        refine ia_21_0 F dX5_isSame_412 hs (by omega) (by omega) (by omega) ?_
        refine js_29 F dX5_isSame_413 hs29 (by omega) (by omega) (by omega) ?_
        refine r_dup F dX5_isSame_414 rfl ?_
        refine r_iconst F dX5_isSame_415 ?_
        refine r_aload_n (x := ad9 13 2 0) (i := 0) F dX5_isSame_416 rfl (by rw [e13]; rfl) ?_
        refine r_iload_n (i := 3) F dX5_isSame_417 rfl rfl ?_
        refine r_callV F (C_X5_shown hsh9 hh hI ⟨by omega, by omega⟩) dX5_isSame_418 lkv_X5_70 rfl rfl (dm13 hs) rfl rfl cd_X5_shown (by decide) ⟨by show _ ≤ 49; omega, by show _ ≤ 311; omega⟩ (Nat.le_of_ble_eq_true rfl) ?_
        refine js_29 F dX5_isSame_421 hs29 (by omega) (by omega) (by omega) ?_
        refine r_dup F dX5_isSame_422 rfl ?_
        refine r_iconst F dX5_isSame_423 ?_
        refine r_aload_n (x := ad9 13 2 0) (i := 0) F dX5_isSame_424 rfl (by rw [e13]; rfl) ?_
        refine r_iload_n (i := 3) F dX5_isSame_425 rfl rfl ?_
        refine r_callV F (C_X5_lightWatchers hsh9 hh hI ⟨by omega, by omega⟩) dX5_isSame_426 lkv_X5_74 rfl rfl (dm13 hs) rfl rfl cd_X5_lightWatchers (by decide) ⟨by show _ ≤ 49; omega, by show _ ≤ 311; omega⟩ (Nat.le_of_ble_eq_true rfl) ?_
        refine js_29 F dX5_isSame_429 hs29 (by omega) (by omega) (by omega) ?_
        refine r_dup F dX5_isSame_430 rfl ?_
        refine r_iconst F dX5_isSame_431 ?_
        refine r_aload_n (x := ad9 13 2 0) (i := 0) F dX5_isSame_432 rfl (by rw [e13]; rfl) ?_
        refine gf_X5_23 F dX5_isSame_433 hs ?_
        refine r_iload_n (i := 3) F dX5_isSame_436 rfl rfl ?_
        refine aa_18 F dX5_isSame_437 hs (by omega) (by omega) (by omega) ?_
        refine r_bipush F dX5_isSame_438 (by decide) ?_
        refine ia_21_11 F dX5_isSame_440 hs (by omega) (by omega) (by omega) ?_
        refine js_29 F dX5_isSame_441 hs29 (by omega) (by omega) (by omega) ?_
        refine r_astore (lv1 := [_, _, _, _, _, _, _, _, _, _]) F dX5_isSame_442 (by decide) rfl rfl ?_
        refine r_iconst F dX5_isSame_444 ?_
        refine r_istore (lv1 := [_, _, _, _, _, _, _, _, _, _]) F dX5_isSame_445 (by decide) rfl rfl ?_
        refine V.wide (kc1 := (35 + j.toNat)) (ks1 := (233 + 4 * j.toNat)) (by omega) (by omega) ?_
        refine hin kx ad9 E9 F _ (fun w g1 g2 => ?_) (fun k9 i9 hk9 => ?_) 4 0 (by decide) (by decide)
        · have hw9 : w = 0 ∨ w = 1 ∨ w = 2 ∨ w = 3 := by omega
          rcases hw9 with rfl | rfl | rfl | rfl <;> first | (simp [u2, lightF]; done) | (simp [u2, lightF]; omega)
        · simp [u2, zk, hk9]
  have h3 : ∀ (n : Nat) (j : Int), 0 ≤ j → j + (n : Int) = 7 → V p l e { frames := 6, cells := 49, slots := 311, locals := 30 * 6 } s m ([.ref (ad 13 2 0), .ref (ad 0 0 0)] : List Value).toArray below meth c 10 cy D ad (Aw ad s.heap.size) (27 + j.toNat) (201 + 4 * j.toNat) (MQ below (Qn cy D ad s.heap.size (some (.int (i32 (bi true)))) (setc M 2 S)) ([.ref (ad 13 2 0), .ref (ad 0 0 0)] : List Value).toArray s 49 311 (Aw ad s.heap.size)) 237 [some (.ref (ad 13 2 0)), some (.ref (ad 0 0 0)), some (.int (i32 0)), some (.int (i32 (j + 1))), none, none, none, none, none, none] [] (setc M 2 S) := by
    intro n
    induction n with
    | zero =>
      intro j h0 h1
      refine r_iload_n (i := 3) F dX5_isSame_237 rfl rfl ?_
      refine r_bipush F dX5_isSame_238 (by decide) ?_
      refine r_icmp_ge (tgt := 389) F dX5_isSame_240 (by decide) (by first | assumption | exact ir_of (by omega) (by omega)) (by first | assumption | exact ir_of (by omega) (by omega)) (fun h240 => ?_) (fun h240 => ?_)
      · refine r_iconst F dX5_isSame_389 ?_
        refine r_istore_n (i := 3) (lv1 := [_, _, _, _, _, _, _, _, _, _]) F dX5_isSame_390 rfl (by decide) rfl rfl ?_
        refine V.wide (kc1 := 34 + (0 : Int).toNat) (ks1 := 229 + 4 * (0 : Int).toNat) (by show _ ≤ 34; omega) (by show _ ≤ 229; omega) ?_
        exact h4 (S 20 1).toNat 0 (by decide) (by omega)
      · exfalso; omega
    | succ n ih =>
      intro j h0 h1
      have kx : V p l e { frames := 6, cells := 49, slots := 311, locals := 30 * 6 } s m ([.ref (ad 13 2 0), .ref (ad 0 0 0)] : List Value).toArray below meth c 10 cy D ad (Aw ad s.heap.size) (28 + j.toNat) (205 + 4 * j.toNat) (MQ below (Qn cy D ad s.heap.size (some (.int (i32 (bi true)))) (setc M 2 S)) ([.ref (ad 13 2 0), .ref (ad 0 0 0)] : List Value).toArray s 49 311 (Aw ad s.heap.size)) 383 [some (.ref (ad 13 2 0)), some (.ref (ad 0 0 0)), some (.int (i32 0)), some (.int (i32 (j + 1))), none, none, none, none, none, none] [] (setc M 2 S) := by
        refine r_iinc (lv1 := [_, _, _, _, _, _, _, _, _, _]) F dX5_isSame_383 rfl (by decide) rfl rfl ?_
        refine r_goto (tgt := 237) F dX5_isSame_386 (by decide) ?_
        refine V.wide (kc1 := 27 + (j + 1).toNat) (ks1 := 201 + 4 * (j + 1).toNat) (by omega) (by omega) ?_
        exact ih (j + 1) (by omega) (by omega)
      have hin : V p l e { frames := 6, cells := 49, slots := 311, locals := 30 * 6 } s m ([.ref (ad 13 2 0), .ref (ad 0 0 0)] : List Value).toArray below meth c 10 cy D ad (Aw ad s.heap.size) (28 + j.toNat) (205 + 4 * j.toNat) (MQ below (Qn cy D ad s.heap.size (some (.int (i32 (bi true)))) (setc M 2 S)) ([.ref (ad 13 2 0), .ref (ad 0 0 0)] : List Value).toArray s 49 311 (Aw ad s.heap.size)) 383 [some (.ref (ad 13 2 0)), some (.ref (ad 0 0 0)), some (.int (i32 0)), some (.int (i32 (j + 1))), none, none, none, none, none, none] [] (setc M 2 S) → ∀ ad9 : Nat → Nat → Int → Nat, Ext ad ad9 29 4 → Fx p s m ([.ref (ad 13 2 0), .ref (ad 0 0 0)] : List Value).toArray meth c yX5_isSame.cls cX5_isSame 10 (some FieldType.boolean) cy D ad9 (Aw ad s.heap.size) → ∀ T9 : St, (∀ w : Int, 0 ≤ w → w < 4 → codeF S (j + 1) w = T9 5 w) → (∀ (k : Nat) (i : Int), k ≠ 5 → T9 k i = M 4 k i) → ∀ (n9 : Nat) (i : Int), 0 ≤ i → i + (n9 : Int) = 4 → V p l e { frames := 6, cells := 49, slots := 311, locals := 30 * 6 } s m ([.ref (ad 13 2 0), .ref (ad 0 0 0)] : List Value).toArray below meth c 10 cy D ad9 (Aw ad s.heap.size) (28 + j.toNat) (205 + 4 * j.toNat) (MQ below (Qn cy D ad s.heap.size (some (.int (i32 (bi true)))) (setc M 2 S)) ([.ref (ad 13 2 0), .ref (ad 0 0 0)] : List Value).toArray s 49 311 (Aw ad s.heap.size)) 354 [some (.ref (ad 13 2 0)), some (.ref (ad 0 0 0)), some (.int (i32 0)), some (.int (i32 (j + 1))), none, some (.ref (ad9 29 2 0)), some (.int (i32 i)), none, none, none] [] (setc (setc M 4 T9) 2 S) := by
        intro kx ad9 E9 F T9 hT hT0
        have hl29 : (ad9 41 29 0 : Int) = 4 := by rw [E9.2.1]; rfl
        have hs29 := E9.1
        have hs0 := hs
        have hs : ad9 40 13 0 = 1 := (E9.fl (by decide) (Or.inl rfl) (by decide)).trans hs0
        have hn10 : (ad9 41 18 0 : Int) = S 20 1 := by rw [E9.fl (by decide) (Or.inr rfl) (by decide)]; exact hn1
        have hn20 : (ad9 41 19 0 : Int) = S 20 2 := by rw [E9.fl (by decide) (Or.inr rfl) (by decide)]; exact hn2
        have hn30 : (ad9 41 20 0 : Int) = S 20 3 := by rw [E9.fl (by decide) (Or.inr rfl) (by decide)]; exact hn3
        have hn1 := hn10
        have hn2 := hn20
        have hn3 := hn30
        have hsh0 := hsh9
        have hsh9 : Sh ad9 S := ⟨hs, hn1, hn2, hn3⟩
        have e13 : ad9 13 2 0 = ad 13 2 0 := E9.lo (by decide) (by decide)
        have e0 : ad9 0 0 0 = ad 0 0 0 := E9.lo (by decide) (by decide)
        have e22 : ∀ x9 : Int, ad9 22 2 x9 = ad 22 2 x9 := fun x9 => E9.lo (by decide) (by decide)
        have e23 : ∀ x9 : Int, ad9 23 2 x9 = ad 23 2 x9 := fun x9 => E9.lo (by decide) (by decide)
        have hX0 : (setc (setc M 4 T9) 2 S) 0 = S := hM0
        intro n9
        induction n9 with
        | zero =>
          intro i g0 g1
          refine r_iload F dX5_isSame_354 rfl ?_
          refine r_iconst F dX5_isSame_356 ?_
          refine r_icmp_ge (tgt := 383) F dX5_isSame_357 (by decide) (by first | assumption | exact ir_of (by omega) (by omega)) (by first | assumption | exact ir_of (by omega) (by omega)) (fun h357 => ?_) (fun h357 => ?_)
          · refine V.kill (lv1 := [_, _, _, _, _, _, _, _, _, _]) 5 rfl ?_
            refine V.kill (lv1 := [_, _, _, _, _, _, _, _, _, _]) 6 rfl ?_
            refine V.drop (M := setc M 2 S) (E9.less (by decide) hz29 hz32 (j_oth M T9 S 29 (by decide) (fun k9 i9 hk9 => hT0 k9 i9 hk9))) ?_
            exact kx
          · exfalso; omega
        | succ n9 ih9 =>
          intro i g0 g1
          refine r_iload F dX5_isSame_354 rfl ?_
          refine r_iconst F dX5_isSame_356 ?_
          refine r_icmp_ge (tgt := 383) F dX5_isSame_357 (by decide) (by first | assumption | exact ir_of (by omega) (by omega)) (by first | assumption | exact ir_of (by omega) (by omega)) (fun h357 => ?_) (fun h357 => ?_)
          · exfalso; omega
          · refine r_aload_n (x := ad9 0 0 0) (i := 1) F dX5_isSame_360 rfl (by rw [e0]; rfl) ?_
            refine r_iload_n (i := 3) F dX5_isSame_361 rfl rfl ?_
            refine r_iload F dX5_isSame_362 rfl ?_
            refine r_callV F (K_X4_code hX0 hI ⟨by omega, by omega⟩ ⟨by omega, by omega⟩) dX5_isSame_364 lkv_X5_101 rfl rfl rfl rfl rfl cd_X4_code (by decide) ⟨by show _ ≤ 49; omega, by show _ ≤ 311; omega⟩ (Nat.le_of_ble_eq_true rfl) ?_
            refine r_aload F dX5_isSame_367 rfl ?_
            refine r_iload F dX5_isSame_369 rfl ?_
            refine jg_29 F dX5_isSame_371 hs29 (by omega) (by omega) (by omega) ?_
            refine r_ceq (tgt := 377) F dX5_isSame_372 (by decide) (hT i g0 (by omega)) ?_
            refine r_iinc (lv1 := [_, _, _, _, _, _, _, _, _, _]) F dX5_isSame_377 rfl (by decide) rfl rfl ?_
            refine r_goto (tgt := 354) F dX5_isSame_380 (by decide) ?_
            exact ih9 (i + 1) (by omega) (by omega)
      have hmk : V p l e { frames := 6, cells := 49, slots := 311, locals := 30 * 6 } s m ([.ref (ad 13 2 0), .ref (ad 0 0 0)] : List Value).toArray below meth c 10 cy D ad (Aw ad s.heap.size) (27 + j.toNat) (201 + 4 * j.toNat) (MQ below (Qn cy D ad s.heap.size (some (.int (i32 (bi true)))) (setc M 2 S)) ([.ref (ad 13 2 0), .ref (ad 0 0 0)] : List Value).toArray s 49 311 (Aw ad s.heap.size)) 305 [some (.ref (ad 13 2 0)), some (.ref (ad 0 0 0)), some (.int (i32 0)), some (.int (i32 (j + 1))), some (.int (i32 (nLdB S (j + 1)))), none, none, none, none, none] [] (setc M 2 S) := by
        refine r_iconst F dX5_isSame_305 ?_
        refine V.cast (j_self M S) ?_
        refine j_newa F 29 (by decide) hz29 hz32 4 dX5_isSame_306 rfl (by decide) ⟨by show _ ≤ 49; omega, by show _ ≤ 311; omega⟩ (fun ad9 E9 F => ?_)
        have hl29 : (ad9 41 29 0 : Int) = 4 := by rw [E9.2.1]; rfl
        have hs29 := E9.1
        have hs0 := hs
        have hs : ad9 40 13 0 = 1 := (E9.fl (by decide) (Or.inl rfl) (by decide)).trans hs0
        have hn10 : (ad9 41 18 0 : Int) = S 20 1 := by rw [E9.fl (by decide) (Or.inr rfl) (by decide)]; exact hn1
        have hn20 : (ad9 41 19 0 : Int) = S 20 2 := by rw [E9.fl (by decide) (Or.inr rfl) (by decide)]; exact hn2
        have hn30 : (ad9 41 20 0 : Int) = S 20 3 := by rw [E9.fl (by decide) (Or.inr rfl) (by decide)]; exact hn3
        have hn1 := hn10
        have hn2 := hn20
        have hn3 := hn30
        have hsh0 := hsh9
        have hsh9 : Sh ad9 S := ⟨hs, hn1, hn2, hn3⟩
        have e13 : ad9 13 2 0 = ad 13 2 0 := E9.lo (by decide) (by decide)
        have e0 : ad9 0 0 0 = ad 0 0 0 := E9.lo (by decide) (by decide)
        have e22 : ∀ x9 : Int, ad9 22 2 x9 = ad 22 2 x9 := fun x9 => E9.lo (by decide) (by decide)
        have e23 : ∀ x9 : Int, ad9 23 2 x9 = ad 23 2 x9 := fun x9 => E9.lo (by decide) (by decide)
        refine r_dup F dX5_isSame_308 rfl ?_
        refine r_iconst F dX5_isSame_309 ?_
        refine r_aload_n (x := ad9 13 2 0) (i := 0) F dX5_isSame_310 rfl (by rw [e13]; rfl) ?_
        refine gf_X5_16 F dX5_isSame_311 hs ?_
        refine r_iload_n (i := 3) F dX5_isSame_314 rfl rfl ?_
        refine ia_16 F dX5_isSame_315 hs (by omega) (by omega) ?_
        refine js_29 F dX5_isSame_316 hs29 (by omega) (by omega) (by omega) ?_
        refine r_dup F dX5_isSame_317 rfl ?_
        refine r_iconst F dX5_isSame_318 ?_
        refine r_aload_n (x := ad9 13 2 0) (i := 0) F dX5_isSame_319 rfl (by rw [e13]; rfl) ?_
        refine gf_X5_19 F dX5_isSame_320 hs ?_
        refine r_iload_n (i := 3) F dX5_isSame_323 rfl rfl ?_
        refine ia_17 F dX5_isSame_324 hs (by omega) (by omega) ?_
        refine js_29 F dX5_isSame_325 hs29 (by omega) (by omega) (by omega) ?_
        refine r_dup F dX5_isSame_326 rfl ?_
        refine r_iconst F dX5_isSame_327 ?_
        refine r_aload_n (x := ad9 13 2 0) (i := 0) F dX5_isSame_328 rfl (by rw [e13]; rfl) ?_
        refine gf_X5_19 F dX5_isSame_329 hs ?_
        refine r_iload_n (i := 3) F dX5_isSame_332 rfl rfl ?_
        refine ia_17 F dX5_isSame_333 hs (by omega) (by omega) ?_
        refine r_iconst F dX5_isSame_334 ?_
        refine r_rcmp_le (tgt := 342) F dX5_isSame_335 (by decide) (fun h335 => ?_) (fun h335 => ?_)
        · refine r_iconst F dX5_isSame_342 ?_
          refine js_29 F dX5_isSame_343 hs29 (by omega) (by omega) (by omega) ?_
          refine r_dup F dX5_isSame_344 rfl ?_
          refine r_iconst F dX5_isSame_345 ?_
          refine r_iload F dX5_isSame_346 rfl ?_
          refine js_29 F dX5_isSame_348 hs29 (by omega) (by omega) (by omega) ?_
          refine r_astore (lv1 := [_, _, _, _, _, _, _, _, _, _]) F dX5_isSame_349 (by decide) rfl rfl ?_
          refine r_iconst F dX5_isSame_351 ?_
          refine r_istore (lv1 := [_, _, _, _, _, _, _, _, _, _]) F dX5_isSame_352 (by decide) rfl rfl ?_
          refine V.kill (lv1 := [_, _, _, _, _, _, _, _, _, _]) 4 rfl ?_
          refine V.wide (kc1 := (28 + j.toNat)) (ks1 := (205 + 4 * j.toNat)) (by omega) (by omega) ?_
          refine hin kx ad9 E9 F _ (fun w g1 g2 => ?_) (fun k9 i9 hk9 => ?_) 4 0 (by decide) (by decide)
          · have hw9 : w = 0 ∨ w = 1 ∨ w = 2 ∨ w = 3 := by omega
            rcases hw9 with rfl | rfl | rfl | rfl <;> first | (simp [u2, codeF]; done) | (simp [u2, codeF]; omega) | (simp [u2, codeF]; rw [kn_t (by omega) h335]; rfl) | (simp [u2, codeF]; rw [kn_f (Or.inr h335)]; rfl)
          · simp [u2, zk, hk9]
        · refine r_iconst F dX5_isSame_338 ?_
          refine r_goto (tgt := 343) F dX5_isSame_339 (by decide) ?_
          refine js_29 F dX5_isSame_343 hs29 (by omega) (by omega) (by omega) ?_
          refine r_dup F dX5_isSame_344 rfl ?_
          refine r_iconst F dX5_isSame_345 ?_
          refine r_iload F dX5_isSame_346 rfl ?_
          refine js_29 F dX5_isSame_348 hs29 (by omega) (by omega) (by omega) ?_
          refine r_astore (lv1 := [_, _, _, _, _, _, _, _, _, _]) F dX5_isSame_349 (by decide) rfl rfl ?_
          refine r_iconst F dX5_isSame_351 ?_
          refine r_istore (lv1 := [_, _, _, _, _, _, _, _, _, _]) F dX5_isSame_352 (by decide) rfl rfl ?_
          refine V.kill (lv1 := [_, _, _, _, _, _, _, _, _, _]) 4 rfl ?_
          refine V.wide (kc1 := (28 + j.toNat)) (ks1 := (205 + 4 * j.toNat)) (by omega) (by omega) ?_
          refine hin kx ad9 E9 F _ (fun w g1 g2 => ?_) (fun k9 i9 hk9 => ?_) 4 0 (by decide) (by decide)
          · have hw9 : w = 0 ∨ w = 1 ∨ w = 2 ∨ w = 3 := by omega
            rcases hw9 with rfl | rfl | rfl | rfl <;> first | (simp [u2, codeF]; done) | (simp [u2, codeF]; omega) | (simp [u2, codeF]; rw [kn_t (by omega) h335]; rfl) | (simp [u2, codeF]; rw [kn_f (Or.inr h335)]; rfl)
          · simp [u2, zk, hk9]
      have hct : ∀ (n9 : Nat) (i : Int), 0 ≤ i → i + (n9 : Int) = S 20 3 → V p l e { frames := 6, cells := 49, slots := 311, locals := 30 * 6 } s m ([.ref (ad 13 2 0), .ref (ad 0 0 0)] : List Value).toArray below meth c 10 cy D ad (Aw ad s.heap.size) (27 + j.toNat) (201 + 4 * j.toNat) (MQ below (Qn cy D ad s.heap.size (some (.int (i32 (bi true)))) (setc M 2 S)) ([.ref (ad 13 2 0), .ref (ad 0 0 0)] : List Value).toArray s 49 311 (Aw ad s.heap.size)) 260 [some (.ref (ad 13 2 0)), some (.ref (ad 0 0 0)), some (.int (i32 0)), some (.int (i32 (j + 1))), some (.int (i32 (cnt (ldB S (j + 1)) i.toNat))), some (.ref (ad 20 2 0)), some (.int (i32 (S 20 3))), some (.int (i32 i)), none, none] [] (setc M 2 S) := by
        intro n9
        induction n9 with
        | zero =>
          intro i g0 g1
          refine r_iload F dX5_isSame_260 rfl ?_
          refine r_iload F dX5_isSame_262 rfl ?_
          refine r_icmp_ge (tgt := 305) F dX5_isSame_264 (by decide) (by first | assumption | exact ir_of (by omega) (by omega)) (by first | assumption | exact ir_of (by omega) (by omega)) (fun h264 => ?_) (fun h264 => ?_)
          · refine V.kill (lv1 := [_, _, _, _, _, _, _, _, _, _]) 5 rfl ?_
            refine V.kill (lv1 := [_, _, _, _, _, _, _, _, _, _]) 6 rfl ?_
            refine V.kill (lv1 := [_, _, _, _, _, _, _, _, _, _]) 7 rfl ?_
            rw [show cnt (ldB S (j + 1)) i.toNat = nLdB S (j + 1) from by rw [show i = S 20 3 by omega] <;> rfl]
            exact hmk
          · exfalso; omega
        | succ n9 ih9 =>
          intro i g0 g1
          have b18 := hI.p18 i
          have b16 := hI.p16 i
          have f0 := fm_0 (a := S 18 i) (by omega)
          have f1 := fm_bd (a := S 18 i) (by omega)
          refine r_iload F dX5_isSame_260 rfl ?_
          refine r_iload F dX5_isSame_262 rfl ?_
          refine r_icmp_ge (tgt := 305) F dX5_isSame_264 (by decide) (by first | assumption | exact ir_of (by omega) (by omega)) (by first | assumption | exact ir_of (by omega) (by omega)) (fun h264 => ?_) (fun h264 => ?_)
          · exfalso; omega
          · refine r_aload F dX5_isSame_267 rfl ?_
            refine r_iload F dX5_isSame_269 rfl ?_
            refine aa_20 F dX5_isSame_271 hs (by omega) (by omega) (by omega) ?_
            refine r_astore (lv1 := [_, _, _, _, _, _, _, _, _, _]) F dX5_isSame_272 (by decide) rfl rfl ?_
            refine r_iload F dX5_isSame_274 rfl ?_
            refine r_aload F dX5_isSame_276 rfl ?_
            refine r_iconst F dX5_isSame_278 ?_
            refine ia_23_3 F dX5_isSame_279 hs (by omega) (by omega) (by omega) ?_
            refine r_if_ne (tgt := 295) F dX5_isSame_280 (by decide) (by first | assumption | exact ir_of (by omega) (by omega)) (fun h280 => ?_) (fun h280 => ?_)
            · refine r_iconst F dX5_isSame_295 ?_
              refine r_iadd F dX5_isSame_296 ?_
              refine r_istore (lv1 := [_, _, _, _, _, _, _, _, _, _]) F dX5_isSame_297 (by decide) rfl rfl ?_
              refine r_iinc (lv1 := [_, _, _, _, _, _, _, _, _, _]) F dX5_isSame_299 rfl (by decide) rfl rfl ?_
              refine r_goto (tgt := 260) F dX5_isSame_302 (by decide) ?_
              refine V.kill (lv1 := [_, _, _, _, _, _, _, _, _, _]) 8 rfl ?_
              have t := ih9 (i + 1) (by omega) (by omega)
              first | (rw [cnt_S _ g0, show (ldB S (j + 1)) i = true from (by unfold ldB; rw [decide_eq_true (by omega), decide_eq_true (by omega)]; rfl), bi_t] at t; exact t) | (rw [cnt_S _ g0, show (ldB S (j + 1)) i = false from (by unfold ldB; first | (rw [decide_eq_false (show ¬ S 18 i = 0 by omega)]; rfl) | (rw [decide_eq_false (show ¬ S 16 i = j + 1 by omega), Bool.and_false])), bi_f] at t; exact t)
            · refine r_aload F dX5_isSame_283 rfl ?_
              refine r_iconst F dX5_isSame_285 ?_
              refine ia_23_5 F dX5_isSame_286 hs (by omega) (by omega) (by omega) ?_
              refine r_iload_n (i := 3) F dX5_isSame_287 rfl rfl ?_
              refine r_icmp_ne (tgt := 295) F dX5_isSame_288 (by decide) (by first | assumption | exact ir_of (by omega) (by omega)) (by first | assumption | exact ir_of (by omega) (by omega)) (fun h288 => ?_) (fun h288 => ?_)
              · refine r_iconst F dX5_isSame_295 ?_
                refine r_iadd F dX5_isSame_296 ?_
                refine r_istore (lv1 := [_, _, _, _, _, _, _, _, _, _]) F dX5_isSame_297 (by decide) rfl rfl ?_
                refine r_iinc (lv1 := [_, _, _, _, _, _, _, _, _, _]) F dX5_isSame_299 rfl (by decide) rfl rfl ?_
                refine r_goto (tgt := 260) F dX5_isSame_302 (by decide) ?_
                refine V.kill (lv1 := [_, _, _, _, _, _, _, _, _, _]) 8 rfl ?_
                have t := ih9 (i + 1) (by omega) (by omega)
                first | (rw [cnt_S _ g0, show (ldB S (j + 1)) i = true from (by unfold ldB; rw [decide_eq_true (by omega), decide_eq_true (by omega)]; rfl), bi_t] at t; exact t) | (rw [cnt_S _ g0, show (ldB S (j + 1)) i = false from (by unfold ldB; first | (rw [decide_eq_false (show ¬ S 18 i = 0 by omega)]; rfl) | (rw [decide_eq_false (show ¬ S 16 i = j + 1 by omega), Bool.and_false])), bi_f] at t; exact t)
              · refine r_iconst F dX5_isSame_291 ?_
                refine r_goto (tgt := 296) F dX5_isSame_292 (by decide) ?_
                refine r_iadd F dX5_isSame_296 ?_
                refine r_istore (lv1 := [_, _, _, _, _, _, _, _, _, _]) F dX5_isSame_297 (by decide) rfl rfl ?_
                refine r_iinc (lv1 := [_, _, _, _, _, _, _, _, _, _]) F dX5_isSame_299 rfl (by decide) rfl rfl ?_
                refine r_goto (tgt := 260) F dX5_isSame_302 (by decide) ?_
                refine V.kill (lv1 := [_, _, _, _, _, _, _, _, _, _]) 8 rfl ?_
                have t := ih9 (i + 1) (by omega) (by omega)
                first | (rw [cnt_S _ g0, show (ldB S (j + 1)) i = true from (by unfold ldB; rw [decide_eq_true (by omega), decide_eq_true (by omega)]; rfl), bi_t] at t; exact t) | (rw [cnt_S _ g0, show (ldB S (j + 1)) i = false from (by unfold ldB; first | (rw [decide_eq_false (show ¬ S 18 i = 0 by omega)]; rfl) | (rw [decide_eq_false (show ¬ S 16 i = j + 1 by omega), Bool.and_false])), bi_f] at t; exact t)
      refine r_iload_n (i := 3) F dX5_isSame_237 rfl rfl ?_
      refine r_bipush F dX5_isSame_238 (by decide) ?_
      refine r_icmp_ge (tgt := 389) F dX5_isSame_240 (by decide) (by first | assumption | exact ir_of (by omega) (by omega)) (by first | assumption | exact ir_of (by omega) (by omega)) (fun h240 => ?_) (fun h240 => ?_)
      · exfalso; omega
      · refine r_iconst F dX5_isSame_243 ?_
        refine r_istore (lv1 := [_, _, _, _, _, _, _, _, _, _]) F dX5_isSame_244 (by decide) rfl rfl ?_
        refine r_aload_n (i := 0) F dX5_isSame_246 rfl rfl ?_
        refine gf_X5_30 F dX5_isSame_247 hs ?_
        refine r_astore (lv1 := [_, _, _, _, _, _, _, _, _, _]) F dX5_isSame_250 (by decide) rfl rfl ?_
        refine r_aload F dX5_isSame_252 rfl ?_
        refine al_20 F dX5_isSame_254 hs hn3 ?_
        refine r_istore (lv1 := [_, _, _, _, _, _, _, _, _, _]) F dX5_isSame_255 (by decide) rfl rfl ?_
        refine r_iconst F dX5_isSame_257 ?_
        refine r_istore (lv1 := [_, _, _, _, _, _, _, _, _, _]) F dX5_isSame_258 (by decide) rfl rfl ?_
        exact hct (S 20 3).toNat 0 (by decide) (by omega)
  have h2 : ∀ (n : Nat) (j : Int), 0 ≤ j → j + (n : Int) = 16 → V p l e { frames := 6, cells := 49, slots := 311, locals := 30 * 6 } s m ([.ref (ad 13 2 0), .ref (ad 0 0 0)] : List Value).toArray below meth c 10 cy D ad (Aw ad s.heap.size) (11 + j.toNat) (121 + 5 * j.toNat) (MQ below (Qn cy D ad s.heap.size (some (.int (i32 (bi true)))) (setc M 2 S)) ([.ref (ad 13 2 0), .ref (ad 0 0 0)] : List Value).toArray s 49 311 (Aw ad s.heap.size)) 33 [some (.ref (ad 13 2 0)), some (.ref (ad 0 0 0)), some (.int (i32 0)), some (.int (i32 j)), none, none, none, none, none, none] [] (setc M 2 S) := by
    intro n
    induction n with
    | zero =>
      intro j h0 h1
      refine r_iload_n (i := 3) F dX5_isSame_33 rfl rfl ?_
      refine r_bipush F dX5_isSame_34 (by decide) ?_
      refine r_icmp_ge (tgt := 235) F dX5_isSame_36 (by decide) (by first | assumption | exact ir_of (by omega) (by omega)) (by first | assumption | exact ir_of (by omega) (by omega)) (fun h36 => ?_) (fun h36 => ?_)
      · refine r_iconst F dX5_isSame_235 ?_
        refine r_istore_n (i := 3) (lv1 := [_, _, _, _, _, _, _, _, _, _]) F dX5_isSame_236 rfl (by decide) rfl rfl ?_
        refine V.wide (kc1 := 27 + (0 : Int).toNat) (ks1 := 201 + 4 * (0 : Int).toNat) (by show _ ≤ 27; omega) (by show _ ≤ 201; omega) ?_
        exact h3 7 0 (by decide) (by decide)
      · exfalso; omega
    | succ n ih =>
      intro j h0 h1
      have kx : V p l e { frames := 6, cells := 49, slots := 311, locals := 30 * 6 } s m ([.ref (ad 13 2 0), .ref (ad 0 0 0)] : List Value).toArray below meth c 10 cy D ad (Aw ad s.heap.size) (12 + j.toNat) (126 + 5 * j.toNat) (MQ below (Qn cy D ad s.heap.size (some (.int (i32 (bi true)))) (setc M 2 S)) ([.ref (ad 13 2 0), .ref (ad 0 0 0)] : List Value).toArray s 49 311 (Aw ad s.heap.size)) 229 [some (.ref (ad 13 2 0)), some (.ref (ad 0 0 0)), some (.int (i32 0)), some (.int (i32 j)), none, none, none, none, none, none] [] (setc M 2 S) := by
        refine r_iinc (lv1 := [_, _, _, _, _, _, _, _, _, _]) F dX5_isSame_229 rfl (by decide) rfl rfl ?_
        refine r_goto (tgt := 33) F dX5_isSame_232 (by decide) ?_
        refine V.wide (kc1 := 11 + (j + 1).toNat) (ks1 := 121 + 5 * (j + 1).toNat) (by omega) (by omega) ?_
        exact ih (j + 1) (by omega) (by omega)
      have hin : V p l e { frames := 6, cells := 49, slots := 311, locals := 30 * 6 } s m ([.ref (ad 13 2 0), .ref (ad 0 0 0)] : List Value).toArray below meth c 10 cy D ad (Aw ad s.heap.size) (12 + j.toNat) (126 + 5 * j.toNat) (MQ below (Qn cy D ad s.heap.size (some (.int (i32 (bi true)))) (setc M 2 S)) ([.ref (ad 13 2 0), .ref (ad 0 0 0)] : List Value).toArray s 49 311 (Aw ad s.heap.size)) 229 [some (.ref (ad 13 2 0)), some (.ref (ad 0 0 0)), some (.int (i32 0)), some (.int (i32 j)), none, none, none, none, none, none] [] (setc M 2 S) → ∀ ad9 : Nat → Nat → Int → Nat, Ext ad ad9 29 5 → Fx p s m ([.ref (ad 13 2 0), .ref (ad 0 0 0)] : List Value).toArray meth c yX5_isSame.cls cX5_isSame 10 (some FieldType.boolean) cy D ad9 (Aw ad s.heap.size) → ∀ T9 : St, (∀ w : Int, 0 ≤ w → w < 5 → placeF S j w = T9 5 w) → (∀ (k : Nat) (i : Int), k ≠ 5 → T9 k i = M 4 k i) → ∀ (n9 : Nat) (i : Int), 0 ≤ i → i + (n9 : Int) = 5 → V p l e { frames := 6, cells := 49, slots := 311, locals := 30 * 6 } s m ([.ref (ad 13 2 0), .ref (ad 0 0 0)] : List Value).toArray below meth c 10 cy D ad9 (Aw ad s.heap.size) (12 + j.toNat) (126 + 5 * j.toNat) (MQ below (Qn cy D ad s.heap.size (some (.int (i32 (bi true)))) (setc M 2 S)) ([.ref (ad 13 2 0), .ref (ad 0 0 0)] : List Value).toArray s 49 311 (Aw ad s.heap.size)) 200 [some (.ref (ad 13 2 0)), some (.ref (ad 0 0 0)), some (.int (i32 0)), some (.int (i32 j)), none, none, some (.ref (ad9 29 2 0)), some (.int (i32 i)), none, none] [] (setc (setc M 4 T9) 2 S) := by
        intro kx ad9 E9 F T9 hT hT0
        have hl29 : (ad9 41 29 0 : Int) = 5 := by rw [E9.2.1]; rfl
        have hs29 := E9.1
        have hs0 := hs
        have hs : ad9 40 13 0 = 1 := (E9.fl (by decide) (Or.inl rfl) (by decide)).trans hs0
        have hn10 : (ad9 41 18 0 : Int) = S 20 1 := by rw [E9.fl (by decide) (Or.inr rfl) (by decide)]; exact hn1
        have hn20 : (ad9 41 19 0 : Int) = S 20 2 := by rw [E9.fl (by decide) (Or.inr rfl) (by decide)]; exact hn2
        have hn30 : (ad9 41 20 0 : Int) = S 20 3 := by rw [E9.fl (by decide) (Or.inr rfl) (by decide)]; exact hn3
        have hn1 := hn10
        have hn2 := hn20
        have hn3 := hn30
        have hsh0 := hsh9
        have hsh9 : Sh ad9 S := ⟨hs, hn1, hn2, hn3⟩
        have e13 : ad9 13 2 0 = ad 13 2 0 := E9.lo (by decide) (by decide)
        have e0 : ad9 0 0 0 = ad 0 0 0 := E9.lo (by decide) (by decide)
        have e22 : ∀ x9 : Int, ad9 22 2 x9 = ad 22 2 x9 := fun x9 => E9.lo (by decide) (by decide)
        have e23 : ∀ x9 : Int, ad9 23 2 x9 = ad 23 2 x9 := fun x9 => E9.lo (by decide) (by decide)
        have hX0 : (setc (setc M 4 T9) 2 S) 0 = S := hM0
        intro n9
        induction n9 with
        | zero =>
          intro i g0 g1
          refine r_iload F dX5_isSame_200 rfl ?_
          refine r_iconst F dX5_isSame_202 ?_
          refine r_icmp_ge (tgt := 229) F dX5_isSame_203 (by decide) (by first | assumption | exact ir_of (by omega) (by omega)) (by first | assumption | exact ir_of (by omega) (by omega)) (fun h203 => ?_) (fun h203 => ?_)
          · refine V.kill (lv1 := [_, _, _, _, _, _, _, _, _, _]) 6 rfl ?_
            refine V.kill (lv1 := [_, _, _, _, _, _, _, _, _, _]) 7 rfl ?_
            refine V.drop (M := setc M 2 S) (E9.less (by decide) hz29 hz32 (j_oth M T9 S 29 (by decide) (fun k9 i9 hk9 => hT0 k9 i9 hk9))) ?_
            exact kx
          · exfalso; omega
        | succ n9 ih9 =>
          intro i g0 g1
          refine r_iload F dX5_isSame_200 rfl ?_
          refine r_iconst F dX5_isSame_202 ?_
          refine r_icmp_ge (tgt := 229) F dX5_isSame_203 (by decide) (by first | assumption | exact ir_of (by omega) (by omega)) (by first | assumption | exact ir_of (by omega) (by omega)) (fun h203 => ?_) (fun h203 => ?_)
          · exfalso; omega
          · refine r_aload_n (x := ad9 0 0 0) (i := 1) F dX5_isSame_206 rfl (by rw [e0]; rfl) ?_
            refine r_iload_n (i := 3) F dX5_isSame_207 rfl rfl ?_
            refine r_iload F dX5_isSame_208 rfl ?_
            refine r_callV F (K_X4_place hX0 hI hhc ⟨by omega, by omega⟩ ⟨by omega, by omega⟩) dX5_isSame_210 lkv_X5_98 rfl rfl rfl rfl rfl cd_X4_place (by decide) ⟨by show _ ≤ 49; omega, by show _ ≤ 311; omega⟩ (Nat.le_of_ble_eq_true rfl) ?_
            refine r_aload F dX5_isSame_213 rfl ?_
            refine r_iload F dX5_isSame_215 rfl ?_
            refine jg_29 F dX5_isSame_217 hs29 (by omega) (by omega) (by omega) ?_
            refine r_ceq (tgt := 223) F dX5_isSame_218 (by decide) (hT i g0 (by omega)) ?_
            refine r_iinc (lv1 := [_, _, _, _, _, _, _, _, _, _]) F dX5_isSame_223 rfl (by decide) rfl rfl ?_
            refine r_goto (tgt := 200) F dX5_isSame_226 (by decide) ?_
            exact ih9 (i + 1) (by omega) (by omega)
      have hmk : V p l e { frames := 6, cells := 49, slots := 311, locals := 30 * 6 } s m ([.ref (ad 13 2 0), .ref (ad 0 0 0)] : List Value).toArray below meth c 10 cy D ad (Aw ad s.heap.size) (11 + j.toNat) (121 + 5 * j.toNat) (MQ below (Qn cy D ad s.heap.size (some (.int (i32 (bi true)))) (setc M 2 S)) ([.ref (ad 13 2 0), .ref (ad 0 0 0)] : List Value).toArray s 49 311 (Aw ad s.heap.size)) 156 [some (.ref (ad 13 2 0)), some (.ref (ad 0 0 0)), some (.int (i32 0)), some (.int (i32 j)), some (.int (i32 (nAtW S j))), some (.int (i32 (nAtB S j))), none, none, none, none] [] (setc M 2 S) := by
        refine r_iconst F dX5_isSame_156 ?_
        refine V.cast (j_self M S) ?_
        refine j_newa F 29 (by decide) hz29 hz32 5 dX5_isSame_157 rfl (by decide) ⟨by show _ ≤ 49; omega, by show _ ≤ 311; omega⟩ (fun ad9 E9 F => ?_)
        have hl29 : (ad9 41 29 0 : Int) = 5 := by rw [E9.2.1]; rfl
        have hs29 := E9.1
        have hs0 := hs
        have hs : ad9 40 13 0 = 1 := (E9.fl (by decide) (Or.inl rfl) (by decide)).trans hs0
        have hn10 : (ad9 41 18 0 : Int) = S 20 1 := by rw [E9.fl (by decide) (Or.inr rfl) (by decide)]; exact hn1
        have hn20 : (ad9 41 19 0 : Int) = S 20 2 := by rw [E9.fl (by decide) (Or.inr rfl) (by decide)]; exact hn2
        have hn30 : (ad9 41 20 0 : Int) = S 20 3 := by rw [E9.fl (by decide) (Or.inr rfl) (by decide)]; exact hn3
        have hn1 := hn10
        have hn2 := hn20
        have hn3 := hn30
        have hsh0 := hsh9
        have hsh9 : Sh ad9 S := ⟨hs, hn1, hn2, hn3⟩
        have e13 : ad9 13 2 0 = ad 13 2 0 := E9.lo (by decide) (by decide)
        have e0 : ad9 0 0 0 = ad 0 0 0 := E9.lo (by decide) (by decide)
        have e22 : ∀ x9 : Int, ad9 22 2 x9 = ad 22 2 x9 := fun x9 => E9.lo (by decide) (by decide)
        have e23 : ∀ x9 : Int, ad9 23 2 x9 = ad 23 2 x9 := fun x9 => E9.lo (by decide) (by decide)
        refine r_dup F dX5_isSame_159 rfl ?_
        refine r_iconst F dX5_isSame_160 ?_
        refine r_aload_n (x := ad9 13 2 0) (i := 0) F dX5_isSame_161 rfl (by rw [e13]; rfl) ?_
        refine gf_X5_7 F dX5_isSame_162 hs ?_
        refine r_iload_n (i := 3) F dX5_isSame_165 rfl rfl ?_
        refine ia_14 F dX5_isSame_166 hs (by omega) (by omega) ?_
        refine js_29 F dX5_isSame_167 hs29 (by omega) (by omega) (by omega) ?_
        refine r_dup F dX5_isSame_168 rfl ?_
        refine r_iconst F dX5_isSame_169 ?_
        refine r_aload_n (x := ad9 13 2 0) (i := 0) F dX5_isSame_170 rfl (by rw [e13]; rfl) ?_
        refine gf_X5_13 F dX5_isSame_171 hs ?_
        refine r_iload_n (i := 3) F dX5_isSame_174 rfl rfl ?_
        refine ia_15 F dX5_isSame_175 hs (by omega) (by omega) ?_
        refine js_29 F dX5_isSame_176 hs29 (by omega) (by omega) (by omega) ?_
        refine r_dup F dX5_isSame_177 rfl ?_
        refine r_iconst F dX5_isSame_178 ?_
        refine r_iload F dX5_isSame_179 rfl ?_
        refine js_29 F dX5_isSame_181 hs29 (by omega) (by omega) (by omega) ?_
        refine r_dup F dX5_isSame_182 rfl ?_
        refine r_iconst F dX5_isSame_183 ?_
        refine r_iload F dX5_isSame_184 rfl ?_
        refine js_29 F dX5_isSame_186 hs29 (by omega) (by omega) (by omega) ?_
        refine r_dup F dX5_isSame_187 rfl ?_
        refine r_iconst F dX5_isSame_188 ?_
        refine r_aload_n (x := ad9 13 2 0) (i := 0) F dX5_isSame_189 rfl (by rw [e13]; rfl) ?_
        refine r_iload_n (i := 3) F dX5_isSame_190 rfl rfl ?_
        refine r_callV F (C_X5_watchers hsh9 hh hI ⟨by omega, by omega⟩) dX5_isSame_191 lkv_X5_95 rfl rfl (dm13 hs) rfl rfl cd_X5_watchers (by decide) ⟨by show _ ≤ 49; omega, by show _ ≤ 311; omega⟩ (Nat.le_of_ble_eq_true rfl) ?_
        refine js_29 F dX5_isSame_194 hs29 (by omega) (by omega) (by omega) ?_
        refine r_astore (lv1 := [_, _, _, _, _, _, _, _, _, _]) F dX5_isSame_195 (by decide) rfl rfl ?_
        refine r_iconst F dX5_isSame_197 ?_
        refine r_istore (lv1 := [_, _, _, _, _, _, _, _, _, _]) F dX5_isSame_198 (by decide) rfl rfl ?_
        refine V.kill (lv1 := [_, _, _, _, _, _, _, _, _, _]) 4 rfl ?_
        refine V.kill (lv1 := [_, _, _, _, _, _, _, _, _, _]) 5 rfl ?_
        refine V.wide (kc1 := (12 + j.toNat)) (ks1 := (126 + 5 * j.toNat)) (by omega) (by omega) ?_
        refine hin kx ad9 E9 F _ (fun w g1 g2 => ?_) (fun k9 i9 hk9 => ?_) 5 0 (by decide) (by decide)
        · have hw9 : w = 0 ∨ w = 1 ∨ w = 2 ∨ w = 3 ∨ w = 4 := by omega
          rcases hw9 with rfl | rfl | rfl | rfl | rfl <;> first | (simp [u2, placeF]; done) | (simp [u2, placeF]; omega)
        · simp [u2, zk, hk9]
      have hcb : ∀ (n9 : Nat) (i : Int), 0 ≤ i → i + (n9 : Int) = S 20 3 → V p l e { frames := 6, cells := 49, slots := 311, locals := 30 * 6 } s m ([.ref (ad 13 2 0), .ref (ad 0 0 0)] : List Value).toArray below meth c 10 cy D ad (Aw ad s.heap.size) (11 + j.toNat) (121 + 5 * j.toNat) (MQ below (Qn cy D ad s.heap.size (some (.int (i32 (bi true)))) (setc M 2 S)) ([.ref (ad 13 2 0), .ref (ad 0 0 0)] : List Value).toArray s 49 311 (Aw ad s.heap.size)) 111 [some (.ref (ad 13 2 0)), some (.ref (ad 0 0 0)), some (.int (i32 0)), some (.int (i32 j)), some (.int (i32 (nAtW S j))), some (.int (i32 (cnt (atB S j) i.toNat))), some (.ref (ad 20 2 0)), some (.int (i32 (S 20 3))), some (.int (i32 i)), none] [] (setc M 2 S) := by
        intro n9
        induction n9 with
        | zero =>
          intro i g0 g1
          refine r_iload F dX5_isSame_111 rfl ?_
          refine r_iload F dX5_isSame_113 rfl ?_
          refine r_icmp_ge (tgt := 156) F dX5_isSame_115 (by decide) (by first | assumption | exact ir_of (by omega) (by omega)) (by first | assumption | exact ir_of (by omega) (by omega)) (fun h115 => ?_) (fun h115 => ?_)
          · refine V.kill (lv1 := [_, _, _, _, _, _, _, _, _, _]) 6 rfl ?_
            refine V.kill (lv1 := [_, _, _, _, _, _, _, _, _, _]) 7 rfl ?_
            refine V.kill (lv1 := [_, _, _, _, _, _, _, _, _, _]) 8 rfl ?_
            rw [show cnt (atB S j) i.toNat = nAtB S j from by rw [show i = S 20 3 by omega] <;> rfl]
            exact hmk
          · exfalso; omega
        | succ n9 ih9 =>
          intro i g0 g1
          have b18 := hI.p18 i
          have b13 := hI.p13 i
          have f0 := fm_0 (a := S 18 i) (by omega)
          have f1 := fm_bd (a := S 18 i) (by omega)
          refine r_iload F dX5_isSame_111 rfl ?_
          refine r_iload F dX5_isSame_113 rfl ?_
          refine r_icmp_ge (tgt := 156) F dX5_isSame_115 (by decide) (by first | assumption | exact ir_of (by omega) (by omega)) (by first | assumption | exact ir_of (by omega) (by omega)) (fun h115 => ?_) (fun h115 => ?_)
          · exfalso; omega
          · refine r_aload F dX5_isSame_118 rfl ?_
            refine r_iload F dX5_isSame_120 rfl ?_
            refine aa_20 F dX5_isSame_122 hs (by omega) (by omega) (by omega) ?_
            refine r_astore (lv1 := [_, _, _, _, _, _, _, _, _, _]) F dX5_isSame_123 (by decide) rfl rfl ?_
            refine r_iload F dX5_isSame_125 rfl ?_
            refine r_aload F dX5_isSame_127 rfl ?_
            refine r_iconst F dX5_isSame_129 ?_
            refine ia_23_3 F dX5_isSame_130 hs (by omega) (by omega) (by omega) ?_
            refine r_if_ne (tgt := 146) F dX5_isSame_131 (by decide) (by first | assumption | exact ir_of (by omega) (by omega)) (fun h131 => ?_) (fun h131 => ?_)
            · refine r_iconst F dX5_isSame_146 ?_
              refine r_iadd F dX5_isSame_147 ?_
              refine r_istore (lv1 := [_, _, _, _, _, _, _, _, _, _]) F dX5_isSame_148 (by decide) rfl rfl ?_
              refine r_iinc (lv1 := [_, _, _, _, _, _, _, _, _, _]) F dX5_isSame_150 rfl (by decide) rfl rfl ?_
              refine r_goto (tgt := 111) F dX5_isSame_153 (by decide) ?_
              refine V.kill (lv1 := [_, _, _, _, _, _, _, _, _, _]) 9 rfl ?_
              have t := ih9 (i + 1) (by omega) (by omega)
              first | (rw [cnt_S _ g0, show (atB S j) i = true from (by unfold atB; rw [decide_eq_true (by omega), decide_eq_true (by omega)]; rfl), bi_t] at t; exact t) | (rw [cnt_S _ g0, show (atB S j) i = false from (by unfold atB; first | (rw [decide_eq_false (show ¬ S 18 i = 0 by omega)]; rfl) | (rw [decide_eq_false (show ¬ S 13 i = j by omega), Bool.and_false])), bi_f] at t; exact t)
            · refine r_aload F dX5_isSame_134 rfl ?_
              refine r_iconst F dX5_isSame_136 ?_
              refine ia_23_0 F dX5_isSame_137 hs (by omega) (by omega) (by omega) ?_
              refine r_iload_n (i := 3) F dX5_isSame_138 rfl rfl ?_
              refine r_icmp_ne (tgt := 146) F dX5_isSame_139 (by decide) (by first | assumption | exact ir_of (by omega) (by omega)) (by first | assumption | exact ir_of (by omega) (by omega)) (fun h139 => ?_) (fun h139 => ?_)
              · refine r_iconst F dX5_isSame_146 ?_
                refine r_iadd F dX5_isSame_147 ?_
                refine r_istore (lv1 := [_, _, _, _, _, _, _, _, _, _]) F dX5_isSame_148 (by decide) rfl rfl ?_
                refine r_iinc (lv1 := [_, _, _, _, _, _, _, _, _, _]) F dX5_isSame_150 rfl (by decide) rfl rfl ?_
                refine r_goto (tgt := 111) F dX5_isSame_153 (by decide) ?_
                refine V.kill (lv1 := [_, _, _, _, _, _, _, _, _, _]) 9 rfl ?_
                have t := ih9 (i + 1) (by omega) (by omega)
                first | (rw [cnt_S _ g0, show (atB S j) i = true from (by unfold atB; rw [decide_eq_true (by omega), decide_eq_true (by omega)]; rfl), bi_t] at t; exact t) | (rw [cnt_S _ g0, show (atB S j) i = false from (by unfold atB; first | (rw [decide_eq_false (show ¬ S 18 i = 0 by omega)]; rfl) | (rw [decide_eq_false (show ¬ S 13 i = j by omega), Bool.and_false])), bi_f] at t; exact t)
              · refine r_iconst F dX5_isSame_142 ?_
                refine r_goto (tgt := 147) F dX5_isSame_143 (by decide) ?_
                refine r_iadd F dX5_isSame_147 ?_
                refine r_istore (lv1 := [_, _, _, _, _, _, _, _, _, _]) F dX5_isSame_148 (by decide) rfl rfl ?_
                refine r_iinc (lv1 := [_, _, _, _, _, _, _, _, _, _]) F dX5_isSame_150 rfl (by decide) rfl rfl ?_
                refine r_goto (tgt := 111) F dX5_isSame_153 (by decide) ?_
                refine V.kill (lv1 := [_, _, _, _, _, _, _, _, _, _]) 9 rfl ?_
                have t := ih9 (i + 1) (by omega) (by omega)
                first | (rw [cnt_S _ g0, show (atB S j) i = true from (by unfold atB; rw [decide_eq_true (by omega), decide_eq_true (by omega)]; rfl), bi_t] at t; exact t) | (rw [cnt_S _ g0, show (atB S j) i = false from (by unfold atB; first | (rw [decide_eq_false (show ¬ S 18 i = 0 by omega)]; rfl) | (rw [decide_eq_false (show ¬ S 13 i = j by omega), Bool.and_false])), bi_f] at t; exact t)
      have hcw : ∀ (n9 : Nat) (i : Int), 0 ≤ i → i + (n9 : Int) = S 20 2 → V p l e { frames := 6, cells := 49, slots := 311, locals := 30 * 6 } s m ([.ref (ad 13 2 0), .ref (ad 0 0 0)] : List Value).toArray below meth c 10 cy D ad (Aw ad s.heap.size) (11 + j.toNat) (121 + 5 * j.toNat) (MQ below (Qn cy D ad s.heap.size (some (.int (i32 (bi true)))) (setc M 2 S)) ([.ref (ad 13 2 0), .ref (ad 0 0 0)] : List Value).toArray s 49 311 (Aw ad s.heap.size)) 59 [some (.ref (ad 13 2 0)), some (.ref (ad 0 0 0)), some (.int (i32 0)), some (.int (i32 j)), some (.int (i32 (cnt (atW S j) i.toNat))), some (.int (i32 0)), some (.ref (ad 19 2 0)), some (.int (i32 (S 20 2))), some (.int (i32 i)), none] [] (setc M 2 S) := by
        intro n9
        induction n9 with
        | zero =>
          intro i g0 g1
          refine r_iload F dX5_isSame_59 rfl ?_
          refine r_iload F dX5_isSame_61 rfl ?_
          refine r_icmp_ge (tgt := 97) F dX5_isSame_63 (by decide) (by first | assumption | exact ir_of (by omega) (by omega)) (by first | assumption | exact ir_of (by omega) (by omega)) (fun h63 => ?_) (fun h63 => ?_)
          · refine r_aload_n (i := 0) F dX5_isSame_97 rfl rfl ?_
            refine gf_X5_30 F dX5_isSame_98 hs ?_
            refine r_astore (lv1 := [_, _, _, _, _, _, _, _, _, _]) F dX5_isSame_101 (by decide) rfl rfl ?_
            refine r_aload F dX5_isSame_103 rfl ?_
            refine al_20 F dX5_isSame_105 hs hn3 ?_
            refine r_istore (lv1 := [_, _, _, _, _, _, _, _, _, _]) F dX5_isSame_106 (by decide) rfl rfl ?_
            refine r_iconst F dX5_isSame_108 ?_
            refine r_istore (lv1 := [_, _, _, _, _, _, _, _, _, _]) F dX5_isSame_109 (by decide) rfl rfl ?_
            rw [show cnt (atW S j) i.toNat = nAtW S j from by rw [show i = S 20 2 by omega] <;> rfl]
            exact hcb (S 20 3).toNat 0 (by decide) (by omega)
          · exfalso; omega
        | succ n9 ih9 =>
          intro i g0 g1
          have bw := hI.pw i
          refine r_iload F dX5_isSame_59 rfl ?_
          refine r_iload F dX5_isSame_61 rfl ?_
          refine r_icmp_ge (tgt := 97) F dX5_isSame_63 (by decide) (by first | assumption | exact ir_of (by omega) (by omega)) (by first | assumption | exact ir_of (by omega) (by omega)) (fun h63 => ?_) (fun h63 => ?_)
          · exfalso; omega
          · refine r_aload F dX5_isSame_66 rfl ?_
            refine r_iload F dX5_isSame_68 rfl ?_
            refine aa_19 F dX5_isSame_70 hs (by omega) (by omega) (by omega) ?_
            refine r_astore (lv1 := [_, _, _, _, _, _, _, _, _, _]) F dX5_isSame_71 (by decide) rfl rfl ?_
            refine r_iload F dX5_isSame_73 rfl ?_
            refine r_aload F dX5_isSame_75 rfl ?_
            refine r_iconst F dX5_isSame_77 ?_
            refine ia_22_3 F dX5_isSame_78 hs (by omega) (by omega) (by omega) ?_
            refine r_iload_n (i := 3) F dX5_isSame_79 rfl rfl ?_
            refine r_icmp_ne (tgt := 87) F dX5_isSame_80 (by decide) (by first | assumption | exact ir_of (by omega) (by omega)) (by first | assumption | exact ir_of (by omega) (by omega)) (fun h80 => ?_) (fun h80 => ?_)
            · refine r_iconst F dX5_isSame_87 ?_
              refine r_iadd F dX5_isSame_88 ?_
              refine r_istore (lv1 := [_, _, _, _, _, _, _, _, _, _]) F dX5_isSame_89 (by decide) rfl rfl ?_
              refine r_iinc (lv1 := [_, _, _, _, _, _, _, _, _, _]) F dX5_isSame_91 rfl (by decide) rfl rfl ?_
              refine r_goto (tgt := 59) F dX5_isSame_94 (by decide) ?_
              refine V.kill (lv1 := [_, _, _, _, _, _, _, _, _, _]) 9 rfl ?_
              have t := ih9 (i + 1) (by omega) (by omega)
              first | (rw [cnt_S _ g0, show (atW S j) i = true from (by unfold atW; rw [decide_eq_true (by omega)]), bi_t] at t; exact t) | (rw [cnt_S _ g0, show (atW S j) i = false from (by unfold atW; rw [decide_eq_false (by omega)]), bi_f] at t; exact t)
            · refine r_iconst F dX5_isSame_83 ?_
              refine r_goto (tgt := 88) F dX5_isSame_84 (by decide) ?_
              refine r_iadd F dX5_isSame_88 ?_
              refine r_istore (lv1 := [_, _, _, _, _, _, _, _, _, _]) F dX5_isSame_89 (by decide) rfl rfl ?_
              refine r_iinc (lv1 := [_, _, _, _, _, _, _, _, _, _]) F dX5_isSame_91 rfl (by decide) rfl rfl ?_
              refine r_goto (tgt := 59) F dX5_isSame_94 (by decide) ?_
              refine V.kill (lv1 := [_, _, _, _, _, _, _, _, _, _]) 9 rfl ?_
              have t := ih9 (i + 1) (by omega) (by omega)
              first | (rw [cnt_S _ g0, show (atW S j) i = true from (by unfold atW; rw [decide_eq_true (by omega)]), bi_t] at t; exact t) | (rw [cnt_S _ g0, show (atW S j) i = false from (by unfold atW; rw [decide_eq_false (by omega)]), bi_f] at t; exact t)
      refine r_iload_n (i := 3) F dX5_isSame_33 rfl rfl ?_
      refine r_bipush F dX5_isSame_34 (by decide) ?_
      refine r_icmp_ge (tgt := 235) F dX5_isSame_36 (by decide) (by first | assumption | exact ir_of (by omega) (by omega)) (by first | assumption | exact ir_of (by omega) (by omega)) (fun h36 => ?_) (fun h36 => ?_)
      · exfalso; omega
      · refine r_iconst F dX5_isSame_39 ?_
        refine r_istore (lv1 := [_, _, _, _, _, _, _, _, _, _]) F dX5_isSame_40 (by decide) rfl rfl ?_
        refine r_iconst F dX5_isSame_42 ?_
        refine r_istore (lv1 := [_, _, _, _, _, _, _, _, _, _]) F dX5_isSame_43 (by decide) rfl rfl ?_
        refine r_aload_n (i := 0) F dX5_isSame_45 rfl rfl ?_
        refine gf_X5_27 F dX5_isSame_46 hs ?_
        refine r_astore (lv1 := [_, _, _, _, _, _, _, _, _, _]) F dX5_isSame_49 (by decide) rfl rfl ?_
        refine r_aload F dX5_isSame_51 rfl ?_
        refine al_19 F dX5_isSame_53 hs hn2 ?_
        refine r_istore (lv1 := [_, _, _, _, _, _, _, _, _, _]) F dX5_isSame_54 (by decide) rfl rfl ?_
        refine r_iconst F dX5_isSame_56 ?_
        refine r_istore (lv1 := [_, _, _, _, _, _, _, _, _, _]) F dX5_isSame_57 (by decide) rfl rfl ?_
        exact hcw (S 20 2).toNat 0 (by decide) (by omega)
  have h1 : ∀ (n : Nat) (j : Int), 0 ≤ j → j + (n : Int) = 11 → V p l e { frames := 6, cells := 49, slots := 311, locals := 30 * 6 } s m ([.ref (ad 13 2 0), .ref (ad 0 0 0)] : List Value).toArray below meth c 10 cy D ad (Aw ad s.heap.size) j.toNat (11 * j.toNat) (MQ below (Qn cy D ad s.heap.size (some (.int (i32 (bi true)))) (setc M 2 S)) ([.ref (ad 13 2 0), .ref (ad 0 0 0)] : List Value).toArray s 49 311 (Aw ad s.heap.size)) 2 [some (.ref (ad 13 2 0)), some (.ref (ad 0 0 0)), some (.int (i32 j)), none, none, none, none, none, none, none] [] (setc M 2 S) := by
    intro n
    induction n with
    | zero =>
      intro j h0 h1
      refine r_iload_n (i := 2) F dX5_isSame_2 rfl rfl ?_
      refine r_bipush F dX5_isSame_3 (by decide) ?_
      refine r_icmp_ge (tgt := 29) F dX5_isSame_5 (by decide) (by first | assumption | exact ir_of (by omega) (by omega)) (by first | assumption | exact ir_of (by omega) (by omega)) (fun h5 => ?_) (fun h5 => ?_)
      · refine r_iconst F dX5_isSame_29 ?_
        refine r_istore_n (i := 2) (lv1 := [_, _, _, _, _, _, _, _, _, _]) F dX5_isSame_30 rfl (by decide) rfl rfl ?_
        refine r_iconst F dX5_isSame_31 ?_
        refine r_istore_n (i := 3) (lv1 := [_, _, _, _, _, _, _, _, _, _]) F dX5_isSame_32 rfl (by decide) rfl rfl ?_
        refine V.wide (kc1 := 11 + (0 : Int).toNat) (ks1 := 121 + 5 * (0 : Int).toNat) (by show _ ≤ 11; omega) (by show _ ≤ 121; omega) ?_
        exact h2 16 0 (by decide) (by decide)
      · exfalso; omega
    | succ n ih =>
      intro j h0 h1
      refine r_iload_n (i := 2) F dX5_isSame_2 rfl rfl ?_
      refine r_bipush F dX5_isSame_3 (by decide) ?_
      refine r_icmp_ge (tgt := 29) F dX5_isSame_5 (by decide) (by first | assumption | exact ir_of (by omega) (by omega)) (by first | assumption | exact ir_of (by omega) (by omega)) (fun h5 => ?_) (fun h5 => ?_)
      · exfalso; omega
      · refine r_aload_n (i := 1) F dX5_isSame_8 rfl rfl ?_
        refine r_iload_n (i := 2) F dX5_isSame_9 rfl rfl ?_
        refine r_callV F (K_X4_count (show (setc M 2 S) 0 = S from hM0) hI ⟨by omega, by omega⟩) dX5_isSame_10 lkv_X5_87 rfl rfl rfl rfl rfl cd_X4_count (by decide) ⟨by show _ ≤ 49; omega, by show _ ≤ 311; omega⟩ (Nat.le_of_ble_eq_true rfl) ?_
        refine r_aload_n (i := 0) F dX5_isSame_13 rfl rfl ?_
        refine r_iload_n (i := 2) F dX5_isSame_14 rfl rfl ?_
        refine r_callM F (C_X5_counted hsh9 hI ⟨by omega, by omega⟩ hz30 hz32) dX5_isSame_15 lkv_X5_92 rfl rfl (dm13 hs) rfl rfl cd_X5_counted (by decide) ⟨by show _ ≤ 49; omega, by show _ ≤ 311; omega⟩ (Nat.le_of_ble_eq_true rfl) ?_
        refine r_ceq (tgt := 23) F dX5_isSame_18 (by decide) rfl ?_
        refine r_iinc (lv1 := [_, _, _, _, _, _, _, _, _, _]) F dX5_isSame_23 rfl (by decide) rfl rfl ?_
        refine r_goto (tgt := 2) F dX5_isSame_26 (by decide) ?_
        refine V.wide (kc1 := (j + 1).toNat) (ks1 := 11 * (j + 1).toNat) (by omega) (by omega) ?_
        exact ih (j + 1) (by omega) (by omega)
  refine r_iconst F dX5_isSame_0 ?_
  refine r_istore_n (i := 2) (lv1 := [_, _, _, _, _, _, _, _, _, _]) F dX5_isSame_1 rfl (by decide) rfl rfl ?_
  exact h1 11 0 (by decide) (by decide)
