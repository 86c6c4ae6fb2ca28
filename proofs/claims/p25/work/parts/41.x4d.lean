/-! The class: its sum. -/
set_option maxHeartbeats 4000000 in
set_option maxRecDepth 100000 in
theorem C_X4_digestOfLanterns {l : Launch} {cy : Nat → ClassId} {D : va_G} {ad : Nat → Nat → Int → Nat} {M : Mem} {S : St} {d1 : Int64} (hI : Inv S) (hh : 0 ≤ S 20 0 ∧ S 20 0 < 900000) : Ct l cy D ad yX4_digestOfLanterns cX4_digestOfLanterns 7 (some FieldType.long) 6 [.ref (ad 0 0 0), .long d1] (setc M 0 S) (some (.long (dgG (gL S) (S 20 1).toNat d1))) (setc M 0 S) := by
  refine Ct.mk (lv := [some _, some _, none, none, none, none, none]) 4 (by decide) rfl (Nat.le_of_ble_eq_true rfl) (fun p e s m below meth c F => ?_)
  have ic := hI.pc
  have it : ∀ (j : Int) (d0 : Int64) (hj : 0 ≤ j ∧ j < S 20 1), (∀ d : Int64, d = dgF (tabF S j) 10 d0 → V p l e (RM 6) s m ([.ref (ad 0 0 0), .long d1] : List Value).toArray below meth c 7 cy D ad (Aw ad s.heap.size) 0 0 (MQ below (Qn cy D ad s.heap.size (some (.long (dgG (gL S) (S 20 1).toNat d1))) (setc M 0 S)) ([.ref (ad 0 0 0), .long d1] : List Value).toArray s 0 0 (Aw ad s.heap.size)) 88 [some (.ref (ad 0 0 0)), some (.long d1), none, some (.long (d)), none, some (.int (i32 j)), none] [] (setc M 0 S)) → ∀ (n : Nat) (i : Int), 0 ≤ i → i + (n : Int) = 10 → V p l e (RM 6) s m ([.ref (ad 0 0 0), .long d1] : List Value).toArray below meth c 7 cy D ad (Aw ad s.heap.size) 0 0 (MQ below (Qn cy D ad s.heap.size (some (.long (dgG (gL S) (S 20 1).toNat d1))) (setc M 0 S)) ([.ref (ad 0 0 0), .long d1] : List Value).toArray s 0 0 (Aw ad s.heap.size)) 51 [some (.ref (ad 0 0 0)), some (.long d1), none, some (.long (dgF (tabF S j) i.toNat d0)), none, some (.int (i32 j)), some (.int (i32 i))] [] ((setc M 0 S)) := by
    intro j d0 hj kx n
    induction n with
    | zero =>
      intro i h0 h1
      refine r_iload F dX4_digestOfLanterns_51 rfl ?_
      refine r_bipush F dX4_digestOfLanterns_53 (by decide) ?_
      refine r_icmp_ge (tgt := 88) F dX4_digestOfLanterns_55 (by decide) (by first | assumption | exact ir_of (by omega) (by omega)) (by first | assumption | exact ir_of (by omega) (by omega)) (fun h55 => ?_) (fun h55 => ?_)
      · refine V.kill (lv1 := [_, _, _, _, _, _, _]) 6 rfl ?_
        exact kx _ (congrArg (fun n => dgF (tabF S j) n d0) (show i.toNat = 10 by omega))
      · exfalso; omega
    | succ n ih =>
      intro i h0 h1
      refine r_iload F dX4_digestOfLanterns_51 rfl ?_
      refine r_bipush F dX4_digestOfLanterns_53 (by decide) ?_
      refine r_icmp_ge (tgt := 88) F dX4_digestOfLanterns_55 (by decide) (by first | assumption | exact ir_of (by omega) (by omega)) (by first | assumption | exact ir_of (by omega) (by omega)) (fun h55 => ?_) (fun h55 => ?_)
      · exfalso; omega
      · refine r_lload_n (i := 3) F dX4_digestOfLanterns_58 rfl rfl ?_
        refine r_ldc2 F dX4_digestOfLanterns_59 lcl_X4_209 ?_
        refine r_lmul F dX4_digestOfLanterns_62 ?_
        refine r_aload_n (i := 0) F dX4_digestOfLanterns_63 rfl rfl ?_
        refine gf_X4_10 F dX4_digestOfLanterns_64 ?_
        refine gf_X4_66 F dX4_digestOfLanterns_67 (by decide) ?_
        refine r_iload F dX4_digestOfLanterns_70 rfl ?_
        refine aa_6 F dX4_digestOfLanterns_72 (by decide) (by omega) (by omega) ?_
        refine gf_X4_85 F dX4_digestOfLanterns_73 (by decide) (by omega) (by omega) ?_
        refine r_iload F dX4_digestOfLanterns_76 rfl ?_
        refine ia_10 F dX4_digestOfLanterns_78 (by decide) (by omega) (by omega) (by omega) (by omega) ?_
        refine r_i2l F dX4_digestOfLanterns_79 ?_
        refine r_ladd F dX4_digestOfLanterns_80 ?_
        refine r_lstore_n (i := 3) (lv1 := [_, _, _, _, _, _, _]) F dX4_digestOfLanterns_81 rfl (by decide) rfl rfl ?_
        refine r_iinc (lv1 := [_, _, _, _, _, _, _]) F dX4_digestOfLanterns_82 rfl (by decide) rfl rfl ?_
        refine r_goto (tgt := 51) F dX4_digestOfLanterns_85 (by decide) ?_
        have t := ih (i + 1) (by omega) (by omega)
        rw [dgF_S _ _ h0] at t
        exact t
  have il : ∀ (j : Int) (d0 : Int64) (hj : 0 ≤ j ∧ j < S 20 1), (∀ d : Int64, d = dgF (lightF S j) 4 d0 → V p l e (RM 6) s m ([.ref (ad 0 0 0), .long d1] : List Value).toArray below meth c 7 cy D ad (Aw ad s.heap.size) 0 0 (MQ below (Qn cy D ad s.heap.size (some (.long (dgG (gL S) (S 20 1).toNat d1))) (setc M 0 S)) ([.ref (ad 0 0 0), .long d1] : List Value).toArray s 0 0 (Aw ad s.heap.size)) 48 [some (.ref (ad 0 0 0)), some (.long d1), none, some (.long (d)), none, some (.int (i32 j)), none] [] (setc M 0 S)) → ∀ (n : Nat) (i : Int), 0 ≤ i → i + (n : Int) = 4 → V p l e (RM 6) s m ([.ref (ad 0 0 0), .long d1] : List Value).toArray below meth c 7 cy D ad (Aw ad s.heap.size) 0 0 (MQ below (Qn cy D ad s.heap.size (some (.long (dgG (gL S) (S 20 1).toNat d1))) (setc M 0 S)) ([.ref (ad 0 0 0), .long d1] : List Value).toArray s 0 0 (Aw ad s.heap.size)) 20 [some (.ref (ad 0 0 0)), some (.long d1), none, some (.long (dgF (lightF S j) i.toNat d0)), none, some (.int (i32 j)), some (.int (i32 i))] [] ((setc M 0 S)) := by
    intro j d0 hj kx n
    induction n with
    | zero =>
      intro i h0 h1
      refine r_iload F dX4_digestOfLanterns_20 rfl ?_
      refine r_iconst F dX4_digestOfLanterns_22 ?_
      refine r_icmp_gt (tgt := 48) F dX4_digestOfLanterns_23 (by decide) (by first | assumption | exact ir_of (by omega) (by omega)) (by first | assumption | exact ir_of (by omega) (by omega)) (fun h23 => ?_) (fun h23 => ?_)
      · refine V.kill (lv1 := [_, _, _, _, _, _, _]) 6 rfl ?_
        exact kx _ (congrArg (fun n => dgF (lightF S j) n d0) (show i.toNat = 4 by omega))
      · exfalso; omega
    | succ n ih =>
      intro i h0 h1
      refine r_iload F dX4_digestOfLanterns_20 rfl ?_
      refine r_iconst F dX4_digestOfLanterns_22 ?_
      refine r_icmp_gt (tgt := 48) F dX4_digestOfLanterns_23 (by decide) (by first | assumption | exact ir_of (by omega) (by omega)) (by first | assumption | exact ir_of (by omega) (by omega)) (fun h23 => ?_) (fun h23 => ?_)
      · exfalso; omega
      · refine r_lload_n (i := 3) F dX4_digestOfLanterns_26 rfl rfl ?_
        refine r_ldc2 F dX4_digestOfLanterns_27 lcl_X4_209 ?_
        refine r_lmul F dX4_digestOfLanterns_30 ?_
        refine r_aload_n (i := 0) F dX4_digestOfLanterns_31 rfl rfl ?_
        refine r_iload F dX4_digestOfLanterns_32 rfl ?_
        refine r_iload F dX4_digestOfLanterns_34 rfl ?_
        refine r_callV F (C_X4_light hI hh (ir_of (by omega) (by omega)) (ir_of (by omega) (by omega)) (by unfold cRng; rw [if_neg (by omega), if_neg (by omega)])) dX4_digestOfLanterns_36 lkv_X4_229 rfl rfl rfl rfl rfl cd_X4_light (by decide) ⟨Nat.le_refl _, Nat.le_refl _⟩ (Nat.le_of_ble_eq_true rfl) ?_
        refine r_i2l F dX4_digestOfLanterns_39 ?_
        refine r_ladd F dX4_digestOfLanterns_40 ?_
        refine r_lstore_n (i := 3) (lv1 := [_, _, _, _, _, _, _]) F dX4_digestOfLanterns_41 rfl (by decide) rfl rfl ?_
        refine r_iinc (lv1 := [_, _, _, _, _, _, _]) F dX4_digestOfLanterns_42 rfl (by decide) rfl rfl ?_
        refine r_goto (tgt := 20) F dX4_digestOfLanterns_45 (by decide) ?_
        have t := ih (i + 1) (by omega) (by omega)
        rw [dgF_S _ _ h0] at t
        exact t
  have oo : ∀ (n : Nat) (j : Int), 0 ≤ j → j + (n : Int) = S 20 1 → V p l e (RM 6) s m ([.ref (ad 0 0 0), .long d1] : List Value).toArray below meth c 7 cy D ad (Aw ad s.heap.size) 0 0 (MQ below (Qn cy D ad s.heap.size (some (.long (dgG (gL S) (S 20 1).toNat d1))) (setc M 0 S)) ([.ref (ad 0 0 0), .long d1] : List Value).toArray s 0 0 (Aw ad s.heap.size)) 5 [some (.ref (ad 0 0 0)), some (.long d1), none, some (.long (dgG (gL S) j.toNat (d1))), none, some (.int (i32 j)), none] [] ((setc M 0 S)) := by
    intro n
    induction n with
    | zero =>
      intro j h0 h1
      refine r_iload F dX4_digestOfLanterns_5 rfl ?_
      refine r_aload_n (i := 0) F dX4_digestOfLanterns_7 rfl rfl ?_
      refine gf_X4_10 F dX4_digestOfLanterns_8 ?_
      refine gf_X4_54 F dX4_digestOfLanterns_11 (by decide) ?_
      refine r_icmp_ge (tgt := 94) F dX4_digestOfLanterns_14 (by decide) (by first | assumption | exact ir_of (by omega) (by omega)) (by first | assumption | exact ir_of (by omega) (by omega)) (fun h14 => ?_) (fun h14 => ?_)
      · refine r_lload_n (i := 3) F dX4_digestOfLanterns_94 rfl rfl ?_
        exact r_lret F dX4_digestOfLanterns_95 rfl (congrArg (fun n => dgG (gL S) n d1) (show j.toNat = (S 20 1).toNat by omega)) rfl
      · exfalso; omega
    | succ n ih =>
      intro j h0 h1
      refine r_iload F dX4_digestOfLanterns_5 rfl ?_
      refine r_aload_n (i := 0) F dX4_digestOfLanterns_7 rfl rfl ?_
      refine gf_X4_10 F dX4_digestOfLanterns_8 ?_
      refine gf_X4_54 F dX4_digestOfLanterns_11 (by decide) ?_
      refine r_icmp_ge (tgt := 94) F dX4_digestOfLanterns_14 (by decide) (by first | assumption | exact ir_of (by omega) (by omega)) (by first | assumption | exact ir_of (by omega) (by omega)) (fun h14 => ?_) (fun h14 => ?_)
      · exfalso; omega
      · refine r_iconst F dX4_digestOfLanterns_17 ?_
        refine r_istore (lv1 := [_, _, _, _, _, _, _]) F dX4_digestOfLanterns_18 (by decide) rfl rfl ?_
        rw [← dgF_0 (lightF S j) (dgG (gL S) j.toNat d1)]
        refine il j _ ⟨by omega, by omega⟩ (fun d hd => ?_) 4 0 (by decide) (by decide)
        refine r_iconst F dX4_digestOfLanterns_48 ?_
        refine r_istore (lv1 := [_, _, _, _, _, _, _]) F dX4_digestOfLanterns_49 (by decide) rfl rfl ?_
        rw [← dgF_0 (tabF S j) d]
        refine it j _ ⟨by omega, by omega⟩ (fun d2 hd2 => ?_) 10 0 (by decide) (by decide)
        refine r_iinc (lv1 := [_, _, _, _, _, _, _]) F dX4_digestOfLanterns_88 rfl (by decide) rfl rfl ?_
        refine r_goto (tgt := 5) F dX4_digestOfLanterns_91 (by decide) ?_
        have t := ih (j + 1) (by omega) (by omega)
        rw [dgG_S _ _ h0, show gL S (dgG (gL S) j.toNat _) j = d2 from by rw [hd2, hd] <;> rfl] at t
        exact t
  refine r_lload_n (i := 1) F dX4_digestOfLanterns_0 rfl rfl ?_
  refine r_lstore_n (i := 3) (lv1 := [_, _, _, _, _, _, _]) F dX4_digestOfLanterns_1 rfl (by decide) rfl rfl ?_
  refine r_iconst F dX4_digestOfLanterns_2 ?_
  refine r_istore (lv1 := [_, _, _, _, _, _, _]) F dX4_digestOfLanterns_3 (by decide) rfl rfl ?_
  have t := oo (S 20 1).toNat 0 (by decide) (by omega)
  rw [dgG_0] at t
  exact t
set_option maxHeartbeats 4000000 in
set_option maxRecDepth 100000 in
theorem C_X4_digestOfWatchmen {l : Launch} {cy : Nat → ClassId} {D : va_G} {ad : Nat → Nat → Int → Nat} {M : Mem} {S : St} {d1 : Int64} (hI : Inv S) (hh : 0 ≤ S 20 0 ∧ S 20 0 < 900000) : Ct l cy D ad yX4_digestOfWatchmen cX4_digestOfWatchmen 7 (some FieldType.long) 6 [.ref (ad 0 0 0), .long d1] (setc M 0 S) (some (.long (dgG (gW S) (S 20 2).toNat d1))) (setc M 0 S) := by
  refine Ct.mk (lv := [some _, some _, none, none, none, none, none]) 4 (by decide) rfl (Nat.le_of_ble_eq_true rfl) (fun p e s m below meth c F => ?_)
  have ic := hI.pc
  have iw : ∀ (j : Int) (d0 : Int64) (hj : 0 ≤ j ∧ j < S 20 2), (∀ d : Int64, d = dgF (aboutF S j) 5 d0 → V p l e (RM 6) s m ([.ref (ad 0 0 0), .long d1] : List Value).toArray below meth c 7 cy D ad (Aw ad s.heap.size) 0 0 (MQ below (Qn cy D ad s.heap.size (some (.long (dgG (gW S) (S 20 2).toNat d1))) (setc M 0 S)) ([.ref (ad 0 0 0), .long d1] : List Value).toArray s 0 0 (Aw ad s.heap.size)) 48 [some (.ref (ad 0 0 0)), some (.long d1), none, some (.long (d)), none, some (.int (i32 j)), none] [] (setc M 0 S)) → ∀ (n : Nat) (i : Int), 0 ≤ i → i + (n : Int) = 5 → V p l e (RM 6) s m ([.ref (ad 0 0 0), .long d1] : List Value).toArray below meth c 7 cy D ad (Aw ad s.heap.size) 0 0 (MQ below (Qn cy D ad s.heap.size (some (.long (dgG (gW S) (S 20 2).toNat d1))) (setc M 0 S)) ([.ref (ad 0 0 0), .long d1] : List Value).toArray s 0 0 (Aw ad s.heap.size)) 20 [some (.ref (ad 0 0 0)), some (.long d1), none, some (.long (dgF (aboutF S j) i.toNat d0)), none, some (.int (i32 j)), some (.int (i32 i))] [] ((setc M 0 S)) := by
    intro j d0 hj kx n
    induction n with
    | zero =>
      intro i h0 h1
      refine r_iload F dX4_digestOfWatchmen_20 rfl ?_
      refine r_iconst F dX4_digestOfWatchmen_22 ?_
      refine r_icmp_gt (tgt := 48) F dX4_digestOfWatchmen_23 (by decide) (by first | assumption | exact ir_of (by omega) (by omega)) (by first | assumption | exact ir_of (by omega) (by omega)) (fun h23 => ?_) (fun h23 => ?_)
      · refine V.kill (lv1 := [_, _, _, _, _, _, _]) 6 rfl ?_
        exact kx _ (congrArg (fun n => dgF (aboutF S j) n d0) (show i.toNat = 5 by omega))
      · exfalso; omega
    | succ n ih =>
      intro i h0 h1
      refine r_iload F dX4_digestOfWatchmen_20 rfl ?_
      refine r_iconst F dX4_digestOfWatchmen_22 ?_
      refine r_icmp_gt (tgt := 48) F dX4_digestOfWatchmen_23 (by decide) (by first | assumption | exact ir_of (by omega) (by omega)) (by first | assumption | exact ir_of (by omega) (by omega)) (fun h23 => ?_) (fun h23 => ?_)
      · exfalso; omega
      · refine r_lload_n (i := 3) F dX4_digestOfWatchmen_26 rfl rfl ?_
        refine r_ldc2 F dX4_digestOfWatchmen_27 lcl_X4_209 ?_
        refine r_lmul F dX4_digestOfWatchmen_30 ?_
        refine r_aload_n (i := 0) F dX4_digestOfWatchmen_31 rfl rfl ?_
        refine r_iload F dX4_digestOfWatchmen_32 rfl ?_
        refine r_iload F dX4_digestOfWatchmen_34 rfl ?_
        refine r_callV F (C_X4_about hI hh (ir_of (by omega) (by omega)) (ir_of (by omega) (by omega)) (by unfold cRng; rw [if_neg (by omega), if_neg (by omega)])) dX4_digestOfWatchmen_36 lkv_X4_232 rfl rfl rfl rfl rfl cd_X4_about (by decide) ⟨Nat.le_refl _, Nat.le_refl _⟩ (Nat.le_of_ble_eq_true rfl) ?_
        refine r_i2l F dX4_digestOfWatchmen_39 ?_
        refine r_ladd F dX4_digestOfWatchmen_40 ?_
        refine r_lstore_n (i := 3) (lv1 := [_, _, _, _, _, _, _]) F dX4_digestOfWatchmen_41 rfl (by decide) rfl rfl ?_
        refine r_iinc (lv1 := [_, _, _, _, _, _, _]) F dX4_digestOfWatchmen_42 rfl (by decide) rfl rfl ?_
        refine r_goto (tgt := 20) F dX4_digestOfWatchmen_45 (by decide) ?_
        have t := ih (i + 1) (by omega) (by omega)
        rw [dgF_S _ _ h0] at t
        exact t
  have oo : ∀ (n : Nat) (j : Int), 0 ≤ j → j + (n : Int) = S 20 2 → V p l e (RM 6) s m ([.ref (ad 0 0 0), .long d1] : List Value).toArray below meth c 7 cy D ad (Aw ad s.heap.size) 0 0 (MQ below (Qn cy D ad s.heap.size (some (.long (dgG (gW S) (S 20 2).toNat d1))) (setc M 0 S)) ([.ref (ad 0 0 0), .long d1] : List Value).toArray s 0 0 (Aw ad s.heap.size)) 5 [some (.ref (ad 0 0 0)), some (.long d1), none, some (.long (dgG (gW S) j.toNat (d1))), none, some (.int (i32 j)), none] [] ((setc M 0 S)) := by
    intro n
    induction n with
    | zero =>
      intro j h0 h1
      refine r_iload F dX4_digestOfWatchmen_5 rfl ?_
      refine r_aload_n (i := 0) F dX4_digestOfWatchmen_7 rfl rfl ?_
      refine gf_X4_10 F dX4_digestOfWatchmen_8 ?_
      refine gf_X4_92 F dX4_digestOfWatchmen_11 (by decide) ?_
      refine r_icmp_ge (tgt := 54) F dX4_digestOfWatchmen_14 (by decide) (by first | assumption | exact ir_of (by omega) (by omega)) (by first | assumption | exact ir_of (by omega) (by omega)) (fun h14 => ?_) (fun h14 => ?_)
      · refine r_lload_n (i := 3) F dX4_digestOfWatchmen_54 rfl rfl ?_
        exact r_lret F dX4_digestOfWatchmen_55 rfl (congrArg (fun n => dgG (gW S) n d1) (show j.toNat = (S 20 2).toNat by omega)) rfl
      · exfalso; omega
    | succ n ih =>
      intro j h0 h1
      refine r_iload F dX4_digestOfWatchmen_5 rfl ?_
      refine r_aload_n (i := 0) F dX4_digestOfWatchmen_7 rfl rfl ?_
      refine gf_X4_10 F dX4_digestOfWatchmen_8 ?_
      refine gf_X4_92 F dX4_digestOfWatchmen_11 (by decide) ?_
      refine r_icmp_ge (tgt := 54) F dX4_digestOfWatchmen_14 (by decide) (by first | assumption | exact ir_of (by omega) (by omega)) (by first | assumption | exact ir_of (by omega) (by omega)) (fun h14 => ?_) (fun h14 => ?_)
      · exfalso; omega
      · refine r_iconst F dX4_digestOfWatchmen_17 ?_
        refine r_istore (lv1 := [_, _, _, _, _, _, _]) F dX4_digestOfWatchmen_18 (by decide) rfl rfl ?_
        rw [← dgF_0 (aboutF S j) (dgG (gW S) j.toNat d1)]
        refine iw j _ ⟨by omega, by omega⟩ (fun d hd => ?_) 5 0 (by decide) (by decide)
        refine r_iinc (lv1 := [_, _, _, _, _, _, _]) F dX4_digestOfWatchmen_48 rfl (by decide) rfl rfl ?_
        refine r_goto (tgt := 5) F dX4_digestOfWatchmen_51 (by decide) ?_
        have t := ih (j + 1) (by omega) (by omega)
        rw [dgG_S _ _ h0, show gW S (dgG (gW S) j.toNat _) j = d from hd.symm] at t
        exact t
  refine r_lload_n (i := 1) F dX4_digestOfWatchmen_0 rfl rfl ?_
  refine r_lstore_n (i := 3) (lv1 := [_, _, _, _, _, _, _]) F dX4_digestOfWatchmen_1 rfl (by decide) rfl rfl ?_
  refine r_iconst F dX4_digestOfWatchmen_2 ?_
  refine r_istore (lv1 := [_, _, _, _, _, _, _]) F dX4_digestOfWatchmen_3 (by decide) rfl rfl ?_
  have t := oo (S 20 2).toNat 0 (by decide) (by omega)
  rw [dgG_0] at t
  exact t
set_option maxHeartbeats 4000000 in
set_option maxRecDepth 100000 in
theorem C_X4_digestOfBoats {l : Launch} {cy : Nat → ClassId} {D : va_G} {ad : Nat → Nat → Int → Nat} {M : Mem} {S : St} {d1 : Int64} (hI : Inv S) : Ct l cy D ad yX4_digestOfBoats cX4_digestOfBoats 7 (some FieldType.long) 6 [.ref (ad 0 0 0), .long d1] (setc M 0 S) (some (.long (dgG (gB S) (S 20 3).toNat d1))) (setc M 0 S) := by
  refine Ct.mk (lv := [some _, some _, none, none, none, none, none]) 4 (by decide) rfl (Nat.le_of_ble_eq_true rfl) (fun p e s m below meth c F => ?_)
  have ic := hI.pc
  have ib : ∀ (j : Int) (d0 : Int64) (hj : 0 ≤ j ∧ j < S 20 3), (∀ d : Int64, d = dgF (toldF S j) 7 d0 → V p l e (RM 6) s m ([.ref (ad 0 0 0), .long d1] : List Value).toArray below meth c 7 cy D ad (Aw ad s.heap.size) 0 0 (MQ below (Qn cy D ad s.heap.size (some (.long (dgG (gB S) (S 20 3).toNat d1))) (setc M 0 S)) ([.ref (ad 0 0 0), .long d1] : List Value).toArray s 0 0 (Aw ad s.heap.size)) 49 [some (.ref (ad 0 0 0)), some (.long d1), none, some (.long (d)), none, some (.int (i32 j)), none] [] (setc M 0 S)) → ∀ (n : Nat) (i : Int), 0 ≤ i → i + (n : Int) = 7 → V p l e (RM 6) s m ([.ref (ad 0 0 0), .long d1] : List Value).toArray below meth c 7 cy D ad (Aw ad s.heap.size) 0 0 (MQ below (Qn cy D ad s.heap.size (some (.long (dgG (gB S) (S 20 3).toNat d1))) (setc M 0 S)) ([.ref (ad 0 0 0), .long d1] : List Value).toArray s 0 0 (Aw ad s.heap.size)) 20 [some (.ref (ad 0 0 0)), some (.long d1), none, some (.long (dgF (toldF S j) i.toNat d0)), none, some (.int (i32 j)), some (.int (i32 i))] [] ((setc M 0 S)) := by
    intro j d0 hj kx n
    induction n with
    | zero =>
      intro i h0 h1
      refine r_iload F dX4_digestOfBoats_20 rfl ?_
      refine r_bipush F dX4_digestOfBoats_22 (by decide) ?_
      refine r_icmp_gt (tgt := 49) F dX4_digestOfBoats_24 (by decide) (by first | assumption | exact ir_of (by omega) (by omega)) (by first | assumption | exact ir_of (by omega) (by omega)) (fun h24 => ?_) (fun h24 => ?_)
      · refine V.kill (lv1 := [_, _, _, _, _, _, _]) 6 rfl ?_
        exact kx _ (congrArg (fun n => dgF (toldF S j) n d0) (show i.toNat = 7 by omega))
      · exfalso; omega
    | succ n ih =>
      intro i h0 h1
      refine r_iload F dX4_digestOfBoats_20 rfl ?_
      refine r_bipush F dX4_digestOfBoats_22 (by decide) ?_
      refine r_icmp_gt (tgt := 49) F dX4_digestOfBoats_24 (by decide) (by first | assumption | exact ir_of (by omega) (by omega)) (by first | assumption | exact ir_of (by omega) (by omega)) (fun h24 => ?_) (fun h24 => ?_)
      · exfalso; omega
      · refine r_lload_n (i := 3) F dX4_digestOfBoats_27 rfl rfl ?_
        refine r_ldc2 F dX4_digestOfBoats_28 lcl_X4_209 ?_
        refine r_lmul F dX4_digestOfBoats_31 ?_
        refine r_aload_n (i := 0) F dX4_digestOfBoats_32 rfl rfl ?_
        refine r_iload F dX4_digestOfBoats_33 rfl ?_
        refine r_iload F dX4_digestOfBoats_35 rfl ?_
        refine r_callV F (C_X4_told hI (ir_of (by omega) (by omega)) (ir_of (by omega) (by omega)) (by unfold cRng; rw [if_neg (by omega), if_neg (by omega)])) dX4_digestOfBoats_37 lkv_X4_235 rfl rfl rfl rfl rfl cd_X4_told (by decide) ⟨Nat.le_refl _, Nat.le_refl _⟩ (Nat.le_of_ble_eq_true rfl) ?_
        refine r_i2l F dX4_digestOfBoats_40 ?_
        refine r_ladd F dX4_digestOfBoats_41 ?_
        refine r_lstore_n (i := 3) (lv1 := [_, _, _, _, _, _, _]) F dX4_digestOfBoats_42 rfl (by decide) rfl rfl ?_
        refine r_iinc (lv1 := [_, _, _, _, _, _, _]) F dX4_digestOfBoats_43 rfl (by decide) rfl rfl ?_
        refine r_goto (tgt := 20) F dX4_digestOfBoats_46 (by decide) ?_
        have t := ih (i + 1) (by omega) (by omega)
        rw [dgF_S _ _ h0] at t
        exact t
  have oo : ∀ (n : Nat) (j : Int), 0 ≤ j → j + (n : Int) = S 20 3 → V p l e (RM 6) s m ([.ref (ad 0 0 0), .long d1] : List Value).toArray below meth c 7 cy D ad (Aw ad s.heap.size) 0 0 (MQ below (Qn cy D ad s.heap.size (some (.long (dgG (gB S) (S 20 3).toNat d1))) (setc M 0 S)) ([.ref (ad 0 0 0), .long d1] : List Value).toArray s 0 0 (Aw ad s.heap.size)) 5 [some (.ref (ad 0 0 0)), some (.long d1), none, some (.long (dgG (gB S) j.toNat (d1))), none, some (.int (i32 j)), none] [] ((setc M 0 S)) := by
    intro n
    induction n with
    | zero =>
      intro j h0 h1
      refine r_iload F dX4_digestOfBoats_5 rfl ?_
      refine r_aload_n (i := 0) F dX4_digestOfBoats_7 rfl rfl ?_
      refine gf_X4_10 F dX4_digestOfBoats_8 ?_
      refine gf_X4_109 F dX4_digestOfBoats_11 (by decide) ?_
      refine r_icmp_ge (tgt := 55) F dX4_digestOfBoats_14 (by decide) (by first | assumption | exact ir_of (by omega) (by omega)) (by first | assumption | exact ir_of (by omega) (by omega)) (fun h14 => ?_) (fun h14 => ?_)
      · refine r_lload_n (i := 3) F dX4_digestOfBoats_55 rfl rfl ?_
        exact r_lret F dX4_digestOfBoats_56 rfl (congrArg (fun n => dgG (gB S) n d1) (show j.toNat = (S 20 3).toNat by omega)) rfl
      · exfalso; omega
    | succ n ih =>
      intro j h0 h1
      refine r_iload F dX4_digestOfBoats_5 rfl ?_
      refine r_aload_n (i := 0) F dX4_digestOfBoats_7 rfl rfl ?_
      refine gf_X4_10 F dX4_digestOfBoats_8 ?_
      refine gf_X4_109 F dX4_digestOfBoats_11 (by decide) ?_
      refine r_icmp_ge (tgt := 55) F dX4_digestOfBoats_14 (by decide) (by first | assumption | exact ir_of (by omega) (by omega)) (by first | assumption | exact ir_of (by omega) (by omega)) (fun h14 => ?_) (fun h14 => ?_)
      · exfalso; omega
      · refine r_iconst F dX4_digestOfBoats_17 ?_
        refine r_istore (lv1 := [_, _, _, _, _, _, _]) F dX4_digestOfBoats_18 (by decide) rfl rfl ?_
        rw [← dgF_0 (toldF S j) (dgG (gB S) j.toNat d1)]
        refine ib j _ ⟨by omega, by omega⟩ (fun d hd => ?_) 7 0 (by decide) (by decide)
        refine r_iinc (lv1 := [_, _, _, _, _, _, _]) F dX4_digestOfBoats_49 rfl (by decide) rfl rfl ?_
        refine r_goto (tgt := 5) F dX4_digestOfBoats_52 (by decide) ?_
        have t := ih (j + 1) (by omega) (by omega)
        rw [dgG_S _ _ h0, show gB S (dgG (gB S) j.toNat _) j = d from hd.symm] at t
        exact t
  refine r_lload_n (i := 1) F dX4_digestOfBoats_0 rfl rfl ?_
  refine r_lstore_n (i := 3) (lv1 := [_, _, _, _, _, _, _]) F dX4_digestOfBoats_1 rfl (by decide) rfl rfl ?_
  refine r_iconst F dX4_digestOfBoats_2 ?_
  refine r_istore (lv1 := [_, _, _, _, _, _, _]) F dX4_digestOfBoats_3 (by decide) rfl rfl ?_
  have t := oo (S 20 3).toNat 0 (by decide) (by omega)
  rw [dgG_0] at t
  exact t
set_option maxHeartbeats 4000000 in
set_option maxRecDepth 100000 in
theorem C_X4_digest {l : Launch} {cy : Nat → ClassId} {D : va_G} {ad : Nat → Nat → Int → Nat} {M : Mem} {S : St}  (hI : Inv S) (hh : 0 ≤ S 20 0 ∧ S 20 0 < 900000) : Ct l cy D ad yX4_digest cX4_digest 5 (some FieldType.long) 7 [.ref (ad 0 0 0)] (setc M 0 S) (some (.long (dB S))) (setc M 0 S) := by
  refine Ct.mk (lv := [some _, none, none, none, none]) 4 (by decide) rfl (Nat.le_of_ble_eq_true rfl) (fun p e s m below meth c F => ?_)
  have ic := hI.pc
  have ik : ∀ (j : Int) (d0 : Int64) (hj : 0 ≤ j ∧ j < 7), (∀ d : Int64, d = dgF (codeF S (j + 1)) 4 d0 → V p l e (RM 7) s m ([.ref (ad 0 0 0)] : List Value).toArray below meth c 5 cy D ad (Aw ad s.heap.size) 0 0 (MQ below (Qn cy D ad s.heap.size (some (.long (dB S))) (setc M 0 S)) ([.ref (ad 0 0 0)] : List Value).toArray s 0 0 (Aw ad s.heap.size)) 113 [some (.ref (ad 0 0 0)), some (.long (d)), none, some (.int (i32 (j + 1))), none] [] (setc M 0 S)) → ∀ (n : Nat) (i : Int), 0 ≤ i → i + (n : Int) = 4 → V p l e (RM 7) s m ([.ref (ad 0 0 0)] : List Value).toArray below meth c 5 cy D ad (Aw ad s.heap.size) 0 0 (MQ below (Qn cy D ad s.heap.size (some (.long (dB S))) (setc M 0 S)) ([.ref (ad 0 0 0)] : List Value).toArray s 0 0 (Aw ad s.heap.size)) 86 [some (.ref (ad 0 0 0)), some (.long (dgF (codeF S (j + 1)) i.toNat d0)), none, some (.int (i32 (j + 1))), some (.int (i32 i))] [] ((setc M 0 S)) := by
    intro j d0 hj kx n
    induction n with
    | zero =>
      intro i h0 h1
      refine r_iload F dX4_digest_86 rfl ?_
      refine r_iconst F dX4_digest_88 ?_
      refine r_icmp_gt (tgt := 113) F dX4_digest_89 (by decide) (by first | assumption | exact ir_of (by omega) (by omega)) (by first | assumption | exact ir_of (by omega) (by omega)) (fun h89 => ?_) (fun h89 => ?_)
      · refine V.kill (lv1 := [_, _, _, _, _]) 4 rfl ?_
        exact kx _ (congrArg (fun n => dgF (codeF S (j + 1)) n d0) (show i.toNat = 4 by omega))
      · exfalso; omega
    | succ n ih =>
      intro i h0 h1
      refine r_iload F dX4_digest_86 rfl ?_
      refine r_iconst F dX4_digest_88 ?_
      refine r_icmp_gt (tgt := 113) F dX4_digest_89 (by decide) (by first | assumption | exact ir_of (by omega) (by omega)) (by first | assumption | exact ir_of (by omega) (by omega)) (fun h89 => ?_) (fun h89 => ?_)
      · exfalso; omega
      · refine r_lload_n (i := 1) F dX4_digest_92 rfl rfl ?_
        refine r_ldc2 F dX4_digest_93 lcl_X4_209 ?_
        refine r_lmul F dX4_digest_96 ?_
        refine r_aload_n (i := 0) F dX4_digest_97 rfl rfl ?_
        refine r_iload_n (i := 3) F dX4_digest_98 rfl rfl ?_
        refine r_iload F dX4_digest_99 rfl ?_
        refine r_callV F (C_X4_code hI (ir_of (by omega) (by omega)) (ir_of (by omega) (by omega)) (by unfold cRng; rw [if_neg (by omega), if_neg (by omega)])) dX4_digest_101 lkv_X4_216 rfl rfl rfl rfl rfl cd_X4_code (by decide) ⟨Nat.le_refl _, Nat.le_refl _⟩ (Nat.le_of_ble_eq_true rfl) ?_
        refine r_i2l F dX4_digest_104 ?_
        refine r_ladd F dX4_digest_105 ?_
        refine r_lstore_n (i := 1) (lv1 := [_, _, _, _, _]) F dX4_digest_106 rfl (by decide) rfl rfl ?_
        refine r_iinc (lv1 := [_, _, _, _, _]) F dX4_digest_107 rfl (by decide) rfl rfl ?_
        refine r_goto (tgt := 86) F dX4_digest_110 (by decide) ?_
        have t := ih (i + 1) (by omega) (by omega)
        rw [dgF_S _ _ h0] at t
        exact t
  have ok9 : ∀ (n : Nat) (j : Int), 0 ≤ j → j + (n : Int) = 7 → V p l e (RM 7) s m ([.ref (ad 0 0 0)] : List Value).toArray below meth c 5 cy D ad (Aw ad s.heap.size) 0 0 (MQ below (Qn cy D ad s.heap.size (some (.long (dB S))) (setc M 0 S)) ([.ref (ad 0 0 0)] : List Value).toArray s 0 0 (Aw ad s.heap.size)) 77 [some (.ref (ad 0 0 0)), some (.long (dgG (gK S) j.toNat (dP S))), none, some (.int (i32 (j + 1))), none] [] ((setc M 0 S)) := by
    intro n
    induction n with
    | zero =>
      intro j h0 h1
      refine r_iload_n (i := 3) F dX4_digest_77 rfl rfl ?_
      refine r_bipush F dX4_digest_78 (by decide) ?_
      refine r_icmp_gt (tgt := 119) F dX4_digest_80 (by decide) (by first | assumption | exact ir_of (by omega) (by omega)) (by first | assumption | exact ir_of (by omega) (by omega)) (fun h80 => ?_) (fun h80 => ?_)
      · have e : dgG (gK S) j.toNat (dP S) = dK S := congrArg (fun n => dgG (gK S) n (dP S)) (show j.toNat = 7 by omega)
        rw [e]
        refine r_aload_n (i := 0) F dX4_digest_119 rfl rfl ?_
        refine r_aload_n (i := 0) F dX4_digest_120 rfl rfl ?_
        refine r_aload_n (i := 0) F dX4_digest_121 rfl rfl ?_
        refine r_lload_n (i := 1) F dX4_digest_122 rfl rfl ?_
        refine r_callV F (C_X4_digestOfLanterns hI hh) dX4_digest_123 lkv_X4_219 rfl rfl rfl rfl rfl cd_X4_digestOfLanterns (by decide) ⟨Nat.le_refl _, Nat.le_refl _⟩ (Nat.le_of_ble_eq_true rfl) ?_
        refine r_callV F (C_X4_digestOfWatchmen hI hh) dX4_digest_126 lkv_X4_223 rfl rfl rfl rfl rfl cd_X4_digestOfWatchmen (by decide) ⟨Nat.le_refl _, Nat.le_refl _⟩ (Nat.le_of_ble_eq_true rfl) ?_
        refine r_callV F (C_X4_digestOfBoats hI) dX4_digest_129 lkv_X4_226 rfl rfl rfl rfl rfl cd_X4_digestOfBoats (by decide) ⟨Nat.le_refl _, Nat.le_refl _⟩ (Nat.le_of_ble_eq_true rfl) ?_
        exact r_lret F dX4_digest_132 rfl rfl rfl
      · exfalso; omega
    | succ n ih =>
      intro j h0 h1
      refine r_iload_n (i := 3) F dX4_digest_77 rfl rfl ?_
      refine r_bipush F dX4_digest_78 (by decide) ?_
      refine r_icmp_gt (tgt := 119) F dX4_digest_80 (by decide) (by first | assumption | exact ir_of (by omega) (by omega)) (by first | assumption | exact ir_of (by omega) (by omega)) (fun h80 => ?_) (fun h80 => ?_)
      · exfalso; omega
      · refine r_iconst F dX4_digest_83 ?_
        refine r_istore (lv1 := [_, _, _, _, _]) F dX4_digest_84 (by decide) rfl rfl ?_
        rw [← dgF_0 (codeF S (j + 1)) (dgG (gK S) j.toNat (dP S))]
        refine ik j _ ⟨by omega, by omega⟩ (fun d hd => ?_) 4 0 (by decide) (by decide)
        refine r_iinc (lv1 := [_, _, _, _, _]) F dX4_digest_113 rfl (by decide) rfl rfl ?_
        refine r_goto (tgt := 77) F dX4_digest_116 (by decide) ?_
        have t := ih (j + 1) (by omega) (by omega)
        rw [dgG_S _ _ h0, show gK S (dgG (gK S) j.toNat _) j = d from hd.symm] at t
        exact t
  have ip : ∀ (j : Int) (d0 : Int64) (hj : 0 ≤ j ∧ j < 16), (∀ d : Int64, d = dgF (placeF S j) 5 d0 → V p l e (RM 7) s m ([.ref (ad 0 0 0)] : List Value).toArray below meth c 5 cy D ad (Aw ad s.heap.size) 0 0 (MQ below (Qn cy D ad s.heap.size (some (.long (dB S))) (setc M 0 S)) ([.ref (ad 0 0 0)] : List Value).toArray s 0 0 (Aw ad s.heap.size)) 69 [some (.ref (ad 0 0 0)), some (.long (d)), none, some (.int (i32 j)), none] [] (setc M 0 S)) → ∀ (n : Nat) (i : Int), 0 ≤ i → i + (n : Int) = 5 → V p l e (RM 7) s m ([.ref (ad 0 0 0)] : List Value).toArray below meth c 5 cy D ad (Aw ad s.heap.size) 0 0 (MQ below (Qn cy D ad s.heap.size (some (.long (dB S))) (setc M 0 S)) ([.ref (ad 0 0 0)] : List Value).toArray s 0 0 (Aw ad s.heap.size)) 42 [some (.ref (ad 0 0 0)), some (.long (dgF (placeF S j) i.toNat d0)), none, some (.int (i32 j)), some (.int (i32 i))] [] ((setc M 0 S)) := by
    intro j d0 hj kx n
    induction n with
    | zero =>
      intro i h0 h1
      refine r_iload F dX4_digest_42 rfl ?_
      refine r_iconst F dX4_digest_44 ?_
      refine r_icmp_gt (tgt := 69) F dX4_digest_45 (by decide) (by first | assumption | exact ir_of (by omega) (by omega)) (by first | assumption | exact ir_of (by omega) (by omega)) (fun h45 => ?_) (fun h45 => ?_)
      · refine V.kill (lv1 := [_, _, _, _, _]) 4 rfl ?_
        exact kx _ (congrArg (fun n => dgF (placeF S j) n d0) (show i.toNat = 5 by omega))
      · exfalso; omega
    | succ n ih =>
      intro i h0 h1
      refine r_iload F dX4_digest_42 rfl ?_
      refine r_iconst F dX4_digest_44 ?_
      refine r_icmp_gt (tgt := 69) F dX4_digest_45 (by decide) (by first | assumption | exact ir_of (by omega) (by omega)) (by first | assumption | exact ir_of (by omega) (by omega)) (fun h45 => ?_) (fun h45 => ?_)
      · exfalso; omega
      · refine r_lload_n (i := 1) F dX4_digest_48 rfl rfl ?_
        refine r_ldc2 F dX4_digest_49 lcl_X4_209 ?_
        refine r_lmul F dX4_digest_52 ?_
        refine r_aload_n (i := 0) F dX4_digest_53 rfl rfl ?_
        refine r_iload_n (i := 3) F dX4_digest_54 rfl rfl ?_
        refine r_iload F dX4_digest_55 rfl ?_
        refine r_callV F (C_X4_place hI hh (ir_of (by omega) (by omega)) (ir_of (by omega) (by omega)) (by unfold cRng; rw [if_neg (by omega), if_neg (by omega)])) dX4_digest_57 lkv_X4_214 rfl rfl rfl rfl rfl cd_X4_place (by decide) ⟨Nat.le_refl _, Nat.le_refl _⟩ (Nat.le_of_ble_eq_true rfl) ?_
        refine r_i2l F dX4_digest_60 ?_
        refine r_ladd F dX4_digest_61 ?_
        refine r_lstore_n (i := 1) (lv1 := [_, _, _, _, _]) F dX4_digest_62 rfl (by decide) rfl rfl ?_
        refine r_iinc (lv1 := [_, _, _, _, _]) F dX4_digest_63 rfl (by decide) rfl rfl ?_
        refine r_goto (tgt := 42) F dX4_digest_66 (by decide) ?_
        have t := ih (i + 1) (by omega) (by omega)
        rw [dgF_S _ _ h0] at t
        exact t
  have op9 : ∀ (n : Nat) (j : Int), 0 ≤ j → j + (n : Int) = 16 → V p l e (RM 7) s m ([.ref (ad 0 0 0)] : List Value).toArray below meth c 5 cy D ad (Aw ad s.heap.size) 0 0 (MQ below (Qn cy D ad s.heap.size (some (.long (dB S))) (setc M 0 S)) ([.ref (ad 0 0 0)] : List Value).toArray s 0 0 (Aw ad s.heap.size)) 33 [some (.ref (ad 0 0 0)), some (.long (dgG (gP S) j.toNat (dC S))), none, some (.int (i32 j)), none] [] ((setc M 0 S)) := by
    intro n
    induction n with
    | zero =>
      intro j h0 h1
      refine r_iload_n (i := 3) F dX4_digest_33 rfl rfl ?_
      refine r_bipush F dX4_digest_34 (by decide) ?_
      refine r_icmp_ge (tgt := 75) F dX4_digest_36 (by decide) (by first | assumption | exact ir_of (by omega) (by omega)) (by first | assumption | exact ir_of (by omega) (by omega)) (fun h36 => ?_) (fun h36 => ?_)
      · refine r_iconst F dX4_digest_75 ?_
        refine r_istore_n (i := 3) (lv1 := [_, _, _, _, _]) F dX4_digest_76 rfl (by decide) rfl rfl ?_
        have e : dgG (gP S) j.toNat (dC S) = dP S := congrArg (fun n => dgG (gP S) n (dC S)) (show j.toNat = 16 by omega)
        rw [e]
        have t := ok9 7 0 (by decide) (by decide)
        rw [dgG_0] at t
        exact t
      · exfalso; omega
    | succ n ih =>
      intro j h0 h1
      refine r_iload_n (i := 3) F dX4_digest_33 rfl rfl ?_
      refine r_bipush F dX4_digest_34 (by decide) ?_
      refine r_icmp_ge (tgt := 75) F dX4_digest_36 (by decide) (by first | assumption | exact ir_of (by omega) (by omega)) (by first | assumption | exact ir_of (by omega) (by omega)) (fun h36 => ?_) (fun h36 => ?_)
      · exfalso; omega
      · refine r_iconst F dX4_digest_39 ?_
        refine r_istore (lv1 := [_, _, _, _, _]) F dX4_digest_40 (by decide) rfl rfl ?_
        rw [← dgF_0 (placeF S j) (dgG (gP S) j.toNat (dC S))]
        refine ip j _ ⟨by omega, by omega⟩ (fun d hd => ?_) 5 0 (by decide) (by decide)
        refine r_iinc (lv1 := [_, _, _, _, _]) F dX4_digest_69 rfl (by decide) rfl rfl ?_
        refine r_goto (tgt := 33) F dX4_digest_72 (by decide) ?_
        have t := ih (j + 1) (by omega) (by omega)
        rw [dgG_S _ _ h0, show gP S (dgG (gP S) j.toNat _) j = d from hd.symm] at t
        exact t
  have oc : ∀ (n : Nat) (j : Int), 0 ≤ j → j + (n : Int) = 11 → V p l e (RM 7) s m ([.ref (ad 0 0 0)] : List Value).toArray below meth c 5 cy D ad (Aw ad s.heap.size) 0 0 (MQ below (Qn cy D ad s.heap.size (some (.long (dB S))) (setc M 0 S)) ([.ref (ad 0 0 0)] : List Value).toArray s 0 0 (Aw ad s.heap.size)) 6 [some (.ref (ad 0 0 0)), some (.long (dgF (counted S) j.toNat 1669)), none, some (.int (i32 j)), none] [] ((setc M 0 S)) := by
    intro n
    induction n with
    | zero =>
      intro j h0 h1
      refine r_iload_n (i := 3) F dX4_digest_6 rfl rfl ?_
      refine r_bipush F dX4_digest_7 (by decide) ?_
      refine r_icmp_gt (tgt := 31) F dX4_digest_9 (by decide) (by first | assumption | exact ir_of (by omega) (by omega)) (by first | assumption | exact ir_of (by omega) (by omega)) (fun h9 => ?_) (fun h9 => ?_)
      · refine r_iconst F dX4_digest_31 ?_
        refine r_istore_n (i := 3) (lv1 := [_, _, _, _, _]) F dX4_digest_32 rfl (by decide) rfl rfl ?_
        have e : dgF (counted S) j.toNat 1669 = dC S := congrArg (fun n => dgF (counted S) n 1669) (show j.toNat = 11 by omega)
        rw [e]
        have t := op9 16 0 (by decide) (by decide)
        rw [dgG_0] at t
        exact t
      · exfalso; omega
    | succ n ih =>
      intro j h0 h1
      refine r_iload_n (i := 3) F dX4_digest_6 rfl rfl ?_
      refine r_bipush F dX4_digest_7 (by decide) ?_
      refine r_icmp_gt (tgt := 31) F dX4_digest_9 (by decide) (by first | assumption | exact ir_of (by omega) (by omega)) (by first | assumption | exact ir_of (by omega) (by omega)) (fun h9 => ?_) (fun h9 => ?_)
      · exfalso; omega
      · refine r_lload_n (i := 1) F dX4_digest_12 rfl rfl ?_
        refine r_ldc2 F dX4_digest_13 lcl_X4_209 ?_
        refine r_lmul F dX4_digest_16 ?_
        refine r_aload_n (i := 0) F dX4_digest_17 rfl rfl ?_
        refine r_iload_n (i := 3) F dX4_digest_18 rfl rfl ?_
        refine r_callV F (C_X4_count hI (ir_of (by omega) (by omega)) (by unfold cRng1; rw [if_neg (by omega)])) dX4_digest_19 lkv_X4_211 rfl rfl rfl rfl rfl cd_X4_count (by decide) ⟨Nat.le_refl _, Nat.le_refl _⟩ (Nat.le_of_ble_eq_true rfl) ?_
        refine r_i2l F dX4_digest_22 ?_
        refine r_ladd F dX4_digest_23 ?_
        refine r_lstore_n (i := 1) (lv1 := [_, _, _, _, _]) F dX4_digest_24 rfl (by decide) rfl rfl ?_
        refine r_iinc (lv1 := [_, _, _, _, _]) F dX4_digest_25 rfl (by decide) rfl rfl ?_
        refine r_goto (tgt := 6) F dX4_digest_28 (by decide) ?_
        have t := ih (j + 1) (by omega) (by omega)
        rw [dgF_S _ _ h0] at t
        exact t
  refine r_ldc2 F dX4_digest_0 lcl_X4_207 ?_
  refine r_lstore_n (i := 1) (lv1 := [_, _, _, _, _]) F dX4_digest_3 rfl (by decide) rfl rfl ?_
  refine r_iconst F dX4_digest_4 ?_
  refine r_istore_n (i := 3) (lv1 := [_, _, _, _, _]) F dX4_digest_5 rfl (by decide) rfl rfl ?_
  have t := oc 11 0 (by decide) (by decide)
  rw [dgF_0] at t
  exact t
