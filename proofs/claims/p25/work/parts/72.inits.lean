/-! Constructors: the class, the coast by hand. -/
set_option maxHeartbeats 4000000 in
set_option maxRecDepth 100000 in
theorem I_X4_init {l : Launch} {cy : Nat → ClassId} {D : va_G}  {b : Nat} : It (S := (Nat × (Nat → Nat)) × (Nat × (Nat → Nat))) l cy D yX4_init cX4_init 1 4 b 56 414 [(b, .inr (4, [.null, .null]))] (fun g => ((b, .inr (4, [.ref g.1.1, .ref g.2.1])) :: coastW cy g.1.1 g.1.2) ++ coastW cy g.2.1 g.2.2) := by
  refine It.mk (lv := [some (.ref b)]) 0 (by decide) rfl rfl (Nat.le_of_ble_eq_true rfl) (fun p e s m below meth c F hr9 => ?_)
  obtain ⟨hr, nm9⟩ := hr9
  refine k_aload_n (i := 0) F dX4_init_0 rfl rfl ?_
  refine k_obj F dX4_init_1 jl_X4 jo_i jo_c (by decide) (by decide) ?_
  refine k_aload_n (i := 0) F dX4_init_4 rfl rfl ?_
  refine k_new (ci := 1) (fs := [.null, .null, .null, .null, .null, .null, .null, .int 0, .int 0, .int 0, .int 0, .int 0, .int 0]) (T := TX1) F dX4_init_5 jc_X4_7 jt_X1 jn_X1 inT_X1 tyX1 tyX1_ok rfl (fun j hj => by rcases (show j = 0 ∨ j = 1 ∨ j = 2 ∨ j = 3 ∨ j = 4 ∨ j = 5 ∨ j = 6 ∨ j = 7 ∨ j = 8 ∨ j = 9 ∨ j = 10 ∨ j = 11 ∨ j = 12 by omega) with rfl | rfl | rfl | rfl | rfl | rfl | rfl | rfl | rfl | rfl | rfl | rfl | rfl <;> rfl) (by decide) (fun q1 => ?_)
  refine k_dup F dX4_init_8 rfl ?_
  refine k_callI (pre := [(b, .inr (4, [.null, .null]))]) F (I_X1_init (cy := cy)) rfl dX4_init_9 jm_X4_9 ji_X1 jn_X1 cd_X1_init rfl ⟨by decide, by decide, by decide +kernel⟩ (by decide) (by decide) (Nat.le_of_ble_eq_true rfl) (fun g1 => ?_)
  refine UV.cast (ws1 := (b, .inr (4, [.null, .null])) :: coastW cy q1 g1) rfl ?_
  refine k_putF (ty0 := tyX4) (k := 0) F nm9 0 dX4_init_12 rfl rfl rfl (by decide) inT_X4 tyX4_ok nmX4 lf_X4_10 rfl rfl (ty := .object "CoveSignals$Coast") (by decide +kernel) rfl rfl (ws1 := (b, .inr (4, [.ref q1, .null])) :: coastW cy q1 g1) rfl ?_
  refine k_aload_n (i := 0) F dX4_init_15 rfl rfl ?_
  refine k_new (ci := 1) (fs := [.null, .null, .null, .null, .null, .null, .null, .int 0, .int 0, .int 0, .int 0, .int 0, .int 0]) (T := TX1) F dX4_init_16 jc_X4_7 jt_X1 jn_X1 inT_X1 tyX1 tyX1_ok rfl (fun j hj => by rcases (show j = 0 ∨ j = 1 ∨ j = 2 ∨ j = 3 ∨ j = 4 ∨ j = 5 ∨ j = 6 ∨ j = 7 ∨ j = 8 ∨ j = 9 ∨ j = 10 ∨ j = 11 ∨ j = 12 by omega) with rfl | rfl | rfl | rfl | rfl | rfl | rfl | rfl | rfl | rfl | rfl | rfl | rfl <;> rfl) (by decide) (fun q2 => ?_)
  refine k_dup F dX4_init_19 rfl ?_
  refine k_callI (pre := (b, .inr (4, [.ref q1, .null])) :: coastW cy q1 g1) F (I_X1_init (cy := cy)) rfl dX4_init_20 jm_X4_9 ji_X1 jn_X1 cd_X1_init rfl ⟨by decide, by decide, by decide +kernel⟩ (by decide) (by decide) (Nat.le_of_ble_eq_true rfl) (fun g2 => ?_)
  refine k_putF (ty0 := tyX4) (k := 1) F nm9 0 dX4_init_23 rfl rfl rfl (by decide) inT_X4 tyX4_ok nmX4 lf_X4_16 rfl rfl (ty := .object "CoveSignals$Coast") (by decide +kernel) rfl rfl (ws1 := ((b, .inr (4, [.ref q1, .ref q2])) :: coastW cy q1 g1) ++ coastW cy q2 g2) rfl ?_
  exact k_vret F hr dX4_init_26 ((q1, g1), (q2, g2)) rfl (by decide) (by decide)
def simW (cy : Nat → ClassId) (b : Nat) (g : Nat → Nat) : va_W := [(b, .inr (5, [.int 0, .int 0, .int 0, .ref (g 0), .ref (g 1), .ref (g 2), .ref (g 3), .ref (g 4), .ref (g 5), .ref (g 6)])), ((g 0), .inl (cy 0, 16, .inl (fun _ => 0))), ((g 1), .inl (cy 0, 16, .inl (fun _ => 0))), ((g 2), .inl (cy 0, 8, .inl nmF)), ((g 3), .inl (cy 0, 8, .inl (fun _ => 0))), ((g 4), .inl (cy 1, 0, .inr (.inr (.inr (.inr (fun _ => none)))))), ((g 5), .inl (cy 1, 0, .inr (.inr (.inr (.inr (fun _ => none)))))), ((g 6), .inl (cy 1, 0, .inr (.inr (.inr (.inr (fun _ => none))))))]
set_option maxHeartbeats 4000000 in
set_option maxRecDepth 100000 in
theorem I_X5_init {l : Launch} {cy : Nat → ClassId} {D : va_G}  {b : Nat} : It (S := Nat → Nat) l cy D yX5_init cX5_init 1 1 b 7 48 [(b, .inr (5, [.int 0, .int 0, .int 0, .null, .null, .null, .null, .null, .null, .null]))] (fun g => simW cy b g) := by
  refine It.mk (lv := [some (.ref b)]) 0 (by decide) rfl rfl (Nat.le_of_ble_eq_true rfl) (fun p e s m below meth c F hr9 => ?_)
  obtain ⟨hr, nm9⟩ := hr9
  refine k_aload_n (i := 0) F dX5_init_0 rfl rfl ?_
  refine k_obj F dX5_init_1 jl_X5 jo_i jo_c (by decide) (by decide) ?_
  refine k_aload_n (i := 0) F dX5_init_4 rfl rfl ?_
  refine k_bipush F dX5_init_5 (by decide) ?_
  refine k_newa F 16 dX5_init_7 ja_int (by decide) (by decide) (fun q1 => ?_)
  refine UV.cast (ws1 := [(b, .inr (5, [.int 0, .int 0, .int 0, .null, .null, .null, .null, .null, .null, .null])), (q1, .inl (cy 0, 16, .inl (fun _ => 0)))]) rfl ?_
  refine k_put (ty0 := tyX5) (k := 3) F 0 dX5_init_9 rfl rfl rfl (by decide) inT_X5 tyX5_ok nmX5 lf_X5_7 rfl (ty := .array .int) (by decide +kernel) rfl rfl (ws1 := [(b, .inr (5, [.int 0, .int 0, .int 0, .ref q1, .null, .null, .null, .null, .null, .null])), (q1, .inl (cy 0, 16, .inl (fun _ => 0)))]) rfl ?_
  refine k_aload_n (i := 0) F dX5_init_12 rfl rfl ?_
  refine k_bipush F dX5_init_13 (by decide) ?_
  refine k_newa F 16 dX5_init_15 ja_int (by decide) (by decide) (fun q2 => ?_)
  refine UV.cast (ws1 := [(b, .inr (5, [.int 0, .int 0, .int 0, .ref q1, .null, .null, .null, .null, .null, .null])), (q1, .inl (cy 0, 16, .inl (fun _ => 0))), (q2, .inl (cy 0, 16, .inl (fun _ => 0)))]) rfl ?_
  refine k_put (ty0 := tyX5) (k := 4) F 0 dX5_init_17 rfl rfl rfl (by decide) inT_X5 tyX5_ok nmX5 lf_X5_13 rfl (ty := .array .int) (by decide +kernel) rfl rfl (ws1 := [(b, .inr (5, [.int 0, .int 0, .int 0, .ref q1, .ref q2, .null, .null, .null, .null, .null])), (q1, .inl (cy 0, 16, .inl (fun _ => 0))), (q2, .inl (cy 0, 16, .inl (fun _ => 0)))]) rfl ?_
  refine k_aload_n (i := 0) F dX5_init_20 rfl rfl ?_
  refine k_bipush F dX5_init_21 (by decide) ?_
  refine k_newa F 8 dX5_init_23 ja_int (by decide) (by decide) (fun q3 => ?_)
  refine UV.cast (ws1 := [(b, .inr (5, [.int 0, .int 0, .int 0, .ref q1, .ref q2, .null, .null, .null, .null, .null])), (q1, .inl (cy 0, 16, .inl (fun _ => 0))), (q2, .inl (cy 0, 16, .inl (fun _ => 0))), (q3, .inl (cy 0, 8, .inl (fun _ => 0)))]) rfl ?_
  refine k_dup F dX5_init_25 rfl ?_
  refine k_iconst F dX5_init_26 ?_
  refine k_iconst F dX5_init_27 ?_
  refine k_iast (j := 0) F 3 dX5_init_28 rfl (by decide) (by decide) (by decide) (ws1 := [(b, .inr (5, [.int 0, .int 0, .int 0, .ref q1, .ref q2, .null, .null, .null, .null, .null])), (q1, .inl (cy 0, 16, .inl (fun _ => 0))), (q2, .inl (cy 0, 16, .inl (fun _ => 0))), (q3, .inl (cy 0, 8, .inl (upd (fun _ => 0) 0 (i32 (-1)))))]) rfl ?_
  refine k_dup F dX5_init_29 rfl ?_
  refine k_iconst F dX5_init_30 ?_
  refine k_iconst F dX5_init_31 ?_
  refine k_iast (j := 1) F 3 dX5_init_32 rfl (by decide) (by decide) (by decide) (ws1 := [(b, .inr (5, [.int 0, .int 0, .int 0, .ref q1, .ref q2, .null, .null, .null, .null, .null])), (q1, .inl (cy 0, 16, .inl (fun _ => 0))), (q2, .inl (cy 0, 16, .inl (fun _ => 0))), (q3, .inl (cy 0, 8, .inl (upd (upd (fun _ => 0) 0 (i32 (-1))) 1 (i32 (-1)))))]) rfl ?_
  refine k_dup F dX5_init_33 rfl ?_
  refine k_iconst F dX5_init_34 ?_
  refine k_iconst F dX5_init_35 ?_
  refine k_iast (j := 2) F 3 dX5_init_36 rfl (by decide) (by decide) (by decide) (ws1 := [(b, .inr (5, [.int 0, .int 0, .int 0, .ref q1, .ref q2, .null, .null, .null, .null, .null])), (q1, .inl (cy 0, 16, .inl (fun _ => 0))), (q2, .inl (cy 0, 16, .inl (fun _ => 0))), (q3, .inl (cy 0, 8, .inl (upd (upd (upd (fun _ => 0) 0 (i32 (-1))) 1 (i32 (-1))) 2 (i32 (-1)))))]) rfl ?_
  refine k_dup F dX5_init_37 rfl ?_
  refine k_iconst F dX5_init_38 ?_
  refine k_iconst F dX5_init_39 ?_
  refine k_iast (j := 3) F 3 dX5_init_40 rfl (by decide) (by decide) (by decide) (ws1 := [(b, .inr (5, [.int 0, .int 0, .int 0, .ref q1, .ref q2, .null, .null, .null, .null, .null])), (q1, .inl (cy 0, 16, .inl (fun _ => 0))), (q2, .inl (cy 0, 16, .inl (fun _ => 0))), (q3, .inl (cy 0, 8, .inl (upd (upd (upd (upd (fun _ => 0) 0 (i32 (-1))) 1 (i32 (-1))) 2 (i32 (-1))) 3 (i32 (-1)))))]) rfl ?_
  refine k_dup F dX5_init_41 rfl ?_
  refine k_iconst F dX5_init_42 ?_
  refine k_iconst F dX5_init_43 ?_
  refine k_iast (j := 4) F 3 dX5_init_44 rfl (by decide) (by decide) (by decide) (ws1 := [(b, .inr (5, [.int 0, .int 0, .int 0, .ref q1, .ref q2, .null, .null, .null, .null, .null])), (q1, .inl (cy 0, 16, .inl (fun _ => 0))), (q2, .inl (cy 0, 16, .inl (fun _ => 0))), (q3, .inl (cy 0, 8, .inl (upd (upd (upd (upd (upd (fun _ => 0) 0 (i32 (-1))) 1 (i32 (-1))) 2 (i32 (-1))) 3 (i32 (-1))) 4 (i32 (-1)))))]) rfl ?_
  refine k_dup F dX5_init_45 rfl ?_
  refine k_iconst F dX5_init_46 ?_
  refine k_iconst F dX5_init_47 ?_
  refine k_iast (j := 5) F 3 dX5_init_48 rfl (by decide) (by decide) (by decide) (ws1 := [(b, .inr (5, [.int 0, .int 0, .int 0, .ref q1, .ref q2, .null, .null, .null, .null, .null])), (q1, .inl (cy 0, 16, .inl (fun _ => 0))), (q2, .inl (cy 0, 16, .inl (fun _ => 0))), (q3, .inl (cy 0, 8, .inl (upd (upd (upd (upd (upd (upd (fun _ => 0) 0 (i32 (-1))) 1 (i32 (-1))) 2 (i32 (-1))) 3 (i32 (-1))) 4 (i32 (-1))) 5 (i32 (-1)))))]) rfl ?_
  refine k_dup F dX5_init_49 rfl ?_
  refine k_bipush F dX5_init_50 (by decide) ?_
  refine k_iconst F dX5_init_52 ?_
  refine k_iast (j := 6) F 3 dX5_init_53 rfl (by decide) (by decide) (by decide) (ws1 := [(b, .inr (5, [.int 0, .int 0, .int 0, .ref q1, .ref q2, .null, .null, .null, .null, .null])), (q1, .inl (cy 0, 16, .inl (fun _ => 0))), (q2, .inl (cy 0, 16, .inl (fun _ => 0))), (q3, .inl (cy 0, 8, .inl (upd (upd (upd (upd (upd (upd (upd (fun _ => 0) 0 (i32 (-1))) 1 (i32 (-1))) 2 (i32 (-1))) 3 (i32 (-1))) 4 (i32 (-1))) 5 (i32 (-1))) 6 (i32 (-1)))))]) rfl ?_
  refine k_dup F dX5_init_54 rfl ?_
  refine k_bipush F dX5_init_55 (by decide) ?_
  refine k_iconst F dX5_init_57 ?_
  refine k_iast (j := 7) F 3 dX5_init_58 rfl (by decide) (by decide) (by decide) (ws1 := [(b, .inr (5, [.int 0, .int 0, .int 0, .ref q1, .ref q2, .null, .null, .null, .null, .null])), (q1, .inl (cy 0, 16, .inl (fun _ => 0))), (q2, .inl (cy 0, 16, .inl (fun _ => 0))), (q3, .inl (cy 0, 8, .inl (upd (upd (upd (upd (upd (upd (upd (upd (fun _ => 0) 0 (i32 (-1))) 1 (i32 (-1))) 2 (i32 (-1))) 3 (i32 (-1))) 4 (i32 (-1))) 5 (i32 (-1))) 6 (i32 (-1))) 7 (i32 (-1)))))]) rfl ?_
  refine k_put (ty0 := tyX5) (k := 5) F 0 dX5_init_59 rfl rfl rfl (by decide) inT_X5 tyX5_ok nmX5 lf_X5_16 rfl (ty := .array .int) (by decide +kernel) rfl rfl (ws1 := [(b, .inr (5, [.int 0, .int 0, .int 0, .ref q1, .ref q2, .ref q3, .null, .null, .null, .null])), (q1, .inl (cy 0, 16, .inl (fun _ => 0))), (q2, .inl (cy 0, 16, .inl (fun _ => 0))), (q3, .inl (cy 0, 8, .inl (upd (upd (upd (upd (upd (upd (upd (upd (fun _ => 0) 0 (i32 (-1))) 1 (i32 (-1))) 2 (i32 (-1))) 3 (i32 (-1))) 4 (i32 (-1))) 5 (i32 (-1))) 6 (i32 (-1))) 7 (i32 (-1)))))]) rfl ?_
  refine k_aload_n (i := 0) F dX5_init_62 rfl rfl ?_
  refine k_bipush F dX5_init_63 (by decide) ?_
  refine k_newa F 8 dX5_init_65 ja_int (by decide) (by decide) (fun q4 => ?_)
  refine UV.cast (ws1 := [(b, .inr (5, [.int 0, .int 0, .int 0, .ref q1, .ref q2, .ref q3, .null, .null, .null, .null])), (q1, .inl (cy 0, 16, .inl (fun _ => 0))), (q2, .inl (cy 0, 16, .inl (fun _ => 0))), (q3, .inl (cy 0, 8, .inl (upd (upd (upd (upd (upd (upd (upd (upd (fun _ => 0) 0 (i32 (-1))) 1 (i32 (-1))) 2 (i32 (-1))) 3 (i32 (-1))) 4 (i32 (-1))) 5 (i32 (-1))) 6 (i32 (-1))) 7 (i32 (-1))))), (q4, .inl (cy 0, 8, .inl (fun _ => 0)))]) rfl ?_
  refine k_put (ty0 := tyX5) (k := 6) F 0 dX5_init_67 rfl rfl rfl (by decide) inT_X5 tyX5_ok nmX5 lf_X5_19 rfl (ty := .array .int) (by decide +kernel) rfl rfl (ws1 := [(b, .inr (5, [.int 0, .int 0, .int 0, .ref q1, .ref q2, .ref q3, .ref q4, .null, .null, .null])), (q1, .inl (cy 0, 16, .inl (fun _ => 0))), (q2, .inl (cy 0, 16, .inl (fun _ => 0))), (q3, .inl (cy 0, 8, .inl (upd (upd (upd (upd (upd (upd (upd (upd (fun _ => 0) 0 (i32 (-1))) 1 (i32 (-1))) 2 (i32 (-1))) 3 (i32 (-1))) 4 (i32 (-1))) 5 (i32 (-1))) 6 (i32 (-1))) 7 (i32 (-1))))), (q4, .inl (cy 0, 8, .inl (fun _ => 0)))]) rfl ?_
  refine k_aload_n (i := 0) F dX5_init_70 rfl rfl ?_
  refine k_iconst F dX5_init_71 ?_
  refine k_newqA F 0 dX5_init_72 tk_X5_22 (by decide) (by decide) (fun q5 => ?_)
  refine UV.cast (ws1 := [(b, .inr (5, [.int 0, .int 0, .int 0, .ref q1, .ref q2, .ref q3, .ref q4, .null, .null, .null])), (q1, .inl (cy 0, 16, .inl (fun _ => 0))), (q2, .inl (cy 0, 16, .inl (fun _ => 0))), (q3, .inl (cy 0, 8, .inl (upd (upd (upd (upd (upd (upd (upd (upd (fun _ => 0) 0 (i32 (-1))) 1 (i32 (-1))) 2 (i32 (-1))) 3 (i32 (-1))) 4 (i32 (-1))) 5 (i32 (-1))) 6 (i32 (-1))) 7 (i32 (-1))))), (q4, .inl (cy 0, 8, .inl (fun _ => 0))), (q5, .inl (cy 1, 0, .inr (.inr (.inr (.inr (fun _ => none))))))]) rfl ?_
  refine k_put (ty0 := tyX5) (k := 7) F 0 dX5_init_75 rfl rfl rfl (by decide) inT_X5 tyX5_ok nmX5 lf_X5_23 rfl (ty := .array (.array .int)) (by decide +kernel) rfl rfl (ws1 := [(b, .inr (5, [.int 0, .int 0, .int 0, .ref q1, .ref q2, .ref q3, .ref q4, .ref q5, .null, .null])), (q1, .inl (cy 0, 16, .inl (fun _ => 0))), (q2, .inl (cy 0, 16, .inl (fun _ => 0))), (q3, .inl (cy 0, 8, .inl (upd (upd (upd (upd (upd (upd (upd (upd (fun _ => 0) 0 (i32 (-1))) 1 (i32 (-1))) 2 (i32 (-1))) 3 (i32 (-1))) 4 (i32 (-1))) 5 (i32 (-1))) 6 (i32 (-1))) 7 (i32 (-1))))), (q4, .inl (cy 0, 8, .inl (fun _ => 0))), (q5, .inl (cy 1, 0, .inr (.inr (.inr (.inr (fun _ => none))))))]) rfl ?_
  refine k_aload_n (i := 0) F dX5_init_78 rfl rfl ?_
  refine k_iconst F dX5_init_79 ?_
  refine k_newqA F 0 dX5_init_80 tk_X5_22 (by decide) (by decide) (fun q6 => ?_)
  refine UV.cast (ws1 := [(b, .inr (5, [.int 0, .int 0, .int 0, .ref q1, .ref q2, .ref q3, .ref q4, .ref q5, .null, .null])), (q1, .inl (cy 0, 16, .inl (fun _ => 0))), (q2, .inl (cy 0, 16, .inl (fun _ => 0))), (q3, .inl (cy 0, 8, .inl (upd (upd (upd (upd (upd (upd (upd (upd (fun _ => 0) 0 (i32 (-1))) 1 (i32 (-1))) 2 (i32 (-1))) 3 (i32 (-1))) 4 (i32 (-1))) 5 (i32 (-1))) 6 (i32 (-1))) 7 (i32 (-1))))), (q4, .inl (cy 0, 8, .inl (fun _ => 0))), (q5, .inl (cy 1, 0, .inr (.inr (.inr (.inr (fun _ => none)))))), (q6, .inl (cy 1, 0, .inr (.inr (.inr (.inr (fun _ => none))))))]) rfl ?_
  refine k_put (ty0 := tyX5) (k := 8) F 0 dX5_init_83 rfl rfl rfl (by decide) inT_X5 tyX5_ok nmX5 lf_X5_27 rfl (ty := .array (.array .int)) (by decide +kernel) rfl rfl (ws1 := [(b, .inr (5, [.int 0, .int 0, .int 0, .ref q1, .ref q2, .ref q3, .ref q4, .ref q5, .ref q6, .null])), (q1, .inl (cy 0, 16, .inl (fun _ => 0))), (q2, .inl (cy 0, 16, .inl (fun _ => 0))), (q3, .inl (cy 0, 8, .inl (upd (upd (upd (upd (upd (upd (upd (upd (fun _ => 0) 0 (i32 (-1))) 1 (i32 (-1))) 2 (i32 (-1))) 3 (i32 (-1))) 4 (i32 (-1))) 5 (i32 (-1))) 6 (i32 (-1))) 7 (i32 (-1))))), (q4, .inl (cy 0, 8, .inl (fun _ => 0))), (q5, .inl (cy 1, 0, .inr (.inr (.inr (.inr (fun _ => none)))))), (q6, .inl (cy 1, 0, .inr (.inr (.inr (.inr (fun _ => none))))))]) rfl ?_
  refine k_aload_n (i := 0) F dX5_init_86 rfl rfl ?_
  refine k_iconst F dX5_init_87 ?_
  refine k_newqA F 0 dX5_init_88 tk_X5_22 (by decide) (by decide) (fun q7 => ?_)
  refine UV.cast (ws1 := [(b, .inr (5, [.int 0, .int 0, .int 0, .ref q1, .ref q2, .ref q3, .ref q4, .ref q5, .ref q6, .null])), (q1, .inl (cy 0, 16, .inl (fun _ => 0))), (q2, .inl (cy 0, 16, .inl (fun _ => 0))), (q3, .inl (cy 0, 8, .inl (upd (upd (upd (upd (upd (upd (upd (upd (fun _ => 0) 0 (i32 (-1))) 1 (i32 (-1))) 2 (i32 (-1))) 3 (i32 (-1))) 4 (i32 (-1))) 5 (i32 (-1))) 6 (i32 (-1))) 7 (i32 (-1))))), (q4, .inl (cy 0, 8, .inl (fun _ => 0))), (q5, .inl (cy 1, 0, .inr (.inr (.inr (.inr (fun _ => none)))))), (q6, .inl (cy 1, 0, .inr (.inr (.inr (.inr (fun _ => none)))))), (q7, .inl (cy 1, 0, .inr (.inr (.inr (.inr (fun _ => none))))))]) rfl ?_
  refine k_put (ty0 := tyX5) (k := 9) F 0 dX5_init_91 rfl rfl rfl (by decide) inT_X5 tyX5_ok nmX5 lf_X5_30 rfl (ty := .array (.array .int)) (by decide +kernel) rfl rfl (ws1 := [(b, .inr (5, [.int 0, .int 0, .int 0, .ref q1, .ref q2, .ref q3, .ref q4, .ref q5, .ref q6, .ref q7])), (q1, .inl (cy 0, 16, .inl (fun _ => 0))), (q2, .inl (cy 0, 16, .inl (fun _ => 0))), (q3, .inl (cy 0, 8, .inl (upd (upd (upd (upd (upd (upd (upd (upd (fun _ => 0) 0 (i32 (-1))) 1 (i32 (-1))) 2 (i32 (-1))) 3 (i32 (-1))) 4 (i32 (-1))) 5 (i32 (-1))) 6 (i32 (-1))) 7 (i32 (-1))))), (q4, .inl (cy 0, 8, .inl (fun _ => 0))), (q5, .inl (cy 1, 0, .inr (.inr (.inr (.inr (fun _ => none)))))), (q6, .inl (cy 1, 0, .inr (.inr (.inr (.inr (fun _ => none)))))), (q7, .inl (cy 1, 0, .inr (.inr (.inr (.inr (fun _ => none))))))]) rfl ?_
  refine UV.cell 3 rfl (at_i (fun j hj => by rcases (show j = 0 ∨ j = 1 ∨ j = 2 ∨ j = 3 ∨ j = 4 ∨ j = 5 ∨ j = 6 ∨ j = 7 by omega) with rfl | rfl | rfl | rfl | rfl | rfl | rfl | rfl <;> rfl)) (ws1 := [(b, .inr (5, [.int 0, .int 0, .int 0, .ref q1, .ref q2, .ref q3, .ref q4, .ref q5, .ref q6, .ref q7])), (q1, .inl (cy 0, 16, .inl (fun _ => 0))), (q2, .inl (cy 0, 16, .inl (fun _ => 0))), (q3, .inl (cy 0, 8, .inl nmF)), (q4, .inl (cy 0, 8, .inl (fun _ => 0))), (q5, .inl (cy 1, 0, .inr (.inr (.inr (.inr (fun _ => none)))))), (q6, .inl (cy 1, 0, .inr (.inr (.inr (.inr (fun _ => none)))))), (q7, .inl (cy 1, 0, .inr (.inr (.inr (.inr (fun _ => none))))))]) rfl ?_
  exact k_vret F hr dX5_init_94 (fun k => ([q1, q2, q3, q4, q5, q6, q7] : List Nat).getD k 0) rfl (by decide) (by decide)
