/-! The law's loop of twelve. -/
section LAWL
variable {p : Program} {l : Launch} {e : Env} {s : State} {m : MethodId} {below : List Frame} {meth : Method} {c : Code} {ret : Option FieldType} {cy : Nat → ClassId} {D : va_G} {A : Nat → Prop} {b L : Nat} {xs : Nat → Int32} {Q : State → Prop}
set_option maxHeartbeats 4000000 in
set_option maxRecDepth 100000 in
theorem law_loop (hl9 : l.stackTraces = false) (G : Gx l s A) (hX : va_X b L xs s s.heap) (hbl : b < s.heap.size) (hbA : ¬ A b) (hL : L ≤ 260) {k0 q0 : Nat} (hk0 : k0 ≤ 1000 ∧ q0 ≤ 10000) (kk : ∀ (ad : Nat → Nat → Int → Nat) (S T : St) (M : Mem), Fx p s m #[Value.ref b] meth c RL cL_law 27 ret cy D ad A → OK S 8000 → Sh ad S → Cl ad → V p l e RW s m #[Value.ref b] below meth c 27 cy D ad A (k0 + 96) (q0 + 720) Q 1214 [some (.ref b), some (.ref (ad 0 0 0)), some (.ref (ad 13 2 0)), none, none, none, none, none, none, none, none, none, none, none, none, none, none, none, none, none, none, none, none, none, none, none, none] [] (mm S T S M)) : ∀ (n : Nat) (j : Int) (ad : Nat → Nat → Int → Nat) (S T : St) (M : Mem), 0 ≤ j → j + (n : Int) = 12 → Fx p s m #[Value.ref b] meth c RL cL_law 27 ret cy D ad A → OK S (1760 + 43 * j) → Sh ad S → Cl ad → Tr T S → V p l e RW s m #[Value.ref b] below meth c 27 cy D ad A (k0 + 8 * j.toNat) (q0 + 60 * j.toNat) Q 22 [some (.ref b), some (.ref (ad 0 0 0)), some (.ref (ad 13 2 0)), some (.int (i32 j)), none, none, none, none, none, none, none, none, none, none, none, none, none, none, none, none, none, none, none, none, none, none, none] [] (mm S T S M) := by
  intro n
  induction n with
  | zero =>
    intro j ad S T M h0 h1 F ok sh cl hT
    refine r_iload_n (i := 3) F dL_law_22 rfl rfl ?_
    refine r_bipush F dL_law_23 (by decide) ?_
    refine r_icmp_ge (tgt := 1214) F dL_law_25 (by decide) (by first | assumption | exact ir_of (by omega) (by omega)) (by first | assumption | exact ir_of (by omega) (by omega)) (fun h25 => ?_) (fun h25 => ?_)
    · refine V.kill (lv1 := [_, _, _, _, _, _, _, _, _, _, _, _, _, _, _, _, _, _, _, _, _, _, _, _, _, _, _]) 3 rfl ?_
      refine V.wide (kc1 := k0 + 96) (ks1 := q0 + 720) (by omega) (by omega) ?_
      exact kk ad S T M F (ok.le (by omega)) sh cl
    · exfalso; omega
  | succ n ih =>
    intro j ad S T M h0 h1 F ok sh cl hT
    refine r_iload_n (i := 3) F dL_law_22 rfl rfl ?_
    refine r_bipush F dL_law_23 (by decide) ?_
    refine r_icmp_ge (tgt := 1214) F dL_law_25 (by decide) (by first | assumption | exact ir_of (by omega) (by omega)) (by first | assumption | exact ir_of (by omega) (by omega)) (fun h25 => ?_) (fun h25 => ?_)
    · exfalso; omega
    · refine r_aload_n (i := 0) F dL_law_28 rfl rfl ?_
      refine r_iconst F dL_law_29 ?_
      refine r_iload_n (i := 3) F dL_law_30 rfl rfl ?_
      refine r_iadd F dL_law_31 ?_
      refine r_callSG F (C_L_cell (k := 3 + j) ⟨by omega, by omega⟩ hL) (fun sz => ES_blind _ _ _ _ sz) (es_at F hX hbl hbA) dL_law_32 lks_L_91 rfl rfl cd_L_cell (by decide) ⟨by show _ ≤ 630427; omega, by show _ ≤ 7210188; omega⟩ (Nat.le_of_ble_eq_true rfl) (fun r9 ad9 M9 hP9 F9 => ?_)
      obtain ⟨⟨v, hv, rfl⟩, rfl, rfl⟩ := hP9
      refine r_iconst F dL_law_35 ?_
      refine r_shr F dL_law_36 ?_
      refine r_sipush F dL_law_37 (by decide) ?_
      refine r_iload_n (i := 3) F dL_law_40 rfl rfl ?_
      refine r_imul F dL_law_41 ?_
      refine r_iadd F dL_law_42 ?_
      refine V.top (fun x9 hx9 => ?_)
      refine r_istore (lv1 := [_, _, _, _, _, _, _, _, _, _, _, _, _, _, _, _, _, _, _, _, _, _, _, _, _, _, _]) F dL_law_43 (by decide) rfl rfl ?_
      refine r_aload_n (i := 1) F dL_law_45 rfl rfl ?_
      refine r_aload_n (i := 2) F dL_law_46 rfl rfl ?_
      refine r_iload F dL_law_47 rfl ?_
      refine r_callHG F (C_L_act (x := x9) (h := 1760 + 43 * j) hl9 sh cl ok (by omega) hx9) (fun sz => EX_blind _ sz) (ex_at F G) dL_law_49 lks_L_96 rfl rfl cdw_L_act (by decide) ⟨by show _ ≤ 630427; omega, by show _ ≤ 7210188; omega⟩ (Nat.le_of_ble_eq_true rfl) (fun r9 ad2 M9 hP9 F => ?_)
      obtain ⟨rfl, low2, cl2, S2, M2, rfl, ok2, sh2, n1, n2, n3⟩ := hP9
      refine r_bz_ne (tgt := 57) F dL_law_52 (by decide) (fun h52 => ?_) (fun h52 => ?_)
      · refine V.cg (lv1 := [some (.ref b), some (.ref (ad2 0 0 0)), some (.ref (ad2 13 2 0)), some (.int (i32 j)), some (.int (i32 x9)), none, none, none, none, none, none, none, none, none, none, none, none, none, none, none, none, none, none, none, none, none, none]) (st1 := []) (by rw [low2 0 0 0 (by decide), low2 13 2 0 (by decide)]) rfl ?_
        have F2 := F
        have hI2 := ok2.1
        have hD2 := ok2.2.1
        have hG2 := ok2.2.2.1
        have ic := hI2.pc
        have hh : 0 ≤ S2 20 0 ∧ S2 20 0 < 800000 := ⟨ok2.2.2.2.1, by have := ok2.2.2.2.2; omega⟩
        have hh9 : 0 ≤ S2 20 0 ∧ S2 20 0 < 900000 := ⟨hh.1, by omega⟩
        have hT2 : Tr T S2 := hT.le n1 n2 n3
        refine r_aload_n (i := 1) F dL_law_57 rfl rfl ?_
        refine r_callV F (K_X4_digest (mm_0 _ _ _ _) hI2 hh9) dL_law_58 lkv_L_105 rfl rfl rfl rfl rfl cd_X4_digest (by decide) ⟨by show _ ≤ 630427; omega, by show _ ≤ 7210188; omega⟩ (Nat.le_of_ble_eq_true rfl) ?_
        refine r_lstore (lv1 := [_, _, _, _, _, _, _, _, _, _, _, _, _, _, _, _, _, _, _, _, _, _, _, _, _, _, _]) F dL_law_61 (by decide) rfl rfl ?_
        refine r_aload_n (i := 1) F dL_law_63 rfl rfl ?_
        refine r_iconst F dL_law_64 ?_
        refine r_callV F (K_n3 (mm_0 _ _ _ _) hI2) dL_law_65 lkv_L_109 rfl rfl rfl rfl rfl cd_X4_count (by decide) ⟨by show _ ≤ 630427; omega, by show _ ≤ 7210188; omega⟩ (Nat.le_of_ble_eq_true rfl) ?_
        refine r_istore (lv1 := [_, _, _, _, _, _, _, _, _, _, _, _, _, _, _, _, _, _, _, _, _, _, _, _, _, _, _]) F dL_law_68 (by decide) rfl rfl ?_
        refine r_iconst F dL_law_70 ?_
        refine r_istore (lv1 := [_, _, _, _, _, _, _, _, _, _, _, _, _, _, _, _, _, _, _, _, _, _, _, _, _, _, _]) F dL_law_71 (by decide) rfl rfl ?_
        refine r_iconst F dL_law_73 ?_
        refine r_istore (lv1 := [_, _, _, _, _, _, _, _, _, _, _, _, _, _, _, _, _, _, _, _, _, _, _, _, _, _, _]) F dL_law_74 (by decide) rfl rfl ?_
        refine r_iconst F dL_law_76 ?_
        refine r_istore (lv1 := [_, _, _, _, _, _, _, _, _, _, _, _, _, _, _, _, _, _, _, _, _, _, _, _, _, _, _]) F dL_law_77 (by decide) rfl rfl ?_
        refine r_iconst F dL_law_79 ?_
        refine V.cast (w_self S2 T S2 M2) ?_
        refine w_newa F 24 (by decide) (cl2 24 (by decide) (by decide)) (cl2 32 (by decide) (by decide)) 5 dL_law_80 rfl (by decide) ⟨by show _ ≤ 630427; omega, by show _ ≤ 7210188; omega⟩ (fun ad3 E3 F => ?_)
        have hz3 : ∀ t : Nat, 24 < t → t < 33 → ad3 40 t 0 ≠ 1 := fun t a b => by rw [E3.fl (by decide) (Or.inl rfl) (by omega)]; exact cl2 t (by omega) b
        refine r_astore (lv1 := [_, _, _, _, _, _, _, _, _, _, _, _, _, _, _, _, _, _, _, _, _, _, _, _, _, _, _]) F dL_law_82 (by decide) rfl rfl ?_
        refine r_iload F dL_law_84 rfl ?_
        refine w_newa F 25 (by decide) (hz3 25 (by decide) (by decide)) (hz3 32 (by decide) (by decide)) (S2 20 3).toNat dL_law_86 (by omega) (by omega) ⟨by show _ ≤ 630427; omega, by show _ ≤ 7210188; omega⟩ (fun ad4 E4 F => ?_)
        have hz4 : ∀ t : Nat, 25 < t → t < 33 → ad4 40 t 0 ≠ 1 := fun t a b => by rw [E4.fl (by decide) (Or.inl rfl) (by omega)]; exact hz3 t (by omega) b
        refine r_astore (lv1 := [_, _, _, _, _, _, _, _, _, _, _, _, _, _, _, _, _, _, _, _, _, _, _, _, _, _, _]) F dL_law_88 (by decide) rfl rfl ?_
        refine r_iload F dL_law_90 rfl ?_
        refine w_newa F 26 (by decide) (hz4 26 (by decide) (by decide)) (hz4 32 (by decide) (by decide)) (S2 20 3).toNat dL_law_92 (by omega) (by omega) ⟨by show _ ≤ 630427; omega, by show _ ≤ 7210188; omega⟩ (fun ad5 E5 F => ?_)
        have hz5 : ∀ t : Nat, 26 < t → t < 33 → ad5 40 t 0 ≠ 1 := fun t a b => by rw [E5.fl (by decide) (Or.inl rfl) (by omega)]; exact hz4 t (by omega) b
        refine r_astore (lv1 := [_, _, _, _, _, _, _, _, _, _, _, _, _, _, _, _, _, _, _, _, _, _, _, _, _, _, _]) F dL_law_94 (by decide) rfl rfl ?_
        refine r_iload F dL_law_96 rfl ?_
        refine w_newa F 27 (by decide) (hz5 27 (by decide) (by decide)) (hz5 32 (by decide) (by decide)) (S2 20 3).toNat dL_law_98 (by omega) (by omega) ⟨by show _ ≤ 630427; omega, by show _ ≤ 7210188; omega⟩ (fun ad6 E6 F => ?_)
        have hz6 : ∀ t : Nat, 27 < t → t < 33 → ad6 40 t 0 ≠ 1 := fun t a b => by rw [E6.fl (by decide) (Or.inl rfl) (by omega)]; exact hz5 t (by omega) b
        refine r_astore (lv1 := [_, _, _, _, _, _, _, _, _, _, _, _, _, _, _, _, _, _, _, _, _, _, _, _, _, _, _]) F dL_law_100 (by decide) rfl rfl ?_
        refine r_iload F dL_law_102 rfl ?_
        refine w_newa F 28 (by decide) (hz6 28 (by decide) (by decide)) (hz6 32 (by decide) (by decide)) (S2 20 3).toNat dL_law_104 (by omega) (by omega) ⟨by show _ ≤ 630427; omega, by show _ ≤ 7210188; omega⟩ (fun ad7 E7 F => ?_)
        have hz7 : ∀ t : Nat, 28 < t → t < 33 → ad7 40 t 0 ≠ 1 := fun t a b => by rw [E7.fl (by decide) (Or.inl rfl) (by omega)]; exact hz6 t (by omega) b
        refine r_astore (lv1 := [_, _, _, _, _, _, _, _, _, _, _, _, _, _, _, _, _, _, _, _, _, _, _, _, _, _, _]) F dL_law_106 (by decide) rfl rfl ?_
        refine r_iconst F dL_law_108 ?_
        refine r_istore (lv1 := [_, _, _, _, _, _, _, _, _, _, _, _, _, _, _, _, _, _, _, _, _, _, _, _, _, _, _]) F dL_law_109 (by decide) rfl rfl ?_
        have hAr : Ar ad7 (S2 20 3) := ⟨⟨by rw [E7.fl (by decide) (Or.inl rfl) (by decide), E6.fl (by decide) (Or.inl rfl) (by decide), E5.fl (by decide) (Or.inl rfl) (by decide), E4.fl (by decide) (Or.inl rfl) (by decide), E3.1], by rw [E7.fl (by decide) (Or.inr rfl) (by decide), E6.fl (by decide) (Or.inr rfl) (by decide), E5.fl (by decide) (Or.inr rfl) (by decide), E4.fl (by decide) (Or.inr rfl) (by decide), E3.2.1]; rfl⟩, ⟨by rw [E7.fl (by decide) (Or.inl rfl) (by decide), E6.fl (by decide) (Or.inl rfl) (by decide), E5.fl (by decide) (Or.inl rfl) (by decide), E4.1], by rw [E7.fl (by decide) (Or.inr rfl) (by decide), E6.fl (by decide) (Or.inr rfl) (by decide), E5.fl (by decide) (Or.inr rfl) (by decide), E4.2.1]; omega⟩, ⟨by rw [E7.fl (by decide) (Or.inl rfl) (by decide), E6.fl (by decide) (Or.inl rfl) (by decide), E5.1], by rw [E7.fl (by decide) (Or.inr rfl) (by decide), E6.fl (by decide) (Or.inr rfl) (by decide), E5.2.1]; omega⟩, ⟨by rw [E7.fl (by decide) (Or.inl rfl) (by decide), E6.1], by rw [E7.fl (by decide) (Or.inr rfl) (by decide), E6.2.1]; omega⟩, ⟨by rw [E7.1], by rw [E7.2.1]; omega⟩⟩
        have r0 : ad7 0 0 0 = ad2 0 0 0 := (by rw [E7.lo (by decide) (by decide), E6.lo (by decide) (by decide), E5.lo (by decide) (by decide), E4.lo (by decide) (by decide), E3.lo (by decide) (by decide)])
        have r13 : ad7 13 2 0 = ad2 13 2 0 := (by rw [E7.lo (by decide) (by decide), E6.lo (by decide) (by decide), E5.lo (by decide) (by decide), E4.lo (by decide) (by decide), E3.lo (by decide) (by decide)])
        have r24 : ad7 24 2 0 = ad3 24 2 0 := (by rw [E7.hi (by decide) (by decide) (by decide), E6.hi (by decide) (by decide) (by decide), E5.hi (by decide) (by decide) (by decide), E4.hi (by decide) (by decide) (by decide)])
        have r25 : ad7 25 2 0 = ad4 25 2 0 := (by rw [E7.hi (by decide) (by decide) (by decide), E6.hi (by decide) (by decide) (by decide), E5.hi (by decide) (by decide) (by decide)])
        have r26 : ad7 26 2 0 = ad5 26 2 0 := (by rw [E7.hi (by decide) (by decide) (by decide), E6.hi (by decide) (by decide) (by decide)])
        have r27 : ad7 27 2 0 = ad6 27 2 0 := (by rw [E7.hi (by decide) (by decide) (by decide)])
        have sh7 : Sh ad7 S2 := ((((sh2.ext E3 (by decide)).ext E4 (by decide)).ext E5 (by decide)).ext E6 (by decide)).ext E7 (by decide)
        refine V.cg (lv1 := [some (.ref b), some (.ref (ad7 0 0 0)), some (.ref (ad7 13 2 0)), some (.int (i32 j)), some (.int (i32 x9)), some (.long (dB S2)), none, some (.int (i32 (S2 20 3))), some (.int (i32 0)), some (.int (i32 0)), some (.int (i32 0)), some (.ref (ad7 24 2 0)), some (.ref (ad7 25 2 0)), some (.ref (ad7 26 2 0)), some (.ref (ad7 27 2 0)), some (.ref (ad7 28 2 0)), some (.int (i32 0)), none, none, none, none, none, none, none, none, none, none]) (st1 := []) (by rw [r0, r13, r24, r25, r26, r27]) rfl ?_
        have hR : ∃ kc ks : Nat, (k0 + 8 * j.toNat + 8 ≤ kc ∧ q0 + 60 * j.toNat + 53 ≤ ks) ∧ (kc ≤ k0 + 8 * j.toNat + 8 ∧ ks ≤ q0 + 60 * j.toNat + 53) ∧ kc ≤ 630427 ∧ ks ≤ 7210188 := ⟨k0 + 8 * j.toNat + 8, q0 + 60 * j.toNat + 53, ⟨Nat.le_refl _, Nat.le_refl _⟩, ⟨Nat.le_refl _, Nat.le_refl _⟩, by omega, by omega⟩
        obtain ⟨kc, ks, hlo, hup, hR⟩ := hR
        refine V.wide (kc1 := kc) (ks1 := ks) (by omega) (by omega) ?_
        refine law_A F hI2 hG2 hD2 hh hAr hR (fun T1 W1 hT1 hW1 => ?_) (S2 20 3).toNat 0 T _ (by decide) (by omega) hT2 ⟨fun k9 a9 b9 => by first | rfl | (simp [zk]; rfl) | simp [zk, cnt], fun i a9 b9 => by omega⟩
        refine law_B F (mm_0 _ _ _ _) hI2 hG2 hh hR ?_
        refine law_C F hI2 hG2 hh hR hAr hW1 ?_
        refine law_K F (mm_0 _ _ _ _) hI2 hG2 hh hR ?_
        refine law_D F (mm_0 _ _ _ _) hI2 hG2 hh hR ?_
        refine law_E F sh7 hI2 hG2 hD2 hT1 hW1 hh hAr hR (fun H T3 W3 hH hT3 => ?_)
        refine r_iinc (lv1 := [_, _, _, _, _, _, _, _, _, _, _, _, _, _, _, _, _, _, _, _, _, _, _, _, _, _, _]) F dL_law_1208 rfl (by decide) rfl rfl ?_
        refine r_goto (tgt := 22) F dL_law_1211 (by decide) ?_
        refine V.drop (M := mm (goN S2 H) T3 (goN S2 H) (setc M2 4 W3)) (E7.less (by decide) (hz6 28 (by decide) (by decide)) (hz6 32 (by decide) (by decide)) (fun _ _ _ _ => rfl)) ?_
        refine V.drop (M := mm (goN S2 H) T3 (goN S2 H) (setc M2 4 W3)) (E6.less (by decide) (hz5 27 (by decide) (by decide)) (hz5 32 (by decide) (by decide)) (fun _ _ _ _ => rfl)) ?_
        refine V.drop (M := mm (goN S2 H) T3 (goN S2 H) (setc M2 4 W3)) (E5.less (by decide) (hz4 26 (by decide) (by decide)) (hz4 32 (by decide) (by decide)) (fun _ _ _ _ => rfl)) ?_
        refine V.drop (M := mm (goN S2 H) T3 (goN S2 H) (setc M2 4 W3)) (E4.less (by decide) (hz3 25 (by decide) (by decide)) (hz3 32 (by decide) (by decide)) (fun _ _ _ _ => rfl)) ?_
        refine V.drop (M := mm (goN S2 H) T3 (goN S2 H) (setc M2 4 W3)) (E3.less (by decide) (cl2 24 (by decide) (by decide)) (cl2 32 (by decide) (by decide)) (fun _ _ _ _ => rfl)) ?_
        refine V.cg (lv1 := [some (.ref b), some (.ref (ad2 0 0 0)), some (.ref (ad2 13 2 0)), some (.int (i32 (j + 1))), none, none, none, none, none, none, none, none, none, none, none, none, none, none, none, none, none, none, none, none, none, none, none]) (st1 := []) (by rw [r0, r13]) rfl ?_
        refine V.wide (kc1 := k0 + 8 * (j + 1).toNat) (ks1 := q0 + 60 * (j + 1).toNat) (by omega) (by omega) ?_
        exact ih (j + 1) ad2 (goN S2 H) T3 _ (by omega) (by omega) F2 ((ok_go ok2 H).le (by omega)) (sh2.same (goN_cnt H).1 (goN_cnt H).2.1 (goN_cnt H).2.2) cl2 hT3
      · exact absurd h52 (by decide)
end LAWL
