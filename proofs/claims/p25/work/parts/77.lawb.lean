/-! The law's walk: the hours, the loop of twelve.  -/
theorem C_pass1 {l : Launch} {cy : Nat → ClassId} {D : va_G} {ad : Nat → Nat → Int → Nat} {S T c : St} {M : Mem} (hI : Inv S) (hh : 0 ≤ S 20 0 ∧ S 20 0 < 900000) : Ct l cy D ad yX4_pass cX4_pass 3 (some FieldType.int) 5 [.ref (ad 0 0 0), .int (i32 1)] (mm S T c M) (some (.int (i32 (goM S)))) (mm (go S) T c M) := by
  have h := Ct.mm0 (a := S) (b := T) (c := c) (M := M) (C_X4_pass (l := l) (cy := cy) (D := D) (ad := ad) (x := 1) hI hh (ir_of (by decide) (by decide)) (by unfold cRng1; rw [if_neg (by decide)]))
  rw [show goS S (1 : Int).toNat = goM S from by show (0 : Int) + goM S = goM S; omega] at h
  exact h
/-- what the rows hold in hour k, ahead of boat j -/
def LF (S : St) (k : Nat) (j : Int) (W : St) : Prop := ∀ i, 0 ≤ i → i < S 20 3 → W 3 i = untR S i ∧ W 1 i = (if i < j then goN S (k + 1) 13 i else goN S k 13 i) ∧ W 4 i = (if i < j then stg (goN S (k + 1)) i else stg (goN S k) i)
theorem lf_0 {S W : St} (h : LA S (S 20 3) W) : LF S 0 0 W := fun i i0 i1 => by
  obtain ⟨a, -, d, e⟩ := h.2 i i0 i1
  rw [if_neg (by omega), if_neg (by omega)]
  exact ⟨d, a, e⟩
theorem lf_end {S W : St} {k : Nat} (h : LF S k (S 20 3) W) : LF S (k + 1) 0 W := fun i i0 i1 => by
  obtain ⟨a, d, e⟩ := h i i0 i1
  rw [if_pos i1] at d e
  rw [if_neg (by omega), if_neg (by omega)]
  exact ⟨a, d, e⟩
theorem lf_step {S W W1 W2 : St} {k : Nat} {j : Int} (h : LF S k j W) (e1 : W1 = u2 W 1 j (goN S (k + 1) 13 j)) (e2 : W2 = u2 W1 4 j (stg (goN S (k + 1)) j)) : LF S k (j + 1) W2 := fun i i0 i1 => by
  obtain ⟨a, d, e⟩ := h i i0 i1
  rw [e2, e1]
  by_cases z : i = j
  · rw [if_pos (by omega), if_pos (by omega), z]
    rw [z] at a
    exact ⟨by rw [u2_k (by decide), u2_k (by decide)]; exact a, by rw [u2_k (by decide), u2_at], u2_at _ _ _ _⟩
  · by_cases y : i < j
    · rw [if_pos y] at d e
      rw [if_pos (by omega), if_pos (by omega)]
      exact ⟨by rw [u2_k (by decide), u2_k (by decide)]; exact a, by rw [u2_k (by decide), u2_i z]; exact d, by rw [u2_i z, u2_k (by decide)]; exact e⟩
    · rw [if_neg y] at d e
      rw [if_neg (by omega), if_neg (by omega)]
      exact ⟨by rw [u2_k (by decide), u2_k (by decide)]; exact a, by rw [u2_k (by decide), u2_i z]; exact d, by rw [u2_i z, u2_k (by decide)]; exact e⟩
def nw (S : St) (j : Int) : Int := sm (S 19) j.toNat + sm (balF S) j.toNat
theorem nw_S (S : St) {j : Int} (h : 0 ≤ j) : nw S (j + 1) = nw S j + (S 19 j + balF S j) := by
  unfold nw
  rw [sm_S _ h, sm_S _ h]
  omega
theorem nw_end {S S' : St} (hI : Inv S) (hI' : Inv S') (h : TOT S' = TOT S) (h3 : S' 20 3 = S 20 3) : nw S' (S 20 3) + S' 20 4 = sm (S 19) (S 20 3).toNat + sm (balF S) (S 20 3).toNat + S 20 4 := by
  unfold TOT at h
  unfold nw
  rw [bal_eq hI, bal_eq hI', h3] at h
  exact h
theorem Sh.ext {ad ad' : Nat → Nat → Int → Nat} {t n : Nat} {S : St} (h : Sh ad S) (E : Ext ad ad' t n) (ht : 24 ≤ t ∧ t < 33) : Sh ad' S := by
  refine ⟨(E.fl ht (Or.inl rfl) (by omega)).trans h.1, ?_, ?_, ?_⟩
  · rw [E.fl ht (Or.inr rfl) (by omega)]; exact h.2.1
  · rw [E.fl ht (Or.inr rfl) (by omega)]; exact h.2.2.1
  · rw [E.fl ht (Or.inr rfl) (by omega)]; exact h.2.2.2
section LAWB
variable {p : Program} {l : Launch} {e : Env} {s : State} {m : MethodId} {below : List Frame} {meth : Method} {c : Code} {ret : Option FieldType} {cy : Nat → ClassId} {D : va_G} {ad : Nat → Nat → Int → Nat} {A : Nat → Prop} {b kc ks : Nat} {Q : State → Prop} {M : Mem}
set_option maxHeartbeats 4000000 in
set_option maxRecDepth 100000 in
theorem law_F {S T : St} {k : Nat} {tm came cv hr c6 c5 un : Int} (F : Fx p s m #[Value.ref b] meth c RL cL_law 27 ret cy D ad A) (hI : Inv S) (hk : k < 60) (hAr : Ar ad (S 20 3)) (hR : kc ≤ 630427 ∧ ks ≤ 7210188) (kk : ∀ W : St, LF S (k + 1) 0 W → V p l e RW s m #[Value.ref b] below meth c 27 cy D ad A kc ks Q 1089 [some (.ref b), some (.ref (ad 0 0 0)), some (.ref (ad 13 2 0)), some (.int (i32 tm)), none, none, none, some (.int (i32 (S 20 3))), some (.int (i32 came)), none, none, some (.ref (ad 24 2 0)), some (.ref (ad 25 2 0)), some (.ref (ad 26 2 0)), some (.ref (ad 27 2 0)), some (.ref (ad 28 2 0)), some (.int (i32 cv)), none, none, some (.int (i32 hr)), some (.int (i32 c6)), some (.int (i32 c5)), some (.int (i32 ((k : Int)))), some (.int (i32 un)), none, none, none] [] (mm (goN S (k + 1)) T (goN S (k + 1)) (setc M 4 W))) : ∀ (n : Nat) (j : Int) (W : St), 0 ≤ j → j + (n : Int) = S 20 3 → LF S k j W → V p l e RW s m #[Value.ref b] below meth c 27 cy D ad A kc ks Q 865 [some (.ref b), some (.ref (ad 0 0 0)), some (.ref (ad 13 2 0)), some (.int (i32 tm)), none, none, none, some (.int (i32 (S 20 3))), some (.int (i32 came)), none, none, some (.ref (ad 24 2 0)), some (.ref (ad 25 2 0)), some (.ref (ad 26 2 0)), some (.ref (ad 27 2 0)), some (.ref (ad 28 2 0)), some (.int (i32 cv)), none, none, some (.int (i32 hr)), some (.int (i32 c6)), some (.int (i32 c5)), some (.int (i32 ((k : Int)))), some (.int (i32 un)), some (.int (i32 j)), none, none] [] (mm (goN S (k + 1)) T (goN S (k + 1)) (setc M 4 W)) := by
  have ic := hI.pc
  obtain ⟨⟨hs24, hl24⟩, ⟨hs25, hl25⟩, ⟨hs26, hl26⟩, ⟨hs27, hl27⟩, ⟨hs28, hl28⟩⟩ := hAr
  have hIk : Inv (goN S k) := goN_inv hI k
  have hIn : Inv (goN S (k + 1)) := goN_inv hI (k + 1)
  have e3 : goN S k 20 3 = S 20 3 := (goN_cnt k).2.2
  have e4 : goN S (k + 1) 20 3 = S 20 3 := (goN_cnt (k + 1)).2.2
  intro n
  induction n with
  | zero =>
    intro j W h0 h1 hW
    have ej : j = S 20 3 := by omega
    subst ej
    refine r_iload F dL_law_865 rfl ?_
    refine r_iload F dL_law_867 rfl ?_
    refine r_icmp_ge (tgt := 1089) F dL_law_869 (by decide) (by first | assumption | exact ir_of (by omega) (by omega)) (by first | assumption | exact ir_of (by omega) (by omega)) (fun h869 => ?_) (fun h869 => ?_)
    · refine V.kill (lv1 := [_, _, _, _, _, _, _, _, _, _, _, _, _, _, _, _, _, _, _, _, _, _, _, _, _, _, _]) 24 rfl ?_
      exact kk W (lf_end hW)
    · exfalso; omega
  | succ n ih =>
    intro j W h0 h1 hW
    obtain ⟨b1, b2, b3, b4, b5⟩ : (-2 ≤ goN S (k + 1) 13 j - goN S k 13 j ∧ goN S (k + 1) 13 j - goN S k 13 j ≤ 2) ∧ (1 < stg (goN S k) j → goN S (k + 1) 13 j = goN S k 13 j) ∧ (goN S (k + 1) 15 j < 0 → goN S (k + 1) 13 j = goN S k 13 j) ∧ (goN S (k + 1) 13 j ≠ goN S k 13 j → iabs (goN S (k + 1) 15 j - goN S (k + 1) 13 j) < iabs (goN S (k + 1) 15 j - goN S k 13 j)) ∧ (2 < stg (goN S k) j → stg (goN S (k + 1)) j = stg (goN S k) j) := hour_b hIk h0 (by omega)
    obtain ⟨w3, w1, w4⟩ := hW j h0 (by omega)
    rw [if_neg (by omega)] at w1 w4
    have hu : stg (goN S k) j < 3 → (stg (goN S (k + 1)) j = 3 ↔ untR S j = (k : Int) + 1) := fun z => by
      have o := stg_or (goN S k) j
      have o2 := stg_or (goN S (k + 1)) j
      have p18 := hIk.p18 j
      have u := untR_k (S := S) (b := j) h0 (by omega) (k := k) (by omega) (by omega)
      rw [← u]
      omega
    have a13 := hIn.p13 j
    have a15 := hIn.p15 j
    have c13 := hIk.p13 j
    have ub := untR_bd S j
    have sb1 : 0 ≤ stg (goN S k) j ∧ stg (goN S k) j ≤ 4 := by have o9 := stg_or (goN S k) j; omega
    have sb2 : 0 ≤ stg (goN S (k + 1)) j ∧ stg (goN S (k + 1)) j ≤ 4 := by have o9 := stg_or (goN S (k + 1)) j; omega
    have i0 := iabs_or (goN S (k + 1) 13 j - W 1 j)
    have i1 := iabs_or (goN S (k + 1) 15 j - goN S (k + 1) 13 j)
    have i2 := iabs_or (goN S (k + 1) 15 j - W 1 j)
    have i3 : W 1 j = goN S k 13 j := w1
    rw [← i3] at b4
    generalize hnow : goN S (k + 1) 13 j = now at b1 b2 b3 b4 a13 i0 i1
    have h1071 : ∀ W1 : St, W1 = u2 W 1 j now → V p l e RW s m #[Value.ref b] below meth c 27 cy D ad A kc ks Q 1071 [some (.ref b), some (.ref (ad 0 0 0)), some (.ref (ad 13 2 0)), some (.int (i32 tm)), none, none, none, some (.int (i32 (S 20 3))), some (.int (i32 came)), none, none, some (.ref (ad 24 2 0)), some (.ref (ad 25 2 0)), some (.ref (ad 26 2 0)), some (.ref (ad 27 2 0)), some (.ref (ad 28 2 0)), some (.int (i32 cv)), none, none, some (.int (i32 hr)), some (.int (i32 c6)), some (.int (i32 c5)), some (.int (i32 ((k : Int)))), some (.int (i32 un)), some (.int (i32 j)), some (.int (i32 now)), some (.int (i32 (goN S (k + 1) 15 j)))] [] (mm (goN S (k + 1)) T (goN S (k + 1)) (setc M 4 W1)) := by
      intro W1 eW1
      refine r_aload F dL_law_1071 rfl ?_
      refine r_iload F dL_law_1073 rfl ?_
      refine r_aload_n (i := 1) F dL_law_1075 rfl rfl ?_
      refine r_iload F dL_law_1076 rfl ?_
      refine r_iconst F dL_law_1078 ?_
      refine r_callV F (K_t3 (S := goN S (k + 1)) (mm_0 _ _ _ _) hIn ⟨by omega, by omega⟩) dL_law_1079 lkv_L_112 rfl rfl rfl rfl rfl cd_X4_told (by decide) ⟨by show _ ≤ 630427; omega, by show _ ≤ 7210188; omega⟩ (Nat.le_of_ble_eq_true rfl) ?_
      refine ws_28 F dL_law_1082 hs28 (by omega) (by omega) (by omega) ?_
      refine r_iinc (lv1 := [_, _, _, _, _, _, _, _, _, _, _, _, _, _, _, _, _, _, _, _, _, _, _, _, _, _, _]) F dL_law_1083 rfl (by decide) rfl rfl ?_
      refine r_goto (tgt := 865) F dL_law_1086 (by decide) ?_
      refine V.kill (lv1 := [_, _, _, _, _, _, _, _, _, _, _, _, _, _, _, _, _, _, _, _, _, _, _, _, _, _, _]) 25 rfl ?_
      refine V.kill (lv1 := [_, _, _, _, _, _, _, _, _, _, _, _, _, _, _, _, _, _, _, _, _, _, _, _, _, _, _]) 26 rfl ?_
      exact ih (j + 1) _ (by omega) (by omega) (lf_step hW (by rw [hnow]; exact eW1) rfl)
    have h1045 : ∀ W1 : St, W1 = u2 W 1 j now → V p l e RW s m #[Value.ref b] below meth c 27 cy D ad A kc ks Q 1045 [some (.ref b), some (.ref (ad 0 0 0)), some (.ref (ad 13 2 0)), some (.int (i32 tm)), none, none, none, some (.int (i32 (S 20 3))), some (.int (i32 came)), none, none, some (.ref (ad 24 2 0)), some (.ref (ad 25 2 0)), some (.ref (ad 26 2 0)), some (.ref (ad 27 2 0)), some (.ref (ad 28 2 0)), some (.int (i32 cv)), none, none, some (.int (i32 hr)), some (.int (i32 c6)), some (.int (i32 c5)), some (.int (i32 ((k : Int)))), some (.int (i32 un)), some (.int (i32 j)), some (.int (i32 now)), some (.int (i32 (goN S (k + 1) 15 j)))] [] (mm (goN S (k + 1)) T (goN S (k + 1)) (setc M 4 W1)) := by
      intro W1 eW1
      have q4 : W1 4 j = stg (goN S k) j := by rw [eW1, u2_k (by decide)]; exact w4
      refine r_aload F dL_law_1045 rfl ?_
      refine r_iload F dL_law_1047 rfl ?_
      refine wg_28 F dL_law_1049 hs28 (by omega) (by omega) (by omega) ?_
      refine r_iconst F dL_law_1050 ?_
      refine r_icmp_le (tgt := 1071) F dL_law_1051 (by decide) (by first | assumption | exact ir_of (by omega) (by omega)) (by first | assumption | exact ir_of (by omega) (by omega)) (fun h1051 => ?_) (fun h1051 => ?_)
      · exact h1071 W1 eW1
      · refine r_aload_n (i := 1) F dL_law_1054 rfl rfl ?_
        refine r_iload F dL_law_1055 rfl ?_
        refine r_iconst F dL_law_1057 ?_
        refine r_callV F (K_t3 (S := goN S (k + 1)) (mm_0 _ _ _ _) hIn ⟨by omega, by omega⟩) dL_law_1058 lkv_L_112 rfl rfl rfl rfl rfl cd_X4_told (by decide) ⟨by show _ ≤ 630427; omega, by show _ ≤ 7210188; omega⟩ (Nat.le_of_ble_eq_true rfl) ?_
        refine r_aload F dL_law_1061 rfl ?_
        refine r_iload F dL_law_1063 rfl ?_
        refine wg_28 F dL_law_1065 hs28 (by omega) (by omega) (by omega) ?_
        refine r_icmp_eq (tgt := 1071) F dL_law_1066 (by decide) (by first | assumption | exact ir_of (by omega) (by omega)) (by first | assumption | exact ir_of (by omega) (by omega)) (fun h1066 => ?_) (fun h1066 => ?_)
        · exact h1071 W1 eW1
        · exfalso; omega
    have h991 : V p l e RW s m #[Value.ref b] below meth c 27 cy D ad A kc ks Q 991 [some (.ref b), some (.ref (ad 0 0 0)), some (.ref (ad 13 2 0)), some (.int (i32 tm)), none, none, none, some (.int (i32 (S 20 3))), some (.int (i32 came)), none, none, some (.ref (ad 24 2 0)), some (.ref (ad 25 2 0)), some (.ref (ad 26 2 0)), some (.ref (ad 27 2 0)), some (.ref (ad 28 2 0)), some (.int (i32 cv)), none, none, some (.int (i32 hr)), some (.int (i32 c6)), some (.int (i32 c5)), some (.int (i32 ((k : Int)))), some (.int (i32 un)), some (.int (i32 j)), some (.int (i32 now)), some (.int (i32 (goN S (k + 1) 15 j)))] [] (mm (goN S (k + 1)) T (goN S (k + 1)) (setc M 4 W)) := by
      refine r_aload F dL_law_991 rfl ?_
      refine r_iload F dL_law_993 rfl ?_
      refine r_iload F dL_law_995 rfl ?_
      refine ws_25 F dL_law_997 hs25 (by omega) (by omega) (by omega) ?_
      refine V.gen4 (fun W1 eW1 => ?_)
      have q4 : W1 4 j = stg (goN S k) j := by rw [eW1, u2_k (by decide)]; exact w4
      have q3 : W1 3 j = untR S j := by rw [eW1, u2_k (by decide)]; exact w3
      refine r_aload F dL_law_998 rfl ?_
      refine r_iload F dL_law_1000 rfl ?_
      refine wg_28 F dL_law_1002 hs28 (by omega) (by omega) (by omega) ?_
      refine r_iconst F dL_law_1003 ?_
      refine r_icmp_ge (tgt := 1045) F dL_law_1004 (by decide) (by first | assumption | exact ir_of (by omega) (by omega)) (by first | assumption | exact ir_of (by omega) (by omega)) (fun h1004 => ?_) (fun h1004 => ?_)
      · exact h1045 W1 eW1
      · refine r_aload_n (i := 1) F dL_law_1007 rfl rfl ?_
        refine r_iload F dL_law_1008 rfl ?_
        refine r_iconst F dL_law_1010 ?_
        refine r_callV F (K_t3 (S := goN S (k + 1)) (mm_0 _ _ _ _) hIn ⟨by omega, by omega⟩) dL_law_1011 lkv_L_112 rfl rfl rfl rfl rfl cd_X4_told (by decide) ⟨by show _ ≤ 630427; omega, by show _ ≤ 7210188; omega⟩ (Nat.le_of_ble_eq_true rfl) ?_
        refine r_iconst F dL_law_1014 ?_
        refine r_icmp_ne (tgt := 1022) F dL_law_1015 (by decide) (by first | assumption | exact ir_of (by omega) (by omega)) (by first | assumption | exact ir_of (by omega) (by omega)) (fun h1015 => ?_) (fun h1015 => ?_)
        · refine r_iconst F dL_law_1022 ?_
          refine r_aload F dL_law_1023 rfl ?_
          refine r_iload F dL_law_1025 rfl ?_
          refine wg_27 F dL_law_1027 hs27 (by omega) (by omega) (by omega) ?_
          refine r_iload F dL_law_1028 rfl ?_
          refine r_iconst F dL_law_1030 ?_
          refine r_iadd F dL_law_1031 ?_
          refine r_icmp_ne (tgt := 1039) F dL_law_1032 (by decide) (by first | assumption | exact ir_of (by omega) (by omega)) (by first | assumption | exact ir_of (by omega) (by omega)) (fun h1032 => ?_) (fun h1032 => ?_)
          · refine r_iconst F dL_law_1039 ?_
            refine r_icmp_eq (tgt := 1045) F dL_law_1040 (by decide) (by first | assumption | exact ir_of (by omega) (by omega)) (by first | assumption | exact ir_of (by omega) (by omega)) (fun h1040 => ?_) (fun h1040 => ?_)
            · exact h1045 W1 eW1
            · exfalso; omega
          · refine r_iconst F dL_law_1035 ?_
            refine r_goto (tgt := 1040) F dL_law_1036 (by decide) ?_
            refine r_icmp_eq (tgt := 1045) F dL_law_1040 (by decide) (by first | assumption | exact ir_of (by omega) (by omega)) (by first | assumption | exact ir_of (by omega) (by omega)) (fun h1040 => ?_) (fun h1040 => ?_)
            · exact h1045 W1 eW1
            · exfalso; omega
        · refine r_iconst F dL_law_1018 ?_
          refine r_goto (tgt := 1023) F dL_law_1019 (by decide) ?_
          refine r_aload F dL_law_1023 rfl ?_
          refine r_iload F dL_law_1025 rfl ?_
          refine wg_27 F dL_law_1027 hs27 (by omega) (by omega) (by omega) ?_
          refine r_iload F dL_law_1028 rfl ?_
          refine r_iconst F dL_law_1030 ?_
          refine r_iadd F dL_law_1031 ?_
          refine r_icmp_ne (tgt := 1039) F dL_law_1032 (by decide) (by first | assumption | exact ir_of (by omega) (by omega)) (by first | assumption | exact ir_of (by omega) (by omega)) (fun h1032 => ?_) (fun h1032 => ?_)
          · refine r_iconst F dL_law_1039 ?_
            refine r_icmp_eq (tgt := 1045) F dL_law_1040 (by decide) (by first | assumption | exact ir_of (by omega) (by omega)) (by first | assumption | exact ir_of (by omega) (by omega)) (fun h1040 => ?_) (fun h1040 => ?_)
            · exact h1045 W1 eW1
            · exfalso; omega
          · refine r_iconst F dL_law_1035 ?_
            refine r_goto (tgt := 1040) F dL_law_1036 (by decide) ?_
            refine r_icmp_eq (tgt := 1045) F dL_law_1040 (by decide) (by first | assumption | exact ir_of (by omega) (by omega)) (by first | assumption | exact ir_of (by omega) (by omega)) (fun h1040 => ?_) (fun h1040 => ?_)
            · exact h1045 W1 eW1
            · exfalso; omega
    have h948 : V p l e RW s m #[Value.ref b] below meth c 27 cy D ad A kc ks Q 948 [some (.ref b), some (.ref (ad 0 0 0)), some (.ref (ad 13 2 0)), some (.int (i32 tm)), none, none, none, some (.int (i32 (S 20 3))), some (.int (i32 came)), none, none, some (.ref (ad 24 2 0)), some (.ref (ad 25 2 0)), some (.ref (ad 26 2 0)), some (.ref (ad 27 2 0)), some (.ref (ad 28 2 0)), some (.int (i32 cv)), none, none, some (.int (i32 hr)), some (.int (i32 c6)), some (.int (i32 c5)), some (.int (i32 ((k : Int)))), some (.int (i32 un)), some (.int (i32 j)), some (.int (i32 now)), none] [] (mm (goN S (k + 1)) T (goN S (k + 1)) (setc M 4 W)) := by
      refine r_aload_n (i := 1) F dL_law_948 rfl rfl ?_
      refine r_iload F dL_law_949 rfl ?_
      refine r_iconst F dL_law_951 ?_
      refine r_callV F (K_t2 (S := goN S (k + 1)) (mm_0 _ _ _ _) hIn ⟨by omega, by omega⟩) dL_law_952 lkv_L_112 rfl rfl rfl rfl rfl cd_X4_told (by decide) ⟨by show _ ≤ 630427; omega, by show _ ≤ 7210188; omega⟩ (Nat.le_of_ble_eq_true rfl) ?_
      refine r_istore (lv1 := [_, _, _, _, _, _, _, _, _, _, _, _, _, _, _, _, _, _, _, _, _, _, _, _, _, _, _]) F dL_law_955 (by decide) rfl rfl ?_
      refine r_iload F dL_law_957 rfl ?_
      refine r_aload F dL_law_959 rfl ?_
      refine r_iload F dL_law_961 rfl ?_
      refine wg_25 F dL_law_963 hs25 (by omega) (by omega) (by omega) ?_
      refine r_icmp_eq (tgt := 991) F dL_law_964 (by decide) (by first | assumption | exact ir_of (by omega) (by omega)) (by first | assumption | exact ir_of (by omega) (by omega)) (fun h964 => ?_) (fun h964 => ?_)
      · exact h991
      · refine r_iload F dL_law_967 rfl ?_
        refine r_iload F dL_law_969 rfl ?_
        refine r_isub F dL_law_971 ?_
        refine r_mabs F dL_law_972 lks_L_131.1.1 lks_L_131.1.2.1 lks_L_131.1.2.2 cd_J9_abs_0f7a4 (by decide) (Nat.le_of_ble_eq_true rfl) ⟨by show _ ≤ 630427; omega, by show _ ≤ 7210188; omega⟩ (by first | assumption | exact ir_of (by omega) (by omega)) ?_
        refine r_iload F dL_law_975 rfl ?_
        refine r_aload F dL_law_977 rfl ?_
        refine r_iload F dL_law_979 rfl ?_
        refine wg_25 F dL_law_981 hs25 (by omega) (by omega) (by omega) ?_
        refine r_isub F dL_law_982 ?_
        refine r_mabs F dL_law_983 lks_L_131.1.1 lks_L_131.1.2.1 lks_L_131.1.2.2 cd_J9_abs_0f7a4 (by decide) (Nat.le_of_ble_eq_true rfl) ⟨by show _ ≤ 630427; omega, by show _ ≤ 7210188; omega⟩ (by first | assumption | exact ir_of (by omega) (by omega)) ?_
        refine r_icmp_lt (tgt := 991) F dL_law_986 (by decide) (by first | assumption | exact ir_of (by omega) (by omega)) (by first | assumption | exact ir_of (by omega) (by omega)) (fun h986 => ?_) (fun h986 => ?_)
        · exact h991
        · exfalso; omega
    refine r_iload F dL_law_865 rfl ?_
    refine r_iload F dL_law_867 rfl ?_
    refine r_icmp_ge (tgt := 1089) F dL_law_869 (by decide) (by first | assumption | exact ir_of (by omega) (by omega)) (by first | assumption | exact ir_of (by omega) (by omega)) (fun h869 => ?_) (fun h869 => ?_)
    · exfalso; omega
    · refine r_aload_n (i := 1) F dL_law_872 rfl rfl ?_
      refine r_iload F dL_law_873 rfl ?_
      refine r_iconst F dL_law_875 ?_
      refine r_callV F (K_t0 (S := goN S (k + 1)) (mm_0 _ _ _ _) hIn ⟨by omega, by omega⟩) dL_law_876 lkv_L_112 rfl rfl rfl rfl rfl cd_X4_told (by decide) ⟨by show _ ≤ 630427; omega, by show _ ≤ 7210188; omega⟩ (Nat.le_of_ble_eq_true rfl) ?_
      rw [hnow]
      refine r_istore (lv1 := [_, _, _, _, _, _, _, _, _, _, _, _, _, _, _, _, _, _, _, _, _, _, _, _, _, _, _]) F dL_law_879 (by decide) rfl rfl ?_
      refine r_iload F dL_law_881 rfl ?_
      refine r_aload F dL_law_883 rfl ?_
      refine r_iload F dL_law_885 rfl ?_
      refine wg_25 F dL_law_887 hs25 (by omega) (by omega) (by omega) ?_
      refine r_isub F dL_law_888 ?_
      refine r_mabs F dL_law_889 lks_L_131.1.1 lks_L_131.1.2.1 lks_L_131.1.2.2 cd_J9_abs_0f7a4 (by decide) (Nat.le_of_ble_eq_true rfl) ⟨by show _ ≤ 630427; omega, by show _ ≤ 7210188; omega⟩ (by first | assumption | exact ir_of (by omega) (by omega)) ?_
      refine r_iconst F dL_law_892 ?_
      refine r_icmp_gt (tgt := 946) F dL_law_893 (by decide) (by first | assumption | exact ir_of (by omega) (by omega)) (by first | assumption | exact ir_of (by omega) (by omega)) (fun h893 => ?_) (fun h893 => ?_)
      · exfalso; omega
      · refine r_aload F dL_law_896 rfl ?_
        refine r_iload F dL_law_898 rfl ?_
        refine wg_28 F dL_law_900 hs28 (by omega) (by omega) (by omega) ?_
        refine r_iconst F dL_law_901 ?_
        refine r_icmp_le (tgt := 915) F dL_law_902 (by decide) (by first | assumption | exact ir_of (by omega) (by omega)) (by first | assumption | exact ir_of (by omega) (by omega)) (fun h902 => ?_) (fun h902 => ?_)
        · refine r_aload_n (i := 1) F dL_law_915 rfl rfl ?_
          refine r_iload F dL_law_916 rfl ?_
          refine r_iconst F dL_law_918 ?_
          refine r_callV F (K_t3 (S := goN S (k + 1)) (mm_0 _ _ _ _) hIn ⟨by omega, by omega⟩) dL_law_919 lkv_L_112 rfl rfl rfl rfl rfl cd_X4_told (by decide) ⟨by show _ ≤ 630427; omega, by show _ ≤ 7210188; omega⟩ (Nat.le_of_ble_eq_true rfl) ?_
          refine r_iconst F dL_law_922 ?_
          refine r_icmp_ge (tgt := 948) F dL_law_923 (by decide) (by first | assumption | exact ir_of (by omega) (by omega)) (by first | assumption | exact ir_of (by omega) (by omega)) (fun h923 => ?_) (fun h923 => ?_)
          · exact h948
          · refine r_aload_n (i := 1) F dL_law_926 rfl rfl ?_
            refine r_iload F dL_law_927 rfl ?_
            refine r_iconst F dL_law_929 ?_
            refine r_callV F (K_t2 (S := goN S (k + 1)) (mm_0 _ _ _ _) hIn ⟨by omega, by omega⟩) dL_law_930 lkv_L_112 rfl rfl rfl rfl rfl cd_X4_told (by decide) ⟨by show _ ≤ 630427; omega, by show _ ≤ 7210188; omega⟩ (Nat.le_of_ble_eq_true rfl) ?_
            refine r_if_ge (tgt := 948) F dL_law_933 (by decide) (by first | assumption | exact ir_of (by omega) (by omega)) (fun h933 => ?_) (fun h933 => ?_)
            · exact h948
            · refine r_iload F dL_law_936 rfl ?_
              refine r_aload F dL_law_938 rfl ?_
              refine r_iload F dL_law_940 rfl ?_
              refine wg_25 F dL_law_942 hs25 (by omega) (by omega) (by omega) ?_
              refine r_icmp_eq (tgt := 948) F dL_law_943 (by decide) (by first | assumption | exact ir_of (by omega) (by omega)) (by first | assumption | exact ir_of (by omega) (by omega)) (fun h943 => ?_) (fun h943 => ?_)
              · exact h948
              · exfalso; omega
        · refine r_iload F dL_law_905 rfl ?_
          refine r_aload F dL_law_907 rfl ?_
          refine r_iload F dL_law_909 rfl ?_
          refine wg_25 F dL_law_911 hs25 (by omega) (by omega) (by omega) ?_
          refine r_icmp_ne (tgt := 946) F dL_law_912 (by decide) (by first | assumption | exact ir_of (by omega) (by omega)) (by first | assumption | exact ir_of (by omega) (by omega)) (fun h912 => ?_) (fun h912 => ?_)
          · exfalso; omega
          · refine r_aload_n (i := 1) F dL_law_915 rfl rfl ?_
            refine r_iload F dL_law_916 rfl ?_
            refine r_iconst F dL_law_918 ?_
            refine r_callV F (K_t3 (S := goN S (k + 1)) (mm_0 _ _ _ _) hIn ⟨by omega, by omega⟩) dL_law_919 lkv_L_112 rfl rfl rfl rfl rfl cd_X4_told (by decide) ⟨by show _ ≤ 630427; omega, by show _ ≤ 7210188; omega⟩ (Nat.le_of_ble_eq_true rfl) ?_
            refine r_iconst F dL_law_922 ?_
            refine r_icmp_ge (tgt := 948) F dL_law_923 (by decide) (by first | assumption | exact ir_of (by omega) (by omega)) (by first | assumption | exact ir_of (by omega) (by omega)) (fun h923 => ?_) (fun h923 => ?_)
            · exact h948
            · refine r_aload_n (i := 1) F dL_law_926 rfl rfl ?_
              refine r_iload F dL_law_927 rfl ?_
              refine r_iconst F dL_law_929 ?_
              refine r_callV F (K_t2 (S := goN S (k + 1)) (mm_0 _ _ _ _) hIn ⟨by omega, by omega⟩) dL_law_930 lkv_L_112 rfl rfl rfl rfl rfl cd_X4_told (by decide) ⟨by show _ ≤ 630427; omega, by show _ ≤ 7210188; omega⟩ (Nat.le_of_ble_eq_true rfl) ?_
              refine r_if_ge (tgt := 948) F dL_law_933 (by decide) (by first | assumption | exact ir_of (by omega) (by omega)) (fun h933 => ?_) (fun h933 => ?_)
              · exact h948
              · refine r_iload F dL_law_936 rfl ?_
                refine r_aload F dL_law_938 rfl ?_
                refine r_iload F dL_law_940 rfl ?_
                refine wg_25 F dL_law_942 hs25 (by omega) (by omega) (by omega) ?_
                refine r_icmp_eq (tgt := 948) F dL_law_943 (by decide) (by first | assumption | exact ir_of (by omega) (by omega)) (by first | assumption | exact ir_of (by omega) (by omega)) (fun h943 => ?_) (fun h943 => ?_)
                · exact h948
                · exfalso; omega
set_option maxHeartbeats 4000000 in
set_option maxRecDepth 100000 in
theorem law_G {S : St} {X : Mem} {tm came nb : Int} (F : Fx p s m #[Value.ref b] meth c RL cL_law 27 ret cy D ad A) (hX : X 0 = S) (hI : Inv S) (hR : kc ≤ 630427 ∧ ks ≤ 7210188) (hnb : S 20 3 = nb) (hc : nw S nb + S 20 4 = came) (kk : V p l e RW s m #[Value.ref b] below meth c 27 cy D ad A kc ks Q 1208 [some (.ref b), some (.ref (ad 0 0 0)), some (.ref (ad 13 2 0)), some (.int (i32 tm)), none, none, none, none, none, none, none, none, none, none, none, none, none, none, none, none, none, none, none, none, none, none, none] [] (X)) : V p l e RW s m #[Value.ref b] below meth c 27 cy D ad A kc ks Q 1138 [some (.ref b), some (.ref (ad 0 0 0)), some (.ref (ad 13 2 0)), some (.int (i32 tm)), none, none, none, some (.int (i32 nb)), some (.int (i32 came)), none, none, none, none, none, none, none, none, none, none, none, none, none, none, none, none, none, none] [] (X) := by
  have ic := hI.pc
  have h1 : ∀ (n : Nat) (j : Int), 0 ≤ j → j + (n : Int) = nb → V p l e RW s m #[Value.ref b] below meth c 27 cy D ad A kc ks Q 1144 [some (.ref b), some (.ref (ad 0 0 0)), some (.ref (ad 13 2 0)), some (.int (i32 tm)), none, none, none, some (.int (i32 nb)), some (.int (i32 came)), none, none, none, none, none, none, none, none, none, none, none, none, none, some (.int (i32 (nw S j))), some (.int (i32 j)), none, none, none] [] (X) := by
    intro n
    induction n with
    | zero =>
      intro j h0 h1
      have ej : j = nb := by omega
      subst ej
      refine r_iload F dL_law_1144 rfl ?_
      refine r_iload F dL_law_1146 rfl ?_
      refine r_icmp_ge (tgt := 1192) F dL_law_1148 (by decide) (by first | assumption | exact ir_of (by omega) (by omega)) (by first | assumption | exact ir_of (by omega) (by omega)) (fun h1148 => ?_) (fun h1148 => ?_)
      · refine r_iload F dL_law_1192 rfl ?_
        refine r_aload_n (i := 1) F dL_law_1194 rfl rfl ?_
        refine r_bipush F dL_law_1195 (by decide) ?_
        refine r_callV F (K_n8 hX hI) dL_law_1197 lkv_L_109 rfl rfl rfl rfl rfl cd_X4_count (by decide) ⟨by show _ ≤ 630427; omega, by show _ ≤ 7210188; omega⟩ (Nat.le_of_ble_eq_true rfl) ?_
        refine r_iadd F dL_law_1200 ?_
        refine r_iload F dL_law_1201 rfl ?_
        refine r_ceq (tgt := 1208) F dL_law_1203 (by decide) hc ?_
        refine V.kill (lv1 := [_, _, _, _, _, _, _, _, _, _, _, _, _, _, _, _, _, _, _, _, _, _, _, _, _, _, _]) 7 rfl ?_
        refine V.kill (lv1 := [_, _, _, _, _, _, _, _, _, _, _, _, _, _, _, _, _, _, _, _, _, _, _, _, _, _, _]) 8 rfl ?_
        refine V.kill (lv1 := [_, _, _, _, _, _, _, _, _, _, _, _, _, _, _, _, _, _, _, _, _, _, _, _, _, _, _]) 22 rfl ?_
        refine V.kill (lv1 := [_, _, _, _, _, _, _, _, _, _, _, _, _, _, _, _, _, _, _, _, _, _, _, _, _, _, _]) 23 rfl ?_
        exact kk
      · exfalso; omega
    | succ n ih =>
      intro j h0 h1
      have b14 := hI.p14 j
      have b18 := hI.p18 j
      have o := stg_or S j
      have sb : 0 ≤ stg S j ∧ stg S j ≤ 4 := by omega
      have t := ih (j + 1) (by omega) (by omega)
      rw [nw_S S h0] at t
      refine r_iload F dL_law_1144 rfl ?_
      refine r_iload F dL_law_1146 rfl ?_
      refine r_icmp_ge (tgt := 1192) F dL_law_1148 (by decide) (by first | assumption | exact ir_of (by omega) (by omega)) (by first | assumption | exact ir_of (by omega) (by omega)) (fun h1148 => ?_) (fun h1148 => ?_)
      · exfalso; omega
      · refine r_iload F dL_law_1151 rfl ?_
        refine r_aload_n (i := 1) F dL_law_1153 rfl rfl ?_
        refine r_iload F dL_law_1154 rfl ?_
        refine r_iconst F dL_law_1156 ?_
        refine r_callV F (K_t4 hX hI ⟨by omega, by omega⟩) dL_law_1157 lkv_L_112 rfl rfl rfl rfl rfl cd_X4_told (by decide) ⟨by show _ ≤ 630427; omega, by show _ ≤ 7210188; omega⟩ (Nat.le_of_ble_eq_true rfl) ?_
        refine r_aload_n (i := 1) F dL_law_1160 rfl rfl ?_
        refine r_iload F dL_law_1161 rfl ?_
        refine r_iconst F dL_law_1163 ?_
        refine r_callV F (K_t3 hX hI ⟨by omega, by omega⟩) dL_law_1164 lkv_L_112 rfl rfl rfl rfl rfl cd_X4_told (by decide) ⟨by show _ ≤ 630427; omega, by show _ ≤ 7210188; omega⟩ (Nat.le_of_ble_eq_true rfl) ?_
        refine r_iconst F dL_law_1167 ?_
        refine r_icmp_ge (tgt := 1181) F dL_law_1168 (by decide) (by first | assumption | exact ir_of (by omega) (by omega)) (by first | assumption | exact ir_of (by omega) (by omega)) (fun h1168 => ?_) (fun h1168 => ?_)
        · refine r_iconst F dL_law_1181 ?_
          refine r_iadd F dL_law_1182 ?_
          refine r_iadd F dL_law_1183 ?_
          refine r_istore (lv1 := [_, _, _, _, _, _, _, _, _, _, _, _, _, _, _, _, _, _, _, _, _, _, _, _, _, _, _]) F dL_law_1184 (by decide) rfl rfl ?_
          refine r_iinc (lv1 := [_, _, _, _, _, _, _, _, _, _, _, _, _, _, _, _, _, _, _, _, _, _, _, _, _, _, _]) F dL_law_1186 rfl (by decide) rfl rfl ?_
          refine r_goto (tgt := 1144) F dL_law_1189 (by decide) ?_
          first | (rw [show balF S j = S 14 j from if_pos (by omega)] at t; exact t) | (rw [show balF S j = 0 from if_neg (by omega)] at t; exact t)
        · refine r_aload_n (i := 1) F dL_law_1171 rfl rfl ?_
          refine r_iload F dL_law_1172 rfl ?_
          refine r_iconst F dL_law_1174 ?_
          refine r_callV F (K_t1 hX hI ⟨by omega, by omega⟩) dL_law_1175 lkv_L_112 rfl rfl rfl rfl rfl cd_X4_told (by decide) ⟨by show _ ≤ 630427; omega, by show _ ≤ 7210188; omega⟩ (Nat.le_of_ble_eq_true rfl) ?_
          refine r_goto (tgt := 1182) F dL_law_1178 (by decide) ?_
          refine r_iadd F dL_law_1182 ?_
          refine r_iadd F dL_law_1183 ?_
          refine r_istore (lv1 := [_, _, _, _, _, _, _, _, _, _, _, _, _, _, _, _, _, _, _, _, _, _, _, _, _, _, _]) F dL_law_1184 (by decide) rfl rfl ?_
          refine r_iinc (lv1 := [_, _, _, _, _, _, _, _, _, _, _, _, _, _, _, _, _, _, _, _, _, _, _, _, _, _, _]) F dL_law_1186 rfl (by decide) rfl rfl ?_
          refine r_goto (tgt := 1144) F dL_law_1189 (by decide) ?_
          first | (rw [show balF S j = S 14 j from if_pos (by omega)] at t; exact t) | (rw [show balF S j = 0 from if_neg (by omega)] at t; exact t)
  refine r_iconst F dL_law_1138 ?_
  refine r_istore (lv1 := [_, _, _, _, _, _, _, _, _, _, _, _, _, _, _, _, _, _, _, _, _, _, _, _, _, _, _]) F dL_law_1139 (by decide) rfl rfl ?_
  refine r_iconst F dL_law_1141 ?_
  refine r_istore (lv1 := [_, _, _, _, _, _, _, _, _, _, _, _, _, _, _, _, _, _, _, _, _, _, _, _, _, _, _]) F dL_law_1142 (by decide) rfl rfl ?_
  exact h1 nb.toNat 0 (by decide) (by omega)
set_option maxHeartbeats 4000000 in
set_option maxRecDepth 100000 in
theorem law_E {S T W : St} {tm v : Int} (F : Fx p s m #[Value.ref b] meth c RL cL_law 27 ret cy D ad A) (hsh : Sh ad S) (hI : Inv S) (hG : Gd S) (hD : Dead S) (hT : Tr T S) (hW : LA S (S 20 3) W) (hh : 0 ≤ S 20 0 ∧ S 20 0 < 800000) (hAr : Ar ad (S 20 3)) (hR : kc ≤ 630427 ∧ ks ≤ 7210188) (kk : ∀ (H : Nat) (T W : St), H ≤ 3 → Tr T (goN S H) → V p l e RW s m #[Value.ref b] below meth c 27 cy D ad A kc ks Q 1208 [some (.ref b), some (.ref (ad 0 0 0)), some (.ref (ad 13 2 0)), some (.int (i32 tm)), none, none, none, none, none, none, none, none, none, none, none, none, none, none, none, none, none, none, none, none, none, none, none] [] (mm (goN S H) T (goN S H) (setc M 4 W))) : V p l e RW s m #[Value.ref b] below meth c 27 cy D ad A kc ks Q 803 [some (.ref b), some (.ref (ad 0 0 0)), some (.ref (ad 13 2 0)), some (.int (i32 tm)), some (.int (i32 v)), none, none, some (.int (i32 (S 20 3))), some (.int (i32 (sm (S 19) (S 20 3).toNat + sm (balF S) (S 20 3).toNat + S 20 4))), none, none, some (.ref (ad 24 2 0)), some (.ref (ad 25 2 0)), some (.ref (ad 26 2 0)), some (.ref (ad 27 2 0)), some (.ref (ad 28 2 0)), some (.int (i32 (caves S))), none, none, none, none, none, none, none, none, none, none] [] (mm S T S (setc M 4 W)) := by
  have hh9 : 0 ≤ S 20 0 ∧ S 20 0 < 900000 := ⟨hh.1, by omega⟩
  have ic := hI.pc
  have hs := hsh.1
  have hl : ∀ (H : Nat), H ≤ 3 → ∀ (n k : Nat) (T W : St), k + n = H → Tr T S → LF S k 0 W → V p l e RW s m #[Value.ref b] below meth c 27 cy D ad A kc ks Q 837 [some (.ref b), some (.ref (ad 0 0 0)), some (.ref (ad 13 2 0)), some (.int (i32 tm)), none, none, none, some (.int (i32 (S 20 3))), some (.int (i32 (sm (S 19) (S 20 3).toNat + sm (balF S) (S 20 3).toNat + S 20 4))), none, none, some (.ref (ad 24 2 0)), some (.ref (ad 25 2 0)), some (.ref (ad 26 2 0)), some (.ref (ad 27 2 0)), some (.ref (ad 28 2 0)), some (.int (i32 (caves (goN S k)))), none, none, some (.int (i32 ((H : Int)))), some (.int (i32 (inF (goN S H) 2))), some (.int (i32 (inF (goN S H) 1))), some (.int (i32 ((k : Int)))), none, none, none, none] [] (mm (goN S k) T (goN S k) (setc M 4 W)) := by
    intro H hH n
    induction n with
    | zero =>
      intro k T W h1 hT hW
      have ek : k = H := by omega
      subst ek
      have hIk : Inv (goN S k) := goN_inv hI k
      refine r_iload F dL_law_837 rfl ?_
      refine r_iload F dL_law_839 rfl ?_
      refine r_icmp_ge (tgt := 1115) F dL_law_841 (by decide) (by first | assumption | exact ir_of (by omega) (by omega)) (by first | assumption | exact ir_of (by omega) (by omega)) (fun h841 => ?_) (fun h841 => ?_)
      · refine r_aload_n (i := 1) F dL_law_1115 rfl rfl ?_
        refine r_bipush F dL_law_1116 (by decide) ?_
        refine r_callV F (K_n6 (S := goN S k) (mm_0 _ _ _ _) hIk) dL_law_1118 lkv_L_109 rfl rfl rfl rfl rfl cd_X4_count (by decide) ⟨by show _ ≤ 630427; omega, by show _ ≤ 7210188; omega⟩ (Nat.le_of_ble_eq_true rfl) ?_
        refine r_iload F dL_law_1121 rfl ?_
        refine r_cne (tgt := 1136) F dL_law_1123 (by decide) rfl ?_
        refine r_aload_n (i := 1) F dL_law_1126 rfl rfl ?_
        refine r_iconst F dL_law_1127 ?_
        refine r_callV F (K_n5 (S := goN S k) (mm_0 _ _ _ _) hIk) dL_law_1128 lkv_L_109 rfl rfl rfl rfl rfl cd_X4_count (by decide) ⟨by show _ ≤ 630427; omega, by show _ ≤ 7210188; omega⟩ (Nat.le_of_ble_eq_true rfl) ?_
        refine r_iload F dL_law_1131 rfl ?_
        refine r_ceq (tgt := 1138) F dL_law_1133 (by decide) rfl ?_
        refine V.kill (lv1 := [_, _, _, _, _, _, _, _, _, _, _, _, _, _, _, _, _, _, _, _, _, _, _, _, _, _, _]) 11 rfl ?_
        refine V.kill (lv1 := [_, _, _, _, _, _, _, _, _, _, _, _, _, _, _, _, _, _, _, _, _, _, _, _, _, _, _]) 12 rfl ?_
        refine V.kill (lv1 := [_, _, _, _, _, _, _, _, _, _, _, _, _, _, _, _, _, _, _, _, _, _, _, _, _, _, _]) 13 rfl ?_
        refine V.kill (lv1 := [_, _, _, _, _, _, _, _, _, _, _, _, _, _, _, _, _, _, _, _, _, _, _, _, _, _, _]) 14 rfl ?_
        refine V.kill (lv1 := [_, _, _, _, _, _, _, _, _, _, _, _, _, _, _, _, _, _, _, _, _, _, _, _, _, _, _]) 15 rfl ?_
        refine V.kill (lv1 := [_, _, _, _, _, _, _, _, _, _, _, _, _, _, _, _, _, _, _, _, _, _, _, _, _, _, _]) 16 rfl ?_
        refine V.kill (lv1 := [_, _, _, _, _, _, _, _, _, _, _, _, _, _, _, _, _, _, _, _, _, _, _, _, _, _, _]) 19 rfl ?_
        refine V.kill (lv1 := [_, _, _, _, _, _, _, _, _, _, _, _, _, _, _, _, _, _, _, _, _, _, _, _, _, _, _]) 20 rfl ?_
        refine V.kill (lv1 := [_, _, _, _, _, _, _, _, _, _, _, _, _, _, _, _, _, _, _, _, _, _, _, _, _, _, _]) 21 rfl ?_
        refine V.kill (lv1 := [_, _, _, _, _, _, _, _, _, _, _, _, _, _, _, _, _, _, _, _, _, _, _, _, _, _, _]) 22 rfl ?_
        exact law_G F (S := goN S k) (mm_0 _ _ _ _) hIk hR (goN_cnt k).2.2 (nw_end hI hIk (goN_kps hI k).2.2 (goN_cnt k).2.2) (kk k T W hH (hT.le (by rw [(goN_cnt k).1]; omega) (by rw [(goN_cnt k).2.1]; omega) (by rw [(goN_cnt k).2.2]; omega)))
      · exfalso; omega
    | succ n ih =>
      intro k T W h1 hT hW
      have hIk : Inv (goN S k) := goN_inv hI k
      have hIn : Inv (goN S (k + 1)) := goN_inv hI (k + 1)
      have eh := goN_hour S k
      have hsk : Sh ad (goN S k) := hsh.same (goN_cnt k).1 (goN_cnt k).2.1 (goN_cnt k).2.2
      have hGk : Gd (goN S k) := (goN_kps hI k).2.1 hG
      have ec : caves (goN S (k + 1)) = caves (goN S k) + goM (goN S k) := go_caves hIk hGk
      refine r_iload F dL_law_837 rfl ?_
      refine r_iload F dL_law_839 rfl ?_
      refine r_icmp_ge (tgt := 1115) F dL_law_841 (by decide) (by first | assumption | exact ir_of (by omega) (by omega)) (by first | assumption | exact ir_of (by omega) (by omega)) (fun h841 => ?_) (fun h841 => ?_)
      · exfalso; omega
      · refine r_aload_n (i := 1) F dL_law_844 rfl rfl ?_
        refine r_iconst F dL_law_845 ?_
        refine r_callV F (C_pass1 (S := goN S k) hIk ⟨by omega, by omega⟩) dL_law_846 lkv_L_87 rfl rfl rfl rfl rfl cd_X4_pass (by decide) ⟨by show _ ≤ 630427; omega, by show _ ≤ 7210188; omega⟩ (Nat.le_of_ble_eq_true rfl) ?_
        refine r_istore (lv1 := [_, _, _, _, _, _, _, _, _, _, _, _, _, _, _, _, _, _, _, _, _, _, _, _, _, _, _]) F dL_law_849 (by decide) rfl rfl ?_
        refine r_aload_n (i := 2) F dL_law_851 rfl rfl ?_
        refine r_callV F (Ct.mm2 (a := go (goN S k)) (b := T) (c := goN S k) (C_X5_go hsk ⟨by omega, by omega⟩ hIk)) dL_law_852 lkv_L_83 rfl rfl (dm13 hs) rfl rfl cd_X5_go (by decide) ⟨by show _ ≤ 630427; omega, by show _ ≤ 7210188; omega⟩ (Nat.le_of_ble_eq_true rfl) ?_
        refine r_iload F dL_law_855 rfl ?_
        refine r_ceq (tgt := 862) F dL_law_857 (by decide) rfl ?_
        refine r_iconst F dL_law_862 ?_
        refine r_istore (lv1 := [_, _, _, _, _, _, _, _, _, _, _, _, _, _, _, _, _, _, _, _, _, _, _, _, _, _, _]) F dL_law_863 (by decide) rfl rfl ?_
        refine law_F (S := S) (k := k) F hI (by omega) hAr hR (fun W1 hW1 => ?_) (S 20 3).toNat 0 W (by decide) (by omega) hW
        refine r_iload F dL_law_1089 rfl ?_
        refine r_iload F dL_law_1091 rfl ?_
        refine r_iadd F dL_law_1093 ?_
        refine r_istore (lv1 := [_, _, _, _, _, _, _, _, _, _, _, _, _, _, _, _, _, _, _, _, _, _, _, _, _, _, _]) F dL_law_1094 (by decide) rfl rfl ?_
        refine r_aload_n (i := 1) F dL_law_1096 rfl rfl ?_
        refine r_bipush F dL_law_1097 (by decide) ?_
        refine r_callV F (K_n7 (S := goN S (k + 1)) (mm_0 _ _ _ _) hIn) dL_law_1099 lkv_L_109 rfl rfl rfl rfl rfl cd_X4_count (by decide) ⟨by show _ ≤ 630427; omega, by show _ ≤ 7210188; omega⟩ (Nat.le_of_ble_eq_true rfl) ?_
        refine r_iload F dL_law_1102 rfl ?_
        refine r_ceq (tgt := 1109) F dL_law_1104 (by decide) ec ?_
        refine r_iinc (lv1 := [_, _, _, _, _, _, _, _, _, _, _, _, _, _, _, _, _, _, _, _, _, _, _, _, _, _, _]) F dL_law_1109 rfl (by decide) rfl rfl ?_
        refine r_goto (tgt := 837) F dL_law_1112 (by decide) ?_
        refine V.kill (lv1 := [_, _, _, _, _, _, _, _, _, _, _, _, _, _, _, _, _, _, _, _, _, _, _, _, _, _, _]) 23 rfl ?_
        have t := ih (k + 1) T W1 (by omega) hT hW1
        rw [ec] at t
        exact t
  refine r_iconst F dL_law_803 ?_
  refine r_iload F dL_law_804 rfl ?_
  refine r_iconst F dL_law_806 ?_
  refine r_shr F dL_law_807 ?_
  refine r_iconst F dL_law_808 ?_
  refine r_callS F (C_L_below ⟨by omega, by omega⟩) dL_law_809 lks_L_9 rfl rfl cd_L_below (by decide) ⟨by show _ ≤ 630427; omega, by show _ ≤ 7210188; omega⟩ (Nat.le_of_ble_eq_true rfl) ?_
  obtain ⟨y, hy, ey⟩ : ∃ z : Int, (0 ≤ z ∧ z < 3) ∧ blw (i32 (shr v 4)) 3 = z := ⟨_, blw_bd _ (by decide), rfl⟩
  rw [ey]
  refine r_iadd F dL_law_812 ?_
  refine r_istore (lv1 := [_, _, _, _, _, _, _, _, _, _, _, _, _, _, _, _, _, _, _, _, _, _, _, _, _, _, _]) F dL_law_813 (by decide) rfl rfl ?_
  refine r_aload_n (i := 1) F dL_law_815 rfl rfl ?_
  refine r_iload F dL_law_816 rfl ?_
  refine r_bipush F dL_law_818 (by decide) ?_
  refine r_callV F (Ct.mm01 (a := S) (b := T) (C_X4_foresee hI hD (hT).1 (hT).2 hh9 (ir_of (by omega) (by omega)) (ir_of (by omega) (by omega)) (by unfold cForesee; rw [if_neg (by omega), if_neg (by omega)]))) dL_law_820 lkv_L_134 rfl rfl rfl rfl rfl cd_X4_foresee (by decide) ⟨by show _ ≤ 630427; omega, by show _ ≤ 7210188; omega⟩ (Nat.le_of_ble_eq_true rfl) ?_
  refine r_istore (lv1 := [_, _, _, _, _, _, _, _, _, _, _, _, _, _, _, _, _, _, _, _, _, _, _, _, _, _, _]) F dL_law_823 (by decide) rfl rfl ?_
  refine r_aload_n (i := 1) F dL_law_825 rfl rfl ?_
  refine r_iload F dL_law_826 rfl ?_
  refine r_iconst F dL_law_828 ?_
  refine r_callV F (Ct.mm01 (a := S) (b := goN S (1 + y).toNat) (C_X4_foresee hI hD (tr_go hI hD (1 + y).toNat).1 (tr_go hI hD (1 + y).toNat).2 hh9 (ir_of (by omega) (by omega)) (ir_of (by omega) (by omega)) (by unfold cForesee; rw [if_neg (by omega), if_neg (by omega)]))) dL_law_829 lkv_L_134 rfl rfl rfl rfl rfl cd_X4_foresee (by decide) ⟨by show _ ≤ 630427; omega, by show _ ≤ 7210188; omega⟩ (Nat.le_of_ble_eq_true rfl) ?_
  refine r_istore (lv1 := [_, _, _, _, _, _, _, _, _, _, _, _, _, _, _, _, _, _, _, _, _, _, _, _, _, _, _]) F dL_law_832 (by decide) rfl rfl ?_
  refine r_iconst F dL_law_834 ?_
  refine r_istore (lv1 := [_, _, _, _, _, _, _, _, _, _, _, _, _, _, _, _, _, _, _, _, _, _, _, _, _, _, _]) F dL_law_835 (by decide) rfl rfl ?_
  refine V.kill (lv1 := [_, _, _, _, _, _, _, _, _, _, _, _, _, _, _, _, _, _, _, _, _, _, _, _, _, _, _]) 4 rfl ?_
  have t := hl (1 + y).toNat (by omega) (1 + y).toNat 0 (goN S (1 + y).toNat) W (by omega) (tr_go hI hD _) (lf_0 hW)
  rw [show (((1 + y).toNat : Nat) : Int) = 1 + y from by omega] at t
  exact t
end LAWB
