/-! The class: how an hour goes. -/
set_option maxHeartbeats 4000000 in
set_option maxRecDepth 100000 in
theorem C_X1_unload {l : Launch} {cy : Nat → ClassId} {D : va_G} {ad : Nat → Nat → Int → Nat} {M : Mem} {k : Nat} {S : St} {x : Int} (hc : k < 2) (hI : Inv S) (hx : 0 ≤ x ∧ x < 6) : Ct l cy D ad yX1_unload cX1_unload 5 none 0 [.ref (ad 1 k 0), .ref (ad 12 k x)] (setc M k S) none (setc M k (unlS S x)) := by
  refine Ct.mk (lv := [some _, some _, none, none, none]) 3 (by decide) rfl (Nat.le_of_ble_eq_true rfl) (fun p e s m below meth c F => ?_)
  have b13 := hI.p13 x
  have b14 := hI.p14 x
  have b01 := hI.p01 (S 13 x)
  have K : ∀ z w : Int, z = unlM S x → V p l e (RM 0) s m ([.ref (ad 1 k 0), .ref (ad 12 k x)] : List Value).toArray below meth c 5 cy D ad (Aw ad s.heap.size) 0 0 (MQ below (Qn cy D ad s.heap.size none (setc M k (unlS S x))) ([.ref (ad 1 k 0), .ref (ad 12 k x)] : List Value).toArray s 0 0 (Aw ad s.heap.size)) 49 [some (.ref (ad 1 k 0)), some (.ref (ad 12 k x)), none, none, some (.int (i32 z))] [] (setc M k S) := by
    intro z w hz
    have um := unlM_bd hI x
    refine r_aload_n (i := 0) F dX1_unload_49 rfl rfl ?_
    refine gf_X1_15 F dX1_unload_50 hc ?_
    refine r_aload_n (i := 1) F dX1_unload_53 rfl rfl ?_
    refine gf_X1_144 F dX1_unload_54 hc (by omega) (by omega) ?_
    refine r_dup2 F dX1_unload_57 rfl rfl ?_
    refine ia_3 F dX1_unload_58 hc (by omega) (by omega) ?_
    refine r_iload F dX1_unload_59 rfl ?_
    refine r_iadd F dX1_unload_61 ?_
    refine is_3 F dX1_unload_62 hc (by omega) (by omega) ?_
    refine r_aload_n (i := 1) F dX1_unload_63 rfl rfl ?_
    refine r_dup F dX1_unload_64 rfl ?_
    refine gf_X1_145 F dX1_unload_65 hc (by omega) (by omega) ?_
    refine r_iload F dX1_unload_68 rfl ?_
    refine r_isub F dX1_unload_70 ?_
    refine pf_X1_145 F dX1_unload_71 hc (by omega) (by omega) ?_
    refine r_aload_n (i := 1) F dX1_unload_74 rfl rfl ?_
    refine r_dup F dX1_unload_75 rfl ?_
    refine gf_X1_148 F dX1_unload_76 hc (by omega) (by omega) ?_
    refine r_iload F dX1_unload_79 rfl ?_
    refine r_iadd F dX1_unload_81 ?_
    refine pf_X1_148 F dX1_unload_82 hc (by omega) (by omega) ?_
    refine r_aload_n (i := 1) F dX1_unload_85 rfl rfl ?_
    refine gf_X1_145 F dX1_unload_86 hc (by omega) (by omega) ?_
    refine r_if_ne (tgt := 97) F dX1_unload_89 (by decide) (by simp [u2]; exact ir_of (by omega) (by omega)) (fun h89 => ?_) (fun h89 => ?_)
    · exact r_vret F dX1_unload_97 rfl (congrArg (setc M k) (by simp [u2] at h89; subst hz; unfold unlS; first | (rw [if_pos (by omega)]; done) | (rw [if_neg (by omega)]; done) | (rw [if_pos (by omega)]; rfl) | (rw [if_neg (by omega)]; rfl)))
    · refine r_aload_n (i := 1) F dX1_unload_92 rfl rfl ?_
      refine r_iconst F dX1_unload_93 ?_
      refine pf_X1_130 F dX1_unload_94 hc (by omega) (by omega) ?_
      exact r_vret F dX1_unload_97 rfl (congrArg (setc M k) (by simp [u2] at h89; subst hz; unfold unlS; first | (rw [if_pos (by omega)]; done) | (rw [if_neg (by omega)]; done) | (rw [if_pos (by omega)]; rfl) | (rw [if_neg (by omega)]; rfl)))
  refine r_aload_n (i := 0) F dX1_unload_0 rfl rfl ?_
  refine gf_X1_9 F dX1_unload_1 hc ?_
  refine r_aload_n (i := 1) F dX1_unload_4 rfl rfl ?_
  refine gf_X1_144 F dX1_unload_5 hc (by omega) (by omega) ?_
  refine ia_2 F dX1_unload_8 hc (by omega) (by omega) ?_
  refine r_aload_n (i := 0) F dX1_unload_9 rfl rfl ?_
  refine gf_X1_15 F dX1_unload_10 hc ?_
  refine r_aload_n (i := 1) F dX1_unload_13 rfl rfl ?_
  refine gf_X1_144 F dX1_unload_14 hc (by omega) (by omega) ?_
  refine ia_3 F dX1_unload_17 hc (by omega) (by omega) ?_
  refine r_isub F dX1_unload_18 ?_
  refine r_istore_n (i := 2) (lv1 := [_, _, _, _, _]) F dX1_unload_19 rfl (by decide) rfl rfl ?_
  refine r_iload_n (i := 2) F dX1_unload_20 rfl rfl ?_
  refine r_iconst F dX1_unload_21 ?_
  refine r_icmp_ge (tgt := 29) F dX1_unload_22 (by decide) (by first | assumption | exact ir_of (by omega) (by omega)) (by first | assumption | exact ir_of (by omega) (by omega)) (fun h22 => ?_) (fun h22 => ?_)
  · refine r_iconst F dX1_unload_29 ?_
    refine r_istore_n (i := 3) (lv1 := [_, _, _, _, _]) F dX1_unload_30 rfl (by decide) rfl rfl ?_
    refine r_aload_n (i := 1) F dX1_unload_31 rfl rfl ?_
    refine gf_X1_145 F dX1_unload_32 hc (by omega) (by omega) ?_
    refine r_iload_n (i := 3) F dX1_unload_35 rfl rfl ?_
    refine r_icmp_ge (tgt := 46) F dX1_unload_36 (by decide) (by first | assumption | exact ir_of (by omega) (by omega)) (by first | assumption | exact ir_of (by omega) (by omega)) (fun h36 => ?_) (fun h36 => ?_)
    · refine r_iload_n (i := 3) F dX1_unload_46 rfl rfl ?_
      refine r_istore (lv1 := [_, _, _, _, _]) F dX1_unload_47 (by decide) rfl rfl ?_
      refine V.kill (lv1 := [_, _, _, _, _]) 2 rfl (V.kill (lv1 := [_, _, _, _, _]) 3 rfl ?_)
      exact K _ 0 (by unfold unlM; omega)
    · refine r_aload_n (i := 1) F dX1_unload_39 rfl rfl ?_
      refine gf_X1_145 F dX1_unload_40 hc (by omega) (by omega) ?_
      refine r_goto (tgt := 47) F dX1_unload_43 (by decide) ?_
      refine r_istore (lv1 := [_, _, _, _, _]) F dX1_unload_47 (by decide) rfl rfl ?_
      refine V.kill (lv1 := [_, _, _, _, _]) 2 rfl (V.kill (lv1 := [_, _, _, _, _]) 3 rfl ?_)
      exact K _ 0 (by unfold unlM; omega)
  · refine r_iload_n (i := 2) F dX1_unload_25 rfl rfl ?_
    refine r_goto (tgt := 30) F dX1_unload_26 (by decide) ?_
    refine r_istore_n (i := 3) (lv1 := [_, _, _, _, _]) F dX1_unload_30 rfl (by decide) rfl rfl ?_
    refine r_aload_n (i := 1) F dX1_unload_31 rfl rfl ?_
    refine gf_X1_145 F dX1_unload_32 hc (by omega) (by omega) ?_
    refine r_iload_n (i := 3) F dX1_unload_35 rfl rfl ?_
    refine r_icmp_ge (tgt := 46) F dX1_unload_36 (by decide) (by first | assumption | exact ir_of (by omega) (by omega)) (by first | assumption | exact ir_of (by omega) (by omega)) (fun h36 => ?_) (fun h36 => ?_)
    · refine r_iload_n (i := 3) F dX1_unload_46 rfl rfl ?_
      refine r_istore (lv1 := [_, _, _, _, _]) F dX1_unload_47 (by decide) rfl rfl ?_
      refine V.kill (lv1 := [_, _, _, _, _]) 2 rfl (V.kill (lv1 := [_, _, _, _, _]) 3 rfl ?_)
      exact K _ 0 (by unfold unlM; omega)
    · refine r_aload_n (i := 1) F dX1_unload_39 rfl rfl ?_
      refine gf_X1_145 F dX1_unload_40 hc (by omega) (by omega) ?_
      refine r_goto (tgt := 47) F dX1_unload_43 (by decide) ?_
      refine r_istore (lv1 := [_, _, _, _, _]) F dX1_unload_47 (by decide) rfl rfl ?_
      refine V.kill (lv1 := [_, _, _, _, _]) 2 rfl (V.kill (lv1 := [_, _, _, _, _]) 3 rfl ?_)
      exact K _ 0 (by unfold unlM; omega)

set_option maxHeartbeats 4000000 in
set_option maxRecDepth 100000 in
theorem C_X1_followLantern {l : Launch} {cy : Nat → ClassId} {D : va_G} {ad : Nat → Nat → Int → Nat} {M : Mem} {k : Nat} {S : St} {x nh mn : Int} (hc : k < 2) (hI : Inv S) (hx : 0 ≤ x ∧ x < 6) (hnh : nh = hn S) (hmn : mn = mo S) : Ct l cy D ad yX1_followLantern cX1_followLantern 9 none 1 [.ref (ad 1 k 0), .ref (ad 12 k x), .int (i32 nh), .int (i32 mn)] (setc M k S) none (setc M k (readS S x)) := by
  refine Ct.mk (lv := [some _, some _, some _, some _, none, none, none, none, none]) 5 (by decide) rfl (Nat.le_of_ble_eq_true rfl) (fun p e s m below meth c F => ?_)
  have b13 := hI.p13 x
  have ic := hI.pc
  have hm := mo_bd S
  have hb := hn_bd S
  have loop : ∀ (n : Nat) (j q z cd : Int), 0 ≤ j → j + (n : Int) = S 20 1 → q = bst S x j.toNat → (q = -1 → z = 10 - mo S ∧ cd = 0) → (q ≠ -1 → z = iabs (S 4 q - S 13 x) ∧ cd = shw S q ∧ z ≤ 9 - mo S) → V p l e (RM 1) s m ([.ref (ad 1 k 0), .ref (ad 12 k x), .int (i32 nh), .int (i32 mn)] : List Value).toArray below meth c 9 cy D ad (Aw ad s.heap.size) 0 0 (MQ below (Qn cy D ad s.heap.size none (setc M k (readS S x))) ([.ref (ad 1 k 0), .ref (ad 12 k x), .int (i32 nh), .int (i32 mn)] : List Value).toArray s 0 0 (Aw ad s.heap.size)) 14 [some (.ref (ad 1 k 0)), some (.ref (ad 12 k x)), some (.int (i32 nh)), some (.int (i32 mn)), some (.int (i32 z)), some (.int (i32 cd)), some (.int (i32 j)), none, none] [] (setc M k S) := by
    intro n
    induction n with
    | zero =>
      intro j q z cd h0 h1 hq g1 g2
      have bb := bst_bd (S := S) (b := x) j.toNat
      rw [← hq] at bb
      have bsq := shw_bd hI q
      have hcd : 0 ≤ cd ∧ cd ≤ 7 := by rcases bb with e | e <;> first | (have := g1 e; omega) | (have := g2 (by omega); omega)
      have oq := iabs_or (S 4 q - S 13 x)
      have b4q := hI.p4 q
      have hz : -20 ≤ z ∧ z ≤ 20 := by rcases bb with e | e <;> first | (have := g1 e; omega) | (have := g2 (by omega); omega)
      refine r_iload F dX1_followLantern_14 rfl ?_
      refine r_aload_n (i := 0) F dX1_followLantern_16 rfl rfl ?_
      refine gf_X1_51 F dX1_followLantern_17 hc ?_
      refine r_icmp_ge (tgt := 93) F dX1_followLantern_20 (by decide) (by first | assumption | exact ir_of (by omega) (by omega)) (by first | assumption | exact ir_of (by omega) (by omega)) (fun h20 => ?_) (fun h20 => ?_)
      · refine r_iload F dX1_followLantern_93 rfl ?_
        refine r_if_eq (tgt := 115) F dX1_followLantern_95 (by decide) (by first | assumption | exact ir_of (by omega) (by omega)) (fun h95 => ?_) (fun h95 => ?_)
        · first | (have h9 : cd = 0 := h95; exact r_vret F dX1_followLantern_115 rfl (congrArg (setc M k) (by have e2 : q = bst S x (S 20 1).toNat := (by rw [hq, show j = S 20 1 by omega]); have e3 : q = -1 := (by rcases bb with e | e <;> first | exact e | (exfalso; have := g2 (by omega); omega)); unfold readS; rw [← e2, if_pos e3]))) | exact r_vret F dX1_followLantern_115 rfl (congrArg (setc M k) (by have e2 : q = bst S x (S 20 1).toNat := (by rw [hq, show j = S 20 1 by omega]); have e3 : q ≠ -1 := (fun e => by have := g1 e; omega); have e4 := g2 e3; unfold readS; rw [← e2, if_neg e3, u2_comm S (Or.inl (by decide : (16 : Nat) ≠ 15)), ← e4.2.1] <;> rfl))
        · refine r_aload_n (i := 1) F dX1_followLantern_98 rfl rfl ?_
          refine r_aload_n (i := 0) F dX1_followLantern_99 rfl rfl ?_
          refine gf_X1_18 F dX1_followLantern_100 hc ?_
          refine r_iload F dX1_followLantern_103 rfl ?_
          refine ia_4 F dX1_followLantern_105 hc (by omega) (by omega) ?_
          refine pf_X1_154 F dX1_followLantern_106 hc (by omega) (by omega) ?_
          refine r_aload_n (i := 1) F dX1_followLantern_109 rfl rfl ?_
          refine r_iload F dX1_followLantern_110 rfl ?_
          refine pf_X1_157 F dX1_followLantern_112 hc (by omega) (by omega) ?_
          first | (have h9 : cd = 0 := h95; exact r_vret F dX1_followLantern_115 rfl (congrArg (setc M k) (by have e2 : q = bst S x (S 20 1).toNat := (by rw [hq, show j = S 20 1 by omega]); have e3 : q = -1 := (by rcases bb with e | e <;> first | exact e | (exfalso; have := g2 (by omega); omega)); unfold readS; rw [← e2, if_pos e3]))) | exact r_vret F dX1_followLantern_115 rfl (congrArg (setc M k) (by have e2 : q = bst S x (S 20 1).toNat := (by rw [hq, show j = S 20 1 by omega]); have e3 : q ≠ -1 := (fun e => by have := g1 e; omega); have e4 := g2 e3; unfold readS; rw [← e2, if_neg e3, u2_comm S (Or.inl (by decide : (16 : Nat) ≠ 15)), ← e4.2.1] <;> rfl))
      · exfalso; omega
    | succ n ih =>
      intro j q z cd h0 h1 hq g1 g2
      have bb := bst_bd (S := S) (b := x) j.toNat
      rw [← hq] at bb
      have bsq := shw_bd hI q
      have hcd : 0 ≤ cd ∧ cd ≤ 7 := by rcases bb with e | e <;> first | (have := g1 e; omega) | (have := g2 (by omega); omega)
      have oq := iabs_or (S 4 q - S 13 x)
      have b4q := hI.p4 q
      have hz : -20 ≤ z ∧ z ≤ 20 := by rcases bb with e | e <;> first | (have := g1 e; omega) | (have := g2 (by omega); omega)
      have b4 := hI.p4 j
      have bs := shw_bd hI j
      have b2 := hI.p2 (shw S j)
      have oj := iabs_or (S 4 j - S 13 x)
      have esh : shw S j = S 5 (10 * j + nh) := by rw [hnh]; rfl
      have bs5 := hI.p5 (10 * j + nh)
      have b2n := hI.p2 (S 5 (10 * j + nh))
      refine r_iload F dX1_followLantern_14 rfl ?_
      refine r_aload_n (i := 0) F dX1_followLantern_16 rfl rfl ?_
      refine gf_X1_51 F dX1_followLantern_17 hc ?_
      refine r_icmp_ge (tgt := 93) F dX1_followLantern_20 (by decide) (by first | assumption | exact ir_of (by omega) (by omega)) (by first | assumption | exact ir_of (by omega) (by omega)) (fun h20 => ?_) (fun h20 => ?_)
      · exfalso; omega
      · refine r_aload_n (i := 0) F dX1_followLantern_23 rfl rfl ?_
        refine gf_X1_26 F dX1_followLantern_24 hc ?_
        refine r_iload F dX1_followLantern_27 rfl ?_
        refine aa_6 F dX1_followLantern_29 hc (by omega) (by omega) ?_
        refine gf_X1_114 F dX1_followLantern_30 hc (by omega) (by omega) ?_
        refine r_iload_n (i := 2) F dX1_followLantern_33 rfl rfl ?_
        refine ia_10 F dX1_followLantern_34 hc (by omega) (by omega) (by omega) (by omega) ?_
        refine r_istore (lv1 := [_, _, _, _, _, _, _, _, _]) F dX1_followLantern_35 (by decide) rfl rfl ?_
        refine r_aload_n (i := 0) F dX1_followLantern_37 rfl rfl ?_
        refine gf_X1_26 F dX1_followLantern_38 hc ?_
        refine r_iload F dX1_followLantern_41 rfl ?_
        refine aa_6 F dX1_followLantern_43 hc (by omega) (by omega) ?_
        refine gf_X1_90 F dX1_followLantern_44 hc (by omega) (by omega) ?_
        refine r_aload_n (i := 1) F dX1_followLantern_47 rfl rfl ?_
        refine gf_X1_144 F dX1_followLantern_48 hc (by omega) (by omega) ?_
        refine r_callSN F (C_X4_distance (by omega) (by omega)) dX1_followLantern_51 lksn_X1_151 rfl rfl cd_X4_distance (by decide) ⟨Nat.le_refl _, Nat.le_refl _⟩ (Nat.le_of_ble_eq_true rfl) ?_
        refine r_istore (lv1 := [_, _, _, _, _, _, _, _, _]) F dX1_followLantern_54 (by decide) rfl rfl ?_
        refine r_iload F dX1_followLantern_56 rfl ?_
        refine r_if_eq (tgt := 87) F dX1_followLantern_58 (by decide) (by first | assumption | exact ir_of (by omega) (by omega)) (fun h58 => ?_) (fun h58 => ?_)
        · refine r_iinc (lv1 := [_, _, _, _, _, _, _, _, _]) F dX1_followLantern_87 rfl (by decide) rfl rfl ?_
          refine r_goto (tgt := 14) F dX1_followLantern_90 (by decide) ?_
          refine V.kill (lv1 := [_, _, _, _, _, _, _, _, _]) 7 rfl (V.kill (lv1 := [_, _, _, _, _, _, _, _, _]) 8 rfl ?_)
          first | (have h9 : iabs (S 4 j - S 13 x) < z := h76; exact ih (j + 1) j _ _ (by omega) (by omega) (by rw [bst_S _ _ h0, ← hq]; refine (if_neg ?_).symm; rintro (h | h | h | h) <;> first | exact h58 (by omega) | exact h69 (by rw [← esh]; exact h) | (rcases bb with e | e <;> first | (have := g1 e; omega) | (have := g2 (by omega); omega))) (fun e => by omega) (fun _ => ⟨rfl, by rw [esh], by rcases bb with e | e <;> first | (have := g1 e; omega) | (have := g2 (by omega); omega)⟩)) | exact ih (j + 1) q _ _ (by omega) (by omega) (by rw [bst_S _ _ h0, ← hq]; refine (if_pos ?_).symm; first | exact Or.inl (by omega) | exact Or.inr (Or.inl (by rw [esh]; assumption)) | (rcases bb with e | e <;> first | exact Or.inr (Or.inr (Or.inl (by have := g1 e; omega))) | exact Or.inr (Or.inr (Or.inr ⟨by omega, by have := g2 (by omega); omega⟩)))) g1 g2
        · refine r_aload_n (i := 0) F dX1_followLantern_61 rfl rfl ?_
          refine gf_X1_18 F dX1_followLantern_62 hc ?_
          refine r_iload F dX1_followLantern_65 rfl ?_
          refine ia_4 F dX1_followLantern_67 hc (by omega) (by omega) ?_
          refine r_iconst F dX1_followLantern_68 ?_
          refine r_icmp_eq (tgt := 87) F dX1_followLantern_69 (by decide) (by first | assumption | exact ir_of (by omega) (by omega)) (by first | assumption | exact ir_of (by omega) (by omega)) (fun h69 => ?_) (fun h69 => ?_)
          · refine r_iinc (lv1 := [_, _, _, _, _, _, _, _, _]) F dX1_followLantern_87 rfl (by decide) rfl rfl ?_
            refine r_goto (tgt := 14) F dX1_followLantern_90 (by decide) ?_
            refine V.kill (lv1 := [_, _, _, _, _, _, _, _, _]) 7 rfl (V.kill (lv1 := [_, _, _, _, _, _, _, _, _]) 8 rfl ?_)
            first | (have h9 : iabs (S 4 j - S 13 x) < z := h76; exact ih (j + 1) j _ _ (by omega) (by omega) (by rw [bst_S _ _ h0, ← hq]; refine (if_neg ?_).symm; rintro (h | h | h | h) <;> first | exact h58 (by omega) | exact h69 (by rw [← esh]; exact h) | (rcases bb with e | e <;> first | (have := g1 e; omega) | (have := g2 (by omega); omega))) (fun e => by omega) (fun _ => ⟨rfl, by rw [esh], by rcases bb with e | e <;> first | (have := g1 e; omega) | (have := g2 (by omega); omega)⟩)) | exact ih (j + 1) q _ _ (by omega) (by omega) (by rw [bst_S _ _ h0, ← hq]; refine (if_pos ?_).symm; first | exact Or.inl (by omega) | exact Or.inr (Or.inl (by rw [esh]; assumption)) | (rcases bb with e | e <;> first | exact Or.inr (Or.inr (Or.inl (by have := g1 e; omega))) | exact Or.inr (Or.inr (Or.inr ⟨by omega, by have := g2 (by omega); omega⟩)))) g1 g2
          · refine r_iload F dX1_followLantern_72 rfl ?_
            refine r_iload F dX1_followLantern_74 rfl ?_
            refine r_icmp_ge (tgt := 87) F dX1_followLantern_76 (by decide) (by first | assumption | exact ir_of (by omega) (by omega)) (by first | assumption | exact ir_of (by omega) (by omega)) (fun h76 => ?_) (fun h76 => ?_)
            · refine r_iinc (lv1 := [_, _, _, _, _, _, _, _, _]) F dX1_followLantern_87 rfl (by decide) rfl rfl ?_
              refine r_goto (tgt := 14) F dX1_followLantern_90 (by decide) ?_
              refine V.kill (lv1 := [_, _, _, _, _, _, _, _, _]) 7 rfl (V.kill (lv1 := [_, _, _, _, _, _, _, _, _]) 8 rfl ?_)
              first | (have h9 : iabs (S 4 j - S 13 x) < z := h76; exact ih (j + 1) j _ _ (by omega) (by omega) (by rw [bst_S _ _ h0, ← hq]; refine (if_neg ?_).symm; rintro (h | h | h | h) <;> first | exact h58 (by omega) | exact h69 (by rw [← esh]; exact h) | (rcases bb with e | e <;> first | (have := g1 e; omega) | (have := g2 (by omega); omega))) (fun e => by omega) (fun _ => ⟨rfl, by rw [esh], by rcases bb with e | e <;> first | (have := g1 e; omega) | (have := g2 (by omega); omega)⟩)) | exact ih (j + 1) q _ _ (by omega) (by omega) (by rw [bst_S _ _ h0, ← hq]; refine (if_pos ?_).symm; first | exact Or.inl (by omega) | exact Or.inr (Or.inl (by rw [esh]; assumption)) | (rcases bb with e | e <;> first | exact Or.inr (Or.inr (Or.inl (by have := g1 e; omega))) | exact Or.inr (Or.inr (Or.inr ⟨by omega, by have := g2 (by omega); omega⟩)))) g1 g2
            · refine r_iload F dX1_followLantern_79 rfl ?_
              refine r_istore (lv1 := [_, _, _, _, _, _, _, _, _]) F dX1_followLantern_81 (by decide) rfl rfl ?_
              refine r_iload F dX1_followLantern_83 rfl ?_
              refine r_istore (lv1 := [_, _, _, _, _, _, _, _, _]) F dX1_followLantern_85 (by decide) rfl rfl ?_
              refine r_iinc (lv1 := [_, _, _, _, _, _, _, _, _]) F dX1_followLantern_87 rfl (by decide) rfl rfl ?_
              refine r_goto (tgt := 14) F dX1_followLantern_90 (by decide) ?_
              refine V.kill (lv1 := [_, _, _, _, _, _, _, _, _]) 7 rfl (V.kill (lv1 := [_, _, _, _, _, _, _, _, _]) 8 rfl ?_)
              first | (have h9 : iabs (S 4 j - S 13 x) < z := h76; exact ih (j + 1) j _ _ (by omega) (by omega) (by rw [bst_S _ _ h0, ← hq]; refine (if_neg ?_).symm; rintro (h | h | h | h) <;> first | exact h58 (by omega) | exact h69 (by rw [← esh]; exact h) | (rcases bb with e | e <;> first | (have := g1 e; omega) | (have := g2 (by omega); omega))) (fun e => by omega) (fun _ => ⟨rfl, by rw [esh], by rcases bb with e | e <;> first | (have := g1 e; omega) | (have := g2 (by omega); omega)⟩)) | exact ih (j + 1) q _ _ (by omega) (by omega) (by rw [bst_S _ _ h0, ← hq]; refine (if_pos ?_).symm; first | exact Or.inl (by omega) | exact Or.inr (Or.inl (by rw [esh]; assumption)) | (rcases bb with e | e <;> first | exact Or.inr (Or.inr (Or.inl (by have := g1 e; omega))) | exact Or.inr (Or.inr (Or.inr ⟨by omega, by have := g2 (by omega); omega⟩)))) g1 g2
  refine r_bipush F dX1_followLantern_0 (by decide) ?_
  refine r_iload_n (i := 3) F dX1_followLantern_2 rfl rfl ?_
  refine r_isub F dX1_followLantern_3 ?_
  refine r_iconst F dX1_followLantern_4 ?_
  refine r_iadd F dX1_followLantern_5 ?_
  refine r_istore (lv1 := [_, _, _, _, _, _, _, _, _]) F dX1_followLantern_6 (by decide) rfl rfl ?_
  refine r_iconst F dX1_followLantern_8 ?_
  refine r_istore (lv1 := [_, _, _, _, _, _, _, _, _]) F dX1_followLantern_9 (by decide) rfl rfl ?_
  refine r_iconst F dX1_followLantern_11 ?_
  refine r_istore (lv1 := [_, _, _, _, _, _, _, _, _]) F dX1_followLantern_12 (by decide) rfl rfl ?_
  exact loop (S 20 1).toNat 0 (-1) _ _ (by omega) (by omega) rfl (fun _ => ⟨by omega, rfl⟩) (fun e => absurd rfl e)

set_option maxHeartbeats 4000000 in
set_option maxRecDepth 100000 in
theorem C_X1_noteLanterns {l : Launch} {cy : Nat → ClassId} {D : va_G} {ad : Nat → Nat → Int → Nat} {M : Mem} {k : Nat} {S : St} {nh mn : Int} (hc : k < 2) (hI : Inv S) (hnh : nh = hn S) (hmn : mn = mo S) : Ct l cy D ad yX1_noteLanterns cX1_noteLanterns 6 none 2 [.ref (ad 1 k 0), .int (i32 nh), .int (i32 mn)] (setc M k S) none (setc M k (go1 S)) := by
  refine Ct.mk (lv := [some _, some _, some _, none, none, none]) 3 (by decide) rfl (Nat.le_of_ble_eq_true rfl) (fun p e s m below meth c F => ?_)
  have loop : ∀ (n : Nat) (j : Int) (S1 : St), 0 ≤ j → j + (n : Int) = S 20 1 → S1 = noteN S j.toNat → V p l e (RM 2) s m ([.ref (ad 1 k 0), .int (i32 nh), .int (i32 mn)] : List Value).toArray below meth c 6 cy D ad (Aw ad s.heap.size) 0 0 (MQ below (Qn cy D ad s.heap.size none (setc M k (go1 S))) ([.ref (ad 1 k 0), .int (i32 nh), .int (i32 mn)] : List Value).toArray s 0 0 (Aw ad s.heap.size)) 2 [some (.ref (ad 1 k 0)), some (.int (i32 nh)), some (.int (i32 mn)), some (.int (i32 j)), none, none] [] (setc M k S1) := by
    intro n
    induction n with
    | zero =>
      intro j S1 h0 h1 hS
      have hI1 : Inv S1 := by rw [hS]; exact noteN_inv hI _
      have e20 : ∀ i, S1 20 i = S 20 i := fun i => by rw [hS]; exact noteN_k (by decide) (by decide) _
      have e201 := e20 1
      have e202 := e20 2
      have ic := hI.pc
      have bs := shw_bd hI1 j
      have hb := hn_bd S
      have hm := mo_bd S
      have b4 := hI1.p4 j
      have e1 : hn S1 = nh := by rw [hnh]; exact hn_eq (e20 0)
      have e2 : mo S1 = mn := by rw [hmn]; exact mo_eq (e20 0)
      have esh : shw S1 j = S1 5 (10 * j + nh) := by rw [← e1]; rfl
      have ewl : wL S1 j = cnt (sLq S1 (S1 4 j) mn) (S1 20 2).toNat := by rw [← e2]; rfl
      have cb := cnt_bd (sLq S1 (S1 4 j) mn) (S1 20 2).toNat
      have bs5 := hI1.p5 (10 * j + nh)
      refine r_iload_n (i := 3) F dX1_noteLanterns_2 rfl rfl ?_
      refine r_aload_n (i := 0) F dX1_noteLanterns_3 rfl rfl ?_
      refine gf_X1_51 F dX1_noteLanterns_4 hc ?_
      refine r_icmp_ge (tgt := 73) F dX1_noteLanterns_7 (by decide) (by first | assumption | exact ir_of (by omega) (by omega)) (by first | assumption | exact ir_of (by omega) (by omega)) (fun h7 => ?_) (fun h7 => ?_)
      · exact r_vret F dX1_noteLanterns_73 rfl (by rw [hS, show j = S 20 1 by omega] <;> rfl)
      · exfalso; omega
    | succ n ih =>
      intro j S1 h0 h1 hS
      have hI1 : Inv S1 := by rw [hS]; exact noteN_inv hI _
      have e20 : ∀ i, S1 20 i = S 20 i := fun i => by rw [hS]; exact noteN_k (by decide) (by decide) _
      have e201 := e20 1
      have e202 := e20 2
      have ic := hI.pc
      have bs := shw_bd hI1 j
      have hb := hn_bd S
      have hm := mo_bd S
      have b4 := hI1.p4 j
      have e1 : hn S1 = nh := by rw [hnh]; exact hn_eq (e20 0)
      have e2 : mo S1 = mn := by rw [hmn]; exact mo_eq (e20 0)
      have esh : shw S1 j = S1 5 (10 * j + nh) := by rw [← e1]; rfl
      have ewl : wL S1 j = cnt (sLq S1 (S1 4 j) mn) (S1 20 2).toNat := by rw [← e2]; rfl
      have cb := cnt_bd (sLq S1 (S1 4 j) mn) (S1 20 2).toNat
      have bs5 := hI1.p5 (10 * j + nh)
      refine r_iload_n (i := 3) F dX1_noteLanterns_2 rfl rfl ?_
      refine r_aload_n (i := 0) F dX1_noteLanterns_3 rfl rfl ?_
      refine gf_X1_51 F dX1_noteLanterns_4 hc ?_
      refine r_icmp_ge (tgt := 73) F dX1_noteLanterns_7 (by decide) (by first | assumption | exact ir_of (by omega) (by omega)) (by first | assumption | exact ir_of (by omega) (by omega)) (fun h7 => ?_) (fun h7 => ?_)
      · exfalso; omega
      · refine r_aload_n (i := 0) F dX1_noteLanterns_10 rfl rfl ?_
        refine gf_X1_26 F dX1_noteLanterns_11 hc ?_
        refine r_iload_n (i := 3) F dX1_noteLanterns_14 rfl rfl ?_
        refine aa_6 F dX1_noteLanterns_15 hc (by omega) (by omega) ?_
        refine r_astore (lv1 := [_, _, _, _, _, _]) F dX1_noteLanterns_16 (by decide) rfl rfl ?_
        refine r_aload F dX1_noteLanterns_18 rfl ?_
        refine gf_X1_114 F dX1_noteLanterns_20 hc (by omega) (by omega) ?_
        refine r_iload_n (i := 1) F dX1_noteLanterns_23 rfl rfl ?_
        refine ia_10 F dX1_noteLanterns_24 hc (by omega) (by omega) (by omega) (by omega) ?_
        refine r_istore (lv1 := [_, _, _, _, _, _]) F dX1_noteLanterns_25 (by decide) rfl rfl ?_
        refine r_iload F dX1_noteLanterns_27 rfl ?_
        refine r_if_eq (tgt := 67) F dX1_noteLanterns_29 (by decide) (by first | assumption | exact ir_of (by omega) (by omega)) (fun h29 => ?_) (fun h29 => ?_)
        · refine r_iinc (lv1 := [_, _, _, _, _, _]) F dX1_noteLanterns_67 rfl (by decide) rfl rfl ?_
          refine r_goto (tgt := 2) F dX1_noteLanterns_70 (by decide) ?_
          refine V.kill (lv1 := [_, _, _, _, _, _]) 4 rfl (V.kill (lv1 := [_, _, _, _, _, _]) 5 rfl ?_)
          exact ih (j + 1) _ (by omega) (by omega) (by rw [noteN_S _ h0, ← hS]; unfold noteS; rw [esh, ewl]; first | (rw [if_pos (Or.inl h29)]; done) | (rw [if_pos (Or.inr (by omega))]; done) | (rw [if_neg (fun h => h.elim h29 (fun z => by omega))] <;> rfl))
        · refine r_aload_n (i := 0) F dX1_noteLanterns_32 rfl rfl ?_
          refine r_aload F dX1_noteLanterns_33 rfl ?_
          refine gf_X1_90 F dX1_noteLanterns_35 hc (by omega) (by omega) ?_
          refine r_iload_n (i := 2) F dX1_noteLanterns_38 rfl rfl ?_
          refine r_callV F (C_X1_watchmenSeeingLantern hc hI1 b4 (by omega)) dX1_noteLanterns_39 lkv_X1_117 rfl rfl (dm1 ⟨by decide, by decide⟩ hc) rfl rfl cd_X1_watchmenSeeingLantern (by decide) ⟨Nat.le_refl _, Nat.le_refl _⟩ (Nat.le_of_ble_eq_true rfl) ?_
          refine r_if_le (tgt := 67) F dX1_noteLanterns_42 (by decide) (by first | assumption | exact ir_of (by omega) (by omega)) (fun h42 => ?_) (fun h42 => ?_)
          · refine r_iinc (lv1 := [_, _, _, _, _, _]) F dX1_noteLanterns_67 rfl (by decide) rfl rfl ?_
            refine r_goto (tgt := 2) F dX1_noteLanterns_70 (by decide) ?_
            refine V.kill (lv1 := [_, _, _, _, _, _]) 4 rfl (V.kill (lv1 := [_, _, _, _, _, _]) 5 rfl ?_)
            exact ih (j + 1) _ (by omega) (by omega) (by rw [noteN_S _ h0, ← hS]; unfold noteS; rw [esh, ewl]; first | (rw [if_pos (Or.inl h29)]; done) | (rw [if_pos (Or.inr (by omega))]; done) | (rw [if_neg (fun h => h.elim h29 (fun z => by omega))] <;> rfl))
          · refine r_aload_n (i := 0) F dX1_noteLanterns_45 rfl rfl ?_
            refine gf_X1_21 F dX1_noteLanterns_46 hc ?_
            refine r_iload F dX1_noteLanterns_49 rfl ?_
            refine r_dup2 F dX1_noteLanterns_51 rfl rfl ?_
            refine ia_5 F dX1_noteLanterns_52 hc (by omega) (by omega) ?_
            refine r_iconst F dX1_noteLanterns_53 ?_
            refine r_iadd F dX1_noteLanterns_54 ?_
            refine is_5 F dX1_noteLanterns_55 hc (by omega) (by omega) ?_
            refine r_aload F dX1_noteLanterns_56 rfl ?_
            refine r_dup F dX1_noteLanterns_58 rfl ?_
            refine gf_X1_120 F dX1_noteLanterns_59 hc (by omega) (by omega) ?_
            refine r_iconst F dX1_noteLanterns_62 ?_
            refine r_iadd F dX1_noteLanterns_63 ?_
            refine pf_X1_120 F dX1_noteLanterns_64 hc (by omega) (by omega) ?_
            refine r_iinc (lv1 := [_, _, _, _, _, _]) F dX1_noteLanterns_67 rfl (by decide) rfl rfl ?_
            refine r_goto (tgt := 2) F dX1_noteLanterns_70 (by decide) ?_
            refine V.kill (lv1 := [_, _, _, _, _, _]) 4 rfl (V.kill (lv1 := [_, _, _, _, _, _]) 5 rfl ?_)
            exact ih (j + 1) _ (by omega) (by omega) (by rw [noteN_S _ h0, ← hS]; unfold noteS; rw [esh, ewl]; first | (rw [if_pos (Or.inl h29)]; done) | (rw [if_pos (Or.inr (by omega))]; done) | (rw [if_neg (fun h => h.elim h29 (fun z => by omega))] <;> rfl))
  refine r_iconst F dX1_noteLanterns_0 ?_
  refine r_istore_n (i := 3) (lv1 := [_, _, _, _, _, _]) F dX1_noteLanterns_1 rfl (by decide) rfl rfl ?_
  exact loop (S 20 1).toNat 0 S (by have := hI.pc; omega) (by have := hI.pc; omega) rfl

set_option maxHeartbeats 4000000 in
set_option maxRecDepth 100000 in
theorem C_X1_moveBoats {l : Launch} {cy : Nat → ClassId} {D : va_G} {ad : Nat → Nat → Int → Nat} {M : Mem} {k : Nat} {S : St} {nh mn : Int} (hc : k < 2) (hI : Inv S) (hnh : nh = hn S) (hmn : mn = mo S) : Ct l cy D ad yX1_moveBoats cX1_moveBoats 5 none 2 [.ref (ad 1 k 0), .int (i32 nh), .int (i32 mn)] (setc M k S) none (setc M k (boatN S (S 20 3).toNat)) := by
  refine Ct.mk (lv := [some _, some _, some _, none, none]) 2 (by decide) rfl (Nat.le_of_ble_eq_true rfl) (fun p e s m below meth c F => ?_)
  have loop : ∀ (n : Nat) (j : Int) (S1 : St), 0 ≤ j → j + (n : Int) = S 20 3 → S1 = boatN S j.toNat → V p l e (RM 2) s m ([.ref (ad 1 k 0), .int (i32 nh), .int (i32 mn)] : List Value).toArray below meth c 5 cy D ad (Aw ad s.heap.size) 0 0 (MQ below (Qn cy D ad s.heap.size none (setc M k (boatN S (S 20 3).toNat))) ([.ref (ad 1 k 0), .int (i32 nh), .int (i32 mn)] : List Value).toArray s 0 0 (Aw ad s.heap.size)) 2 [some (.ref (ad 1 k 0)), some (.int (i32 nh)), some (.int (i32 mn)), some (.int (i32 j)), none] [] (setc M k S1) := by
    intro n
    induction n with
    | zero =>
      intro j S1 h0 h1 hS
      have hI1 : Inv S1 := by rw [hS]; exact boatN_inv hI _
      have e20 : ∀ i, S1 20 i = S 20 i := fun i => by rw [hS, boatN_k (by decide) (by decide) (by decide) (by decide) (by decide) (by decide) (by decide)]
      have e200 := e20 0
      have e203 := e20 3
      have ic := hI.pc
      have b18 := hI1.p18 j
      have b17 := hI1.p17 j
      have e1 : nh = hn S1 := by rw [hnh]; exact (hn_eq (e20 0)).symm
      have e2 : mn = mo S1 := by rw [hmn]; exact (mo_eq (e20 0)).symm
      have hIr := readS_inv hI1 j
      refine r_iload_n (i := 3) F dX1_moveBoats_2 rfl rfl ?_
      refine r_aload_n (i := 0) F dX1_moveBoats_3 rfl rfl ?_
      refine gf_X1_58 F dX1_moveBoats_4 hc ?_
      refine r_icmp_ge (tgt := 70) F dX1_moveBoats_7 (by decide) (by first | assumption | exact ir_of (by omega) (by omega)) (by first | assumption | exact ir_of (by omega) (by omega)) (fun h7 => ?_) (fun h7 => ?_)
      · exact r_vret F dX1_moveBoats_70 rfl (by rw [hS, show j = S 20 3 by omega])
      · exfalso; omega
    | succ n ih =>
      intro j S1 h0 h1 hS
      have hI1 : Inv S1 := by rw [hS]; exact boatN_inv hI _
      have e20 : ∀ i, S1 20 i = S 20 i := fun i => by rw [hS, boatN_k (by decide) (by decide) (by decide) (by decide) (by decide) (by decide) (by decide)]
      have e200 := e20 0
      have e203 := e20 3
      have ic := hI.pc
      have b18 := hI1.p18 j
      have b17 := hI1.p17 j
      have e1 : nh = hn S1 := by rw [hnh]; exact (hn_eq (e20 0)).symm
      have e2 : mn = mo S1 := by rw [hmn]; exact (mo_eq (e20 0)).symm
      have hIr := readS_inv hI1 j
      refine r_iload_n (i := 3) F dX1_moveBoats_2 rfl rfl ?_
      refine r_aload_n (i := 0) F dX1_moveBoats_3 rfl rfl ?_
      refine gf_X1_58 F dX1_moveBoats_4 hc ?_
      refine r_icmp_ge (tgt := 70) F dX1_moveBoats_7 (by decide) (by first | assumption | exact ir_of (by omega) (by omega)) (by first | assumption | exact ir_of (by omega) (by omega)) (fun h7 => ?_) (fun h7 => ?_)
      · exfalso; omega
      · refine r_aload_n (i := 0) F dX1_moveBoats_10 rfl rfl ?_
        refine gf_X1_38 F dX1_moveBoats_11 hc ?_
        refine r_iload_n (i := 3) F dX1_moveBoats_14 rfl rfl ?_
        refine aa_8 F dX1_moveBoats_15 hc (by omega) (by omega) ?_
        refine r_astore (lv1 := [_, _, _, _, _]) F dX1_moveBoats_16 (by decide) rfl rfl ?_
        refine r_aload F dX1_moveBoats_18 rfl ?_
        refine r_callV F (C_X0_liesAtGoal hc hI1 ⟨by omega, by omega⟩) dX1_moveBoats_20 lkv_X1_123 rfl rfl (dm12 hc (by omega) (by omega)) rfl rfl cd_X0_liesAtGoal (by decide) ⟨Nat.le_refl _, Nat.le_refl _⟩ (Nat.le_of_ble_eq_true rfl) ?_
        refine r_bz_eq (tgt := 35) F dX1_moveBoats_23 (by decide) (fun h23 => ?_) (fun h23 => ?_)
        · refine r_aload F dX1_moveBoats_35 rfl ?_
          refine gf_X1_130 F dX1_moveBoats_37 hc (by omega) (by omega) ?_
          refine r_if_ne (tgt := 64) F dX1_moveBoats_40 (by decide) (by first | assumption | exact ir_of (by omega) (by omega)) (fun h40 => ?_) (fun h40 => ?_)
          · refine r_iinc (lv1 := [_, _, _, _, _]) F dX1_moveBoats_64 rfl (by decide) rfl rfl ?_
            refine r_goto (tgt := 2) F dX1_moveBoats_67 (by decide) ?_
            refine V.kill (lv1 := [_, _, _, _, _]) 4 rfl ?_
            exact ih (j + 1) _ (by omega) (by omega) (by rw [boatN_S _ h0, ← hS]; unfold boatS; simp [there] at h23; first | (rw [if_pos (show S1 18 j ≠ 0 by omega)]; done) | (rw [if_neg (show ¬ S1 18 j ≠ 0 by omega)]; first | (rw [if_pos (by omega)]; done) | (rw [if_neg (by omega)]; unfold sailS; first | (rw [if_pos (by omega)]; done) | (rw [if_neg (by omega)]; done))))
          · refine r_aload F dX1_moveBoats_43 rfl ?_
            refine gf_X1_133 F dX1_moveBoats_45 hc (by omega) (by omega) ?_
            refine r_if_eq (tgt := 59) F dX1_moveBoats_48 (by decide) (by first | assumption | exact ir_of (by omega) (by omega)) (fun h48 => ?_) (fun h48 => ?_)
            · refine r_aload F dX1_moveBoats_59 rfl ?_
              refine r_callV F (C_X0_sail hc (by first | exact hI1 | exact hIr) ⟨by omega, by omega⟩) dX1_moveBoats_61 lkv_X1_141 rfl rfl (dm12 hc (by omega) (by omega)) rfl rfl cd_X0_sail (by decide) ⟨Nat.le_refl _, Nat.le_refl _⟩ (Nat.le_of_ble_eq_true rfl) ?_
              refine r_iinc (lv1 := [_, _, _, _, _]) F dX1_moveBoats_64 rfl (by decide) rfl rfl ?_
              refine r_goto (tgt := 2) F dX1_moveBoats_67 (by decide) ?_
              refine V.kill (lv1 := [_, _, _, _, _]) 4 rfl ?_
              exact ih (j + 1) _ (by omega) (by omega) (by rw [boatN_S _ h0, ← hS]; unfold boatS; simp [there] at h23; first | (rw [if_pos (show S1 18 j ≠ 0 by omega)]; done) | (rw [if_neg (show ¬ S1 18 j ≠ 0 by omega)]; first | (rw [if_pos (by omega)]; done) | (rw [if_neg (by omega)]; unfold sailS; first | (rw [if_pos (by omega)]; done) | (rw [if_neg (by omega)]; done))))
            · refine r_aload_n (i := 0) F dX1_moveBoats_51 rfl rfl ?_
              refine r_aload F dX1_moveBoats_52 rfl ?_
              refine r_iload_n (i := 1) F dX1_moveBoats_54 rfl rfl ?_
              refine r_iload_n (i := 2) F dX1_moveBoats_55 rfl rfl ?_
              refine r_callV F (C_X1_followLantern hc hI1 ⟨by omega, by omega⟩ e1 e2) dX1_moveBoats_56 lkv_X1_137 rfl rfl (dm1 ⟨by decide, by decide⟩ hc) rfl rfl cd_X1_followLantern (by decide) ⟨Nat.le_refl _, Nat.le_refl _⟩ (Nat.le_of_ble_eq_true rfl) ?_
              refine r_aload F dX1_moveBoats_59 rfl ?_
              refine r_callV F (C_X0_sail hc (by first | exact hI1 | exact hIr) ⟨by omega, by omega⟩) dX1_moveBoats_61 lkv_X1_141 rfl rfl (dm12 hc (by omega) (by omega)) rfl rfl cd_X0_sail (by decide) ⟨Nat.le_refl _, Nat.le_refl _⟩ (Nat.le_of_ble_eq_true rfl) ?_
              refine r_iinc (lv1 := [_, _, _, _, _]) F dX1_moveBoats_64 rfl (by decide) rfl rfl ?_
              refine r_goto (tgt := 2) F dX1_moveBoats_67 (by decide) ?_
              refine V.kill (lv1 := [_, _, _, _, _]) 4 rfl ?_
              exact ih (j + 1) _ (by omega) (by omega) (by rw [boatN_S _ h0, ← hS]; unfold boatS; simp [there] at h23; first | (rw [if_pos (show S1 18 j ≠ 0 by omega)]; done) | (rw [if_neg (show ¬ S1 18 j ≠ 0 by omega)]; first | (rw [if_pos (by omega)]; done) | (rw [if_neg (by omega)]; unfold sailS; first | (rw [if_pos (by omega)]; done) | (rw [if_neg (by omega)]; done))))
        · refine r_aload_n (i := 0) F dX1_moveBoats_26 rfl rfl ?_
          refine r_aload F dX1_moveBoats_27 rfl ?_
          refine r_callV F (C_X1_unload hc hI1 ⟨by omega, by omega⟩) dX1_moveBoats_29 lkv_X1_127 rfl rfl (dm1 ⟨by decide, by decide⟩ hc) rfl rfl cd_X1_unload (by decide) ⟨Nat.le_refl _, Nat.le_refl _⟩ (Nat.le_of_ble_eq_true rfl) ?_
          refine r_goto (tgt := 64) F dX1_moveBoats_32 (by decide) ?_
          refine r_iinc (lv1 := [_, _, _, _, _]) F dX1_moveBoats_64 rfl (by decide) rfl rfl ?_
          refine r_goto (tgt := 2) F dX1_moveBoats_67 (by decide) ?_
          refine V.kill (lv1 := [_, _, _, _, _]) 4 rfl ?_
          exact ih (j + 1) _ (by omega) (by omega) (by rw [boatN_S _ h0, ← hS]; unfold boatS; simp [there] at h23; first | (rw [if_pos (show S1 18 j ≠ 0 by omega)]; done) | (rw [if_neg (show ¬ S1 18 j ≠ 0 by omega)]; first | (rw [if_pos (by omega)]; done) | (rw [if_neg (by omega)]; unfold sailS; first | (rw [if_pos (by omega)]; done) | (rw [if_neg (by omega)]; done))))
  refine r_iconst F dX1_moveBoats_0 ?_
  refine r_istore_n (i := 3) (lv1 := [_, _, _, _, _]) F dX1_moveBoats_1 rfl (by decide) rfl rfl ?_
  exact loop (S 20 3).toNat 0 S (by have := hI.pc; omega) (by have := hI.pc; omega) rfl

set_option maxHeartbeats 4000000 in
set_option maxRecDepth 100000 in
theorem C_X1_seizeFirst {l : Launch} {cy : Nat → ClassId} {D : va_G} {ad : Nat → Nat → Int → Nat} {M : Mem} {k : Nat} {S : St} {x mn : Int} (hc : k < 2) (hI : Inv S) (hx : 0 ≤ x ∧ x < S 20 2) (hmn : mn = mo S) : Ct l cy D ad yX1_seizeFirst cX1_seizeFirst 7 none 1 [.ref (ad 1 k 0), .ref (ad 11 k x), .int (i32 mn)] (setc M k S) none (setc M k (seizeS S x)) := by
  refine Ct.mk (lv := [some _, some _, some _, none, none, none, none]) 4 (by decide) rfl (Nat.le_of_ble_eq_true rfl) (fun p e s m below meth c F => ?_)
  have bw := hI.pw x
  have b9 := hI.p9 x
  have ic := hI.pc
  have hm := mo_bd S
  have hs : sgP S x = S 9 x + mn / 2 := by rw [hmn]; rfl
  have loop : ∀ (n : Nat) (j : Int), 0 ≤ j → j + (n : Int) = S 20 3 → (∀ i, 0 ≤ i → i < j → catB S x i = false) → V p l e (RM 1) s m ([.ref (ad 1 k 0), .ref (ad 11 k x), .int (i32 mn)] : List Value).toArray below meth c 7 cy D ad (Aw ad s.heap.size) 0 0 (MQ below (Qn cy D ad s.heap.size none (setc M k (seizeS S x))) ([.ref (ad 1 k 0), .ref (ad 11 k x), .int (i32 mn)] : List Value).toArray s 0 0 (Aw ad s.heap.size)) 9 [some (.ref (ad 1 k 0)), some (.ref (ad 11 k x)), some (.int (i32 mn)), some (.int (i32 (S 9 x + mn / 2))), some (.int (i32 j)), none, none] [] (setc M k S) := by
    intro n
    induction n with
    | zero =>
      intro j h0 h1 hb
      have b13 := hI.p13 j
      have b14 := hI.p14 j
      have b16 := hI.p16 j
      have oj := iabs_or (S 10 x - S 13 j)
      refine r_iload F dX1_seizeFirst_9 rfl ?_
      refine r_aload_n (i := 0) F dX1_seizeFirst_11 rfl rfl ?_
      refine gf_X1_58 F dX1_seizeFirst_12 hc ?_
      refine r_icmp_ge (tgt := 116) F dX1_seizeFirst_15 (by decide) (by first | assumption | exact ir_of (by omega) (by omega)) (by first | assumption | exact ir_of (by omega) (by omega)) (fun h15 => ?_) (fun h15 => ?_)
      · exact r_vret F dX1_seizeFirst_116 rfl (congrArg (setc M k) (by unfold seizeS; rw [if_pos]; exact fst_none (fun i g1 g2 => hb i g1 (by omega))))
      · exfalso; omega
    | succ n ih =>
      intro j h0 h1 hb
      have b13 := hI.p13 j
      have b14 := hI.p14 j
      have b16 := hI.p16 j
      have oj := iabs_or (S 10 x - S 13 j)
      refine r_iload F dX1_seizeFirst_9 rfl ?_
      refine r_aload_n (i := 0) F dX1_seizeFirst_11 rfl rfl ?_
      refine gf_X1_58 F dX1_seizeFirst_12 hc ?_
      refine r_icmp_ge (tgt := 116) F dX1_seizeFirst_15 (by decide) (by first | assumption | exact ir_of (by omega) (by omega)) (by first | assumption | exact ir_of (by omega) (by omega)) (fun h15 => ?_) (fun h15 => ?_)
      · exfalso; omega
      · refine r_aload_n (i := 0) F dX1_seizeFirst_18 rfl rfl ?_
        refine gf_X1_38 F dX1_seizeFirst_19 hc ?_
        refine r_iload F dX1_seizeFirst_22 rfl ?_
        refine aa_8 F dX1_seizeFirst_24 hc (by omega) (by omega) ?_
        refine r_astore (lv1 := [_, _, _, _, _, _, _]) F dX1_seizeFirst_25 (by decide) rfl rfl ?_
        refine r_aload_n (i := 0) F dX1_seizeFirst_27 rfl rfl ?_
        refine r_aload F dX1_seizeFirst_28 rfl ?_
        refine gf_X1_157 F dX1_seizeFirst_30 hc (by omega) (by omega) ?_
        refine r_callV F (C_X1_isKnown hc hI ⟨by omega, by omega⟩) dX1_seizeFirst_33 lkv_X1_170 rfl rfl (dm1 ⟨by decide, by decide⟩ hc) rfl rfl cd_X1_isKnown (by decide) ⟨Nat.le_refl _, Nat.le_refl _⟩ (Nat.le_of_ble_eq_true rfl) ?_
        refine r_bz_eq (tgt := 43) F dX1_seizeFirst_36 (by decide) (fun h36 => ?_) (fun h36 => ?_)
        · refine r_iconst F dX1_seizeFirst_43 ?_
          refine r_istore (lv1 := [_, _, _, _, _, _, _]) F dX1_seizeFirst_44 (by decide) rfl rfl ?_
          refine r_aload F dX1_seizeFirst_46 rfl ?_
          refine r_callV F (C_X0_liesAtGoal hc hI ⟨by omega, by omega⟩) dX1_seizeFirst_48 lkv_X1_123 rfl rfl (dm12 hc (by omega) (by omega)) rfl rfl cd_X0_liesAtGoal (by decide) ⟨Nat.le_refl _, Nat.le_refl _⟩ (Nat.le_of_ble_eq_true rfl) ?_
          refine r_bz_eq (tgt := 110) F dX1_seizeFirst_51 (by decide) (fun h51 => ?_) (fun h51 => ?_)
          · refine r_iinc (lv1 := [_, _, _, _, _, _, _]) F dX1_seizeFirst_110 rfl (by decide) rfl rfl ?_
            refine r_goto (tgt := 9) F dX1_seizeFirst_113 (by decide) ?_
            refine V.kill (lv1 := [_, _, _, _, _, _, _]) 5 rfl (V.kill (lv1 := [_, _, _, _, _, _, _]) 6 rfl ?_)
            exact ih (j + 1) (by omega) (by omega) (fun i g1 g2 => if e : i = j then by subst e; unfold catB; simp [*]; try omega else hb i g1 (by omega))
          · refine r_aload_n (i := 1) F dX1_seizeFirst_54 rfl rfl ?_
            refine gf_X1_174 F dX1_seizeFirst_55 hc (by omega) (by omega) ?_
            refine r_aload F dX1_seizeFirst_58 rfl ?_
            refine gf_X1_144 F dX1_seizeFirst_60 hc (by omega) (by omega) ?_
            refine r_callSN F (C_X4_distance (by omega) (by omega)) dX1_seizeFirst_63 lksn_X1_151 rfl rfl cd_X4_distance (by decide) ⟨Nat.le_refl _, Nat.le_refl _⟩ (Nat.le_of_ble_eq_true rfl) ?_
            refine r_iload_n (i := 3) F dX1_seizeFirst_66 rfl rfl ?_
            refine r_iload F dX1_seizeFirst_67 rfl ?_
            refine r_iadd F dX1_seizeFirst_69 ?_
            refine r_icmp_gt (tgt := 110) F dX1_seizeFirst_70 (by decide) (by first | assumption | exact ir_of (by omega) (by omega)) (by first | assumption | exact ir_of (by omega) (by omega)) (fun h70 => ?_) (fun h70 => ?_)
            · refine r_iinc (lv1 := [_, _, _, _, _, _, _]) F dX1_seizeFirst_110 rfl (by decide) rfl rfl ?_
              refine r_goto (tgt := 9) F dX1_seizeFirst_113 (by decide) ?_
              refine V.kill (lv1 := [_, _, _, _, _, _, _]) 5 rfl (V.kill (lv1 := [_, _, _, _, _, _, _]) 6 rfl ?_)
              exact ih (j + 1) (by omega) (by omega) (fun i g1 g2 => if e : i = j then by subst e; unfold catB; simp [*]; try omega else hb i g1 (by omega))
            · refine r_aload_n (i := 0) F dX1_seizeFirst_73 rfl rfl ?_
              refine r_dup F dX1_seizeFirst_74 rfl ?_
              refine gf_X1_74 F dX1_seizeFirst_75 hc ?_
              refine r_aload F dX1_seizeFirst_78 rfl ?_
              refine gf_X1_145 F dX1_seizeFirst_80 hc (by omega) (by omega) ?_
              refine r_iadd F dX1_seizeFirst_83 ?_
              refine pf_X1_74 F dX1_seizeFirst_84 hc ?_
              refine r_aload F dX1_seizeFirst_87 rfl ?_
              refine r_iconst F dX1_seizeFirst_89 ?_
              refine pf_X1_145 F dX1_seizeFirst_90 hc (by omega) (by omega) ?_
              refine r_aload F dX1_seizeFirst_93 rfl ?_
              refine r_iconst F dX1_seizeFirst_95 ?_
              refine pf_X1_130 F dX1_seizeFirst_96 hc (by omega) (by omega) ?_
              refine r_aload_n (i := 1) F dX1_seizeFirst_99 rfl rfl ?_
              refine r_dup F dX1_seizeFirst_100 rfl ?_
              refine gf_X1_175 F dX1_seizeFirst_101 hc (by omega) (by omega) ?_
              refine r_iconst F dX1_seizeFirst_104 ?_
              refine r_iadd F dX1_seizeFirst_105 ?_
              refine pf_X1_175 F dX1_seizeFirst_106 hc (by omega) (by omega) ?_
              exact r_vret F dX1_seizeFirst_109 rfl (congrArg (setc M k) (by have e := fst_at h0 (show catB S x j = true from (by unfold catB; simp [*]; try omega)) hb (n := (S 20 3).toNat) (by omega); unfold seizeS; rw [e, if_neg (by omega)] <;> rfl))
        · refine r_iconst F dX1_seizeFirst_39 ?_
          refine r_goto (tgt := 44) F dX1_seizeFirst_40 (by decide) ?_
          refine r_istore (lv1 := [_, _, _, _, _, _, _]) F dX1_seizeFirst_44 (by decide) rfl rfl ?_
          refine r_aload F dX1_seizeFirst_46 rfl ?_
          refine r_callV F (C_X0_liesAtGoal hc hI ⟨by omega, by omega⟩) dX1_seizeFirst_48 lkv_X1_123 rfl rfl (dm12 hc (by omega) (by omega)) rfl rfl cd_X0_liesAtGoal (by decide) ⟨Nat.le_refl _, Nat.le_refl _⟩ (Nat.le_of_ble_eq_true rfl) ?_
          refine r_bz_eq (tgt := 110) F dX1_seizeFirst_51 (by decide) (fun h51 => ?_) (fun h51 => ?_)
          · refine r_iinc (lv1 := [_, _, _, _, _, _, _]) F dX1_seizeFirst_110 rfl (by decide) rfl rfl ?_
            refine r_goto (tgt := 9) F dX1_seizeFirst_113 (by decide) ?_
            refine V.kill (lv1 := [_, _, _, _, _, _, _]) 5 rfl (V.kill (lv1 := [_, _, _, _, _, _, _]) 6 rfl ?_)
            exact ih (j + 1) (by omega) (by omega) (fun i g1 g2 => if e : i = j then by subst e; unfold catB; simp [*]; try omega else hb i g1 (by omega))
          · refine r_aload_n (i := 1) F dX1_seizeFirst_54 rfl rfl ?_
            refine gf_X1_174 F dX1_seizeFirst_55 hc (by omega) (by omega) ?_
            refine r_aload F dX1_seizeFirst_58 rfl ?_
            refine gf_X1_144 F dX1_seizeFirst_60 hc (by omega) (by omega) ?_
            refine r_callSN F (C_X4_distance (by omega) (by omega)) dX1_seizeFirst_63 lksn_X1_151 rfl rfl cd_X4_distance (by decide) ⟨Nat.le_refl _, Nat.le_refl _⟩ (Nat.le_of_ble_eq_true rfl) ?_
            refine r_iload_n (i := 3) F dX1_seizeFirst_66 rfl rfl ?_
            refine r_iload F dX1_seizeFirst_67 rfl ?_
            refine r_iadd F dX1_seizeFirst_69 ?_
            refine r_icmp_gt (tgt := 110) F dX1_seizeFirst_70 (by decide) (by first | assumption | exact ir_of (by omega) (by omega)) (by first | assumption | exact ir_of (by omega) (by omega)) (fun h70 => ?_) (fun h70 => ?_)
            · refine r_iinc (lv1 := [_, _, _, _, _, _, _]) F dX1_seizeFirst_110 rfl (by decide) rfl rfl ?_
              refine r_goto (tgt := 9) F dX1_seizeFirst_113 (by decide) ?_
              refine V.kill (lv1 := [_, _, _, _, _, _, _]) 5 rfl (V.kill (lv1 := [_, _, _, _, _, _, _]) 6 rfl ?_)
              exact ih (j + 1) (by omega) (by omega) (fun i g1 g2 => if e : i = j then by subst e; unfold catB; simp [*]; try omega else hb i g1 (by omega))
            · refine r_aload_n (i := 0) F dX1_seizeFirst_73 rfl rfl ?_
              refine r_dup F dX1_seizeFirst_74 rfl ?_
              refine gf_X1_74 F dX1_seizeFirst_75 hc ?_
              refine r_aload F dX1_seizeFirst_78 rfl ?_
              refine gf_X1_145 F dX1_seizeFirst_80 hc (by omega) (by omega) ?_
              refine r_iadd F dX1_seizeFirst_83 ?_
              refine pf_X1_74 F dX1_seizeFirst_84 hc ?_
              refine r_aload F dX1_seizeFirst_87 rfl ?_
              refine r_iconst F dX1_seizeFirst_89 ?_
              refine pf_X1_145 F dX1_seizeFirst_90 hc (by omega) (by omega) ?_
              refine r_aload F dX1_seizeFirst_93 rfl ?_
              refine r_iconst F dX1_seizeFirst_95 ?_
              refine pf_X1_130 F dX1_seizeFirst_96 hc (by omega) (by omega) ?_
              refine r_aload_n (i := 1) F dX1_seizeFirst_99 rfl rfl ?_
              refine r_dup F dX1_seizeFirst_100 rfl ?_
              refine gf_X1_175 F dX1_seizeFirst_101 hc (by omega) (by omega) ?_
              refine r_iconst F dX1_seizeFirst_104 ?_
              refine r_iadd F dX1_seizeFirst_105 ?_
              refine pf_X1_175 F dX1_seizeFirst_106 hc (by omega) (by omega) ?_
              exact r_vret F dX1_seizeFirst_109 rfl (congrArg (setc M k) (by have e := fst_at h0 (show catB S x j = true from (by unfold catB; simp [*]; try omega)) hb (n := (S 20 3).toNat) (by omega); unfold seizeS; rw [e, if_neg (by omega)] <;> rfl))
  refine r_aload_n (i := 1) F dX1_seizeFirst_0 rfl rfl ?_
  refine r_iload_n (i := 2) F dX1_seizeFirst_1 rfl rfl ?_
  refine r_callV F (C_X3_sightOfPlaces hc (by omega) (by omega)) dX1_seizeFirst_2 lkv_X1_167 rfl rfl (dm11 hc (by omega) (by omega)) rfl rfl cd_X3_sightOfPlaces (by decide) ⟨Nat.le_refl _, Nat.le_refl _⟩ (Nat.le_of_ble_eq_true rfl) ?_
  refine r_istore_n (i := 3) (lv1 := [_, _, _, _, _, _, _]) F dX1_seizeFirst_5 rfl (by decide) rfl rfl ?_
  refine r_iconst F dX1_seizeFirst_6 ?_
  refine r_istore (lv1 := [_, _, _, _, _, _, _]) F dX1_seizeFirst_7 (by decide) rfl rfl ?_
  exact loop (S 20 3).toNat 0 (by omega) (by omega) (fun i g1 g2 => by omega)

set_option maxHeartbeats 4000000 in
set_option maxRecDepth 100000 in
theorem C_X1_moveWatchmen {l : Launch} {cy : Nat → ClassId} {D : va_G} {ad : Nat → Nat → Int → Nat} {M : Mem} {k : Nat} {S : St} {mn : Int} (hc : k < 2) (hI : Inv S) (hmn : mn = mo S) : Ct l cy D ad yX1_moveWatchmen cX1_moveWatchmen 3 none 2 [.ref (ad 1 k 0), .int (i32 mn)] (setc M k S) none (setc M k (watchN S (S 20 2).toNat)) := by
  refine Ct.mk (lv := [some _, some _, none]) 1 (by decide) rfl (Nat.le_of_ble_eq_true rfl) (fun p e s m below meth c F => ?_)
  have loop : ∀ (n : Nat) (j : Int) (S1 : St), 0 ≤ j → j + (n : Int) = S 20 2 → S1 = watchN S j.toNat → V p l e (RM 2) s m ([.ref (ad 1 k 0), .int (i32 mn)] : List Value).toArray below meth c 3 cy D ad (Aw ad s.heap.size) 0 0 (MQ below (Qn cy D ad s.heap.size none (setc M k (watchN S (S 20 2).toNat))) ([.ref (ad 1 k 0), .int (i32 mn)] : List Value).toArray s 0 0 (Aw ad s.heap.size)) 2 [some (.ref (ad 1 k 0)), some (.int (i32 mn)), some (.int (i32 j))] [] (setc M k S1) := by
    intro n
    induction n with
    | zero =>
      intro j S1 h0 h1 hS
      have ic := hI.pc
      have hI1 : Inv S1 := by rw [hS]; exact watchN_inv hI _ (by omega)
      have e20 : ∀ i, i ≠ 4 → S1 20 i = S 20 i := fun i hi => by rw [hS, watchN_k (by decide) (by decide) (by decide) (Or.inr hi) (by decide) (by decide)]
      have e200 := e20 0 (by decide)
      have e202 := e20 2 (by decide)
      have hI2 : j < S1 20 2 → Inv (walkS S1 j) := fun h => walkS_inv hI1 h0 h
      have f20 : ∀ i, walkS S1 j 20 i = S1 20 i := fun i => walkS_k (by decide) (by decide)
      have f202 := f20 2
      have e2 : mn = mo (walkS S1 j) := by rw [hmn]; exact (mo_eq ((f20 0).trans e200)).symm
      refine r_iload_n (i := 2) F dX1_moveWatchmen_2 rfl rfl ?_
      refine r_aload_n (i := 0) F dX1_moveWatchmen_3 rfl rfl ?_
      refine gf_X1_55 F dX1_moveWatchmen_4 hc ?_
      refine r_icmp_ge (tgt := 36) F dX1_moveWatchmen_7 (by decide) (by first | assumption | exact ir_of (by omega) (by omega)) (by first | assumption | exact ir_of (by omega) (by omega)) (fun h7 => ?_) (fun h7 => ?_)
      · exact r_vret F dX1_moveWatchmen_36 rfl (by rw [hS, show j = S 20 2 by omega])
      · exfalso; omega
    | succ n ih =>
      intro j S1 h0 h1 hS
      have ic := hI.pc
      have hI1 : Inv S1 := by rw [hS]; exact watchN_inv hI _ (by omega)
      have e20 : ∀ i, i ≠ 4 → S1 20 i = S 20 i := fun i hi => by rw [hS, watchN_k (by decide) (by decide) (by decide) (Or.inr hi) (by decide) (by decide)]
      have e200 := e20 0 (by decide)
      have e202 := e20 2 (by decide)
      have hI2 : j < S1 20 2 → Inv (walkS S1 j) := fun h => walkS_inv hI1 h0 h
      have f20 : ∀ i, walkS S1 j 20 i = S1 20 i := fun i => walkS_k (by decide) (by decide)
      have f202 := f20 2
      have e2 : mn = mo (walkS S1 j) := by rw [hmn]; exact (mo_eq ((f20 0).trans e200)).symm
      refine r_iload_n (i := 2) F dX1_moveWatchmen_2 rfl rfl ?_
      refine r_aload_n (i := 0) F dX1_moveWatchmen_3 rfl rfl ?_
      refine gf_X1_55 F dX1_moveWatchmen_4 hc ?_
      refine r_icmp_ge (tgt := 36) F dX1_moveWatchmen_7 (by decide) (by first | assumption | exact ir_of (by omega) (by omega)) (by first | assumption | exact ir_of (by omega) (by omega)) (fun h7 => ?_) (fun h7 => ?_)
      · exfalso; omega
      · refine r_aload_n (i := 0) F dX1_moveWatchmen_10 rfl rfl ?_
        refine gf_X1_32 F dX1_moveWatchmen_11 hc ?_
        refine r_iload_n (i := 2) F dX1_moveWatchmen_14 rfl rfl ?_
        refine aa_7 F dX1_moveWatchmen_15 hc (by omega) (by omega) ?_
        refine r_callV F (C_X3_walk hc hI1 ⟨by omega, by omega⟩) dX1_moveWatchmen_16 lkv_X1_160 rfl rfl (dm11 hc (by omega) (by omega)) rfl rfl cd_X3_walk (by decide) ⟨Nat.le_refl _, Nat.le_refl _⟩ (Nat.le_of_ble_eq_true rfl) ?_
        refine r_aload_n (i := 0) F dX1_moveWatchmen_19 rfl rfl ?_
        refine r_aload_n (i := 0) F dX1_moveWatchmen_20 rfl rfl ?_
        refine gf_X1_32 F dX1_moveWatchmen_21 hc ?_
        refine r_iload_n (i := 2) F dX1_moveWatchmen_24 rfl rfl ?_
        refine aa_7 F dX1_moveWatchmen_25 hc (by omega) (by omega) ?_
        refine r_iload_n (i := 1) F dX1_moveWatchmen_26 rfl rfl ?_
        refine r_callV F (C_X1_seizeFirst hc (hI2 (by omega)) ⟨by omega, by omega⟩ e2) dX1_moveWatchmen_27 lkv_X1_163 rfl rfl (dm1 ⟨by decide, by decide⟩ hc) rfl rfl cd_X1_seizeFirst (by decide) ⟨Nat.le_refl _, Nat.le_refl _⟩ (Nat.le_of_ble_eq_true rfl) ?_
        refine r_iinc (lv1 := [_, _, _]) F dX1_moveWatchmen_30 rfl (by decide) rfl rfl ?_
        refine r_goto (tgt := 2) F dX1_moveWatchmen_33 (by decide) ?_
        exact ih (j + 1) _ (by omega) (by omega) (by rw [watchN_S _ h0, ← hS] <;> rfl)
  refine r_iconst F dX1_moveWatchmen_0 ?_
  refine r_istore_n (i := 2) (lv1 := [_, _, _]) F dX1_moveWatchmen_1 rfl (by decide) rfl rfl ?_
  exact loop (S 20 2).toNat 0 S (by have := hI.pc; omega) (by have := hI.pc; omega) rfl

set_option maxHeartbeats 4000000 in
set_option maxRecDepth 100000 in
theorem C_X1_passHour {l : Launch} {cy : Nat → ClassId} {D : va_G} {ad : Nat → Nat → Int → Nat} {M : Mem} {k : Nat} {S : St} (hc : k < 2) (hI : Inv S) (hh : 0 ≤ S 20 0 ∧ S 20 0 < 1000000) : Ct l cy D ad yX1_passHour cX1_passHour 3 none 3 [.ref (ad 1 k 0)] (setc M k S) none (setc M k (go S)) := by
  refine Ct.mk (lv := [some _, none, none]) 2 (by decide) rfl (Nat.le_of_ble_eq_true rfl) (fun p e s m below meth c F => ?_)
  have q1 : ∀ i, go1 S 20 i = S 20 i := fun i => go1_k (by decide) (by decide)
  have q2 : ∀ i, go2 S 20 i = S 20 i := fun i => go2_20
  have q3 := go3_20 (S := S) (i := 0) (by decide)
  have z2 : boatN (go1 S) (go1 S 20 3).toNat = go2 S := by rw [q1] <;> rfl
  have z3 : watchN (go2 S) (go2 S 20 2).toNat = go3 S := by rw [q2] <;> rfl
  refine r_aload_n (i := 0) F dX1_passHour_0 rfl rfl ?_
  refine r_callV F (C_X1_moonNow hc hh) dX1_passHour_1 lkv_X1_96 rfl rfl (dm1 ⟨by decide, by decide⟩ hc) rfl rfl cd_X1_moonNow (by decide) ⟨Nat.le_refl _, Nat.le_refl _⟩ (Nat.le_of_ble_eq_true rfl) ?_
  refine r_istore_n (i := 1) (lv1 := [_, _, _]) F dX1_passHour_4 rfl (by decide) rfl rfl ?_
  refine r_aload_n (i := 0) F dX1_passHour_5 rfl rfl ?_
  refine r_callV F (C_X1_hourOfNight hc hh) dX1_passHour_6 lkv_X1_100 rfl rfl (dm1 ⟨by decide, by decide⟩ hc) rfl rfl cd_X1_hourOfNight (by decide) ⟨Nat.le_refl _, Nat.le_refl _⟩ (Nat.le_of_ble_eq_true rfl) ?_
  refine r_istore_n (i := 2) (lv1 := [_, _, _]) F dX1_passHour_9 rfl (by decide) rfl rfl ?_
  refine r_aload_n (i := 0) F dX1_passHour_10 rfl rfl ?_
  refine r_iload_n (i := 2) F dX1_passHour_11 rfl rfl ?_
  refine r_iload_n (i := 1) F dX1_passHour_12 rfl rfl ?_
  refine r_callV F (C_X1_noteLanterns hc hI rfl rfl) dX1_passHour_13 lkv_X1_103 rfl rfl (dm1 ⟨by decide, by decide⟩ hc) rfl rfl cd_X1_noteLanterns (by decide) ⟨Nat.le_refl _, Nat.le_refl _⟩ (Nat.le_of_ble_eq_true rfl) ?_
  refine r_aload_n (i := 0) F dX1_passHour_16 rfl rfl ?_
  refine r_iload_n (i := 2) F dX1_passHour_17 rfl rfl ?_
  refine r_iload_n (i := 1) F dX1_passHour_18 rfl rfl ?_
  refine r_callV F (C_X1_moveBoats hc (go1_inv hI) (hn_eq (q1 0)).symm (mo_eq (q1 0)).symm) dX1_passHour_19 lkv_X1_107 rfl rfl (dm1 ⟨by decide, by decide⟩ hc) rfl rfl cd_X1_moveBoats (by decide) ⟨Nat.le_refl _, Nat.le_refl _⟩ (Nat.le_of_ble_eq_true rfl) ?_
  rw [z2]
  refine r_aload_n (i := 0) F dX1_passHour_22 rfl rfl ?_
  refine r_iload_n (i := 1) F dX1_passHour_23 rfl rfl ?_
  refine r_callV F (C_X1_moveWatchmen hc (go2_inv hI) (mo_eq (q2 0)).symm) dX1_passHour_24 lkv_X1_110 rfl rfl (dm1 ⟨by decide, by decide⟩ hc) rfl rfl cd_X1_moveWatchmen (by decide) ⟨Nat.le_refl _, Nat.le_refl _⟩ (Nat.le_of_ble_eq_true rfl) ?_
  rw [z3]
  refine r_aload_n (i := 0) F dX1_passHour_27 rfl rfl ?_
  refine r_dup F dX1_passHour_28 rfl ?_
  refine gf_X1_71 F dX1_passHour_29 hc ?_
  refine r_iconst F dX1_passHour_32 ?_
  refine r_iadd F dX1_passHour_33 ?_
  refine pf_X1_71 F dX1_passHour_34 hc ?_
  exact r_vret F dX1_passHour_37 rfl (congrArg (setc M k) (by rw [q3] <;> rfl))

set_option maxHeartbeats 4000000 in
set_option maxRecDepth 100000 in
theorem C_X1_letGoBy {l : Launch} {cy : Nat → ClassId} {D : va_G} {ad : Nat → Nat → Int → Nat} {M : Mem} {k : Nat} {S : St} {h : Int} (hc : k < 2) (hI : Inv S) (hh : 0 ≤ S 20 0 ∧ S 20 0 < 900000) (hx : 0 ≤ h ∧ h ≤ 60) : Ct l cy D ad yX1_letGoBy cX1_letGoBy 3 none 4 [.ref (ad 1 k 0), .int (i32 h)] (setc M k S) none (setc M k (goN S h.toNat)) := by
  refine Ct.mk (lv := [some _, some _, none]) 1 (by decide) rfl (Nat.le_of_ble_eq_true rfl) (fun p e s m below meth c F => ?_)
  have loop : ∀ (n : Nat) (j : Int) (S1 : St), 0 ≤ j → j + (n : Int) = h → S1 = goN S j.toNat → V p l e (RM 4) s m ([.ref (ad 1 k 0), .int (i32 h)] : List Value).toArray below meth c 3 cy D ad (Aw ad s.heap.size) 0 0 (MQ below (Qn cy D ad s.heap.size none (setc M k (goN S h.toNat))) ([.ref (ad 1 k 0), .int (i32 h)] : List Value).toArray s 0 0 (Aw ad s.heap.size)) 2 [some (.ref (ad 1 k 0)), some (.int (i32 h)), some (.int (i32 j))] [] (setc M k S1) := by
    intro n
    induction n with
    | zero =>
      intro j S1 h0 h1 hS
      have hI1 : Inv S1 := by rw [hS]; exact goN_inv hI _
      have e0 := goN_hour S j.toNat
      rw [← hS] at e0
      refine r_iload_n (i := 2) F dX1_letGoBy_2 rfl rfl ?_
      refine r_iload_n (i := 1) F dX1_letGoBy_3 rfl rfl ?_
      refine r_icmp_ge (tgt := 17) F dX1_letGoBy_4 (by decide) (by first | assumption | exact ir_of (by omega) (by omega)) (by first | assumption | exact ir_of (by omega) (by omega)) (fun h4 => ?_) (fun h4 => ?_)
      · exact r_vret F dX1_letGoBy_17 rfl (by rw [hS, show j = h by omega])
      · exfalso; omega
    | succ n ih =>
      intro j S1 h0 h1 hS
      have hI1 : Inv S1 := by rw [hS]; exact goN_inv hI _
      have e0 := goN_hour S j.toNat
      rw [← hS] at e0
      refine r_iload_n (i := 2) F dX1_letGoBy_2 rfl rfl ?_
      refine r_iload_n (i := 1) F dX1_letGoBy_3 rfl rfl ?_
      refine r_icmp_ge (tgt := 17) F dX1_letGoBy_4 (by decide) (by first | assumption | exact ir_of (by omega) (by omega)) (by first | assumption | exact ir_of (by omega) (by omega)) (fun h4 => ?_) (fun h4 => ?_)
      · exfalso; omega
      · refine r_aload_n (i := 0) F dX1_letGoBy_7 rfl rfl ?_
        refine r_callV F (C_X1_passHour hc hI1 (by omega)) dX1_letGoBy_8 lkv_X1_93 rfl rfl (dm1 ⟨by decide, by decide⟩ hc) rfl rfl cd_X1_passHour (by decide) ⟨Nat.le_refl _, Nat.le_refl _⟩ (Nat.le_of_ble_eq_true rfl) ?_
        refine r_iinc (lv1 := [_, _, _]) F dX1_letGoBy_11 rfl (by decide) rfl rfl ?_
        refine r_goto (tgt := 2) F dX1_letGoBy_14 (by decide) ?_
        exact ih (j + 1) _ (by omega) (by omega) (by rw [goN_S _ h0, ← hS])
  refine r_iconst F dX1_letGoBy_0 ?_
  refine r_istore_n (i := 2) (lv1 := [_, _, _]) F dX1_letGoBy_1 rfl (by decide) rfl rfl ?_
  exact loop h.toNat 0 S (by omega) (by omega) rfl
