/-! The law: its calls of the class, with what it catches. -/
def outM (M : Mem) (v : Int) : Mem := setc M 4 (u2 (M 4) 1 0 v)
theorem cw_L_setRoom : Cond.codeWith yL_setRoom cL_setRoom 5 (some .int) [(0, 10, 13, 13), (0, 10, 17, 15), (0, 10, 21, 17)] ∈ TB := tb_of 438 (by decide +kernel) (by decide +kernel)
set_option maxHeartbeats 4000000 in
set_option maxRecDepth 100000 in
theorem H_setRoom {l : Launch} {cy : Nat → ClassId} {D : va_G} {ad : Nat → Nat → Int → Nat} {M : Mem} {S : St} {x q : Int} (hl9 : l.stackTraces = false) (hI : Inv S) (hx9 : ir x) (hq9 : ir q) : Hx l cy D ad yL_setRoom cL_setRoom 5 (some .int) [(0, 10, 13, 13), (0, 10, 17, 15), (0, 10, 21, 17)] 8 [.ref (ad 0 0 0), .int (i32 x), .int (i32 q), .ref (ad 35 0 0)] (setc M 0 S) (some (.int (i32 (cSetRoom S x q)))) (if cSetRoom S x q = 0 then outM (setc M 0 (u2 S 0 x q)) (S 0 x) else setc M 0 S) := by
  have ic := hI.pc
  by_cases h0 : cSetRoom S x q = 0
  · rw [h0, if_pos rfl]
    refine Hx.mk (lv := [some _, some _, some _, some _, none]) 1 hl9 (by decide) rfl (Nat.le_of_ble_eq_true rfl) (fun p e s m below meth c F G htab => ?_)
    refine r_aload_n (i := 3) F dL_setRoom_0 rfl rfl ?_
    refine r_iconst F dL_setRoom_1 ?_
    refine r_aload_n (i := 0) F dL_setRoom_2 rfl rfl ?_
    refine r_iload_n (i := 1) F dL_setRoom_3 rfl rfl ?_
    refine r_iload_n (i := 2) F dL_setRoom_4 rfl rfl ?_
    refine r_callV F (C_X4_setRoom hI hx9 hq9 h0) dL_setRoom_5 lkv_L_7 rfl rfl rfl rfl rfl cd_X4_setRoom (by decide) ⟨Nat.zero_le _, Nat.zero_le _⟩ (Nat.le_of_ble_eq_true rfl) ?_
    refine r_i2l F dL_setRoom_8 ?_
    refine ls_35 F dL_setRoom_9 ?_
    refine r_goto (tgt := 25) F dL_setRoom_10 (by decide) ?_
    refine r_iconst F dL_setRoom_25 ?_
    refine V.wide (kc1 := 1) (ks1 := 6) (by decide) (by decide) ?_
    exact r_iret F dL_setRoom_26 rfl rfl rfl
  · rw [if_neg h0]
    have hc : cSetRoom S x q = 1 ∨ cSetRoom S x q = 2 ∨ cSetRoom S x q = 3 := by unfold cSetRoom at h0 ⊢; (repeat' split) <;> first | omega | (simp_all; done)
    rcases hc with hk | hk | hk
    · rw [hk]
      refine Hx.mk (lv := [some _, some _, some _, some _, none]) 1 hl9 (by decide) rfl (Nat.le_of_ble_eq_true rfl) (fun p e s m below meth c F G htab => ?_)
      refine r_aload_n (i := 3) F dL_setRoom_0 rfl rfl ?_
      refine r_iconst F dL_setRoom_1 ?_
      refine r_aload_n (i := 0) F dL_setRoom_2 rfl rfl ?_
      refine r_iload_n (i := 1) F dL_setRoom_3 rfl rfl ?_
      refine r_iload_n (i := 2) F dL_setRoom_4 rfl rfl ?_
      refine r_catchV (tgt := 13) F G htab [] ⟨0, 10, 13, 13⟩ [⟨0, 10, 17, 15⟩, ⟨0, 10, 21, 17⟩] rfl (fun z hz => absurd hz List.not_mem_nil) rfl rfl (by decide) tk_L_13 tc_eI (T_X4_setRoom hl9 hI hx9 hq9 h0 (show eI = exIAS (cSetRoom S x q) by rw [hk] <;> rfl)) dL_setRoom_5 lkv_L_7 rfl rfl rfl rfl rfl cd_X4_setRoom (by decide) ⟨Nat.le_refl _, Nat.le_refl _⟩ (Nat.le_of_ble_eq_true rfl) (fun q => ?_)
      refine r_astore (lv1 := [_, _, _, _, _]) F dL_setRoom_13 (by decide) rfl rfl ?_
      refine r_iconst F dL_setRoom_15 ?_
      exact r_iret F dL_setRoom_16 rfl rfl rfl
    · rw [hk]
      refine Hx.mk (lv := [some _, some _, some _, some _, none]) 1 hl9 (by decide) rfl (Nat.le_of_ble_eq_true rfl) (fun p e s m below meth c F G htab => ?_)
      refine r_aload_n (i := 3) F dL_setRoom_0 rfl rfl ?_
      refine r_iconst F dL_setRoom_1 ?_
      refine r_aload_n (i := 0) F dL_setRoom_2 rfl rfl ?_
      refine r_iload_n (i := 1) F dL_setRoom_3 rfl rfl ?_
      refine r_iload_n (i := 2) F dL_setRoom_4 rfl rfl ?_
      refine r_catchV (tgt := 17) F G htab [⟨0, 10, 13, 13⟩] ⟨0, 10, 17, 15⟩ [⟨0, 10, 21, 17⟩] rfl (fun z hz => by simp only [List.mem_cons, List.not_mem_nil, or_false] at hz; subst hz; exact ⟨by decide, eI, tk_L_13, G.2.1.2.2.2.2.1⟩) rfl rfl (by decide) tk_L_15 tc_eA (T_X4_setRoom hl9 hI hx9 hq9 h0 (show eA = exIAS (cSetRoom S x q) by rw [hk] <;> rfl)) dL_setRoom_5 lkv_L_7 rfl rfl rfl rfl rfl cd_X4_setRoom (by decide) ⟨Nat.le_refl _, Nat.le_refl _⟩ (Nat.le_of_ble_eq_true rfl) (fun q => ?_)
      refine r_astore (lv1 := [_, _, _, _, _]) F dL_setRoom_17 (by decide) rfl rfl ?_
      refine r_iconst F dL_setRoom_19 ?_
      exact r_iret F dL_setRoom_20 rfl rfl rfl
    · rw [hk]
      refine Hx.mk (lv := [some _, some _, some _, some _, none]) 1 hl9 (by decide) rfl (Nat.le_of_ble_eq_true rfl) (fun p e s m below meth c F G htab => ?_)
      refine r_aload_n (i := 3) F dL_setRoom_0 rfl rfl ?_
      refine r_iconst F dL_setRoom_1 ?_
      refine r_aload_n (i := 0) F dL_setRoom_2 rfl rfl ?_
      refine r_iload_n (i := 1) F dL_setRoom_3 rfl rfl ?_
      refine r_iload_n (i := 2) F dL_setRoom_4 rfl rfl ?_
      refine r_catchV (tgt := 21) F G htab [⟨0, 10, 13, 13⟩, ⟨0, 10, 17, 15⟩] ⟨0, 10, 21, 17⟩ [] rfl (fun z hz => by simp only [List.mem_cons, List.not_mem_nil, or_false] at hz; rcases hz with rfl | rfl <;> first | exact ⟨by decide, eI, tk_L_13, G.2.1.2.2.2.2.2.2.1⟩ | exact ⟨by decide, eA, tk_L_15, G.2.1.2.2.2.2.2.2.2⟩) rfl rfl (by decide) tk_L_17 tc_eS (T_X4_setRoom hl9 hI hx9 hq9 h0 (show eS = exIAS (cSetRoom S x q) by rw [hk] <;> rfl)) dL_setRoom_5 lkv_L_7 rfl rfl rfl rfl rfl cd_X4_setRoom (by decide) ⟨Nat.le_refl _, Nat.le_refl _⟩ (Nat.le_of_ble_eq_true rfl) (fun q => ?_)
      refine r_astore (lv1 := [_, _, _, _, _]) F dL_setRoom_21 (by decide) rfl rfl ?_
      refine r_iconst F dL_setRoom_23 ?_
      exact r_iret F dL_setRoom_24 rfl rfl rfl
theorem cw_L_setCode : Cond.codeWith yL_setCode cL_setCode 5 (some .int) [(0, 10, 13, 13)] ∈ TB := tb_of 480 (by decide +kernel) (by decide +kernel)
set_option maxHeartbeats 4000000 in
set_option maxRecDepth 100000 in
theorem H_setCode {l : Launch} {cy : Nat → ClassId} {D : va_G} {ad : Nat → Nat → Int → Nat} {M : Mem} {S : St} {x q : Int} (hl9 : l.stackTraces = false) (hI : Inv S) (hx9 : ir x) (hq9 : ir q) : Hx l cy D ad yL_setCode cL_setCode 5 (some .int) [(0, 10, 13, 13)] 8 [.ref (ad 0 0 0), .int (i32 x), .int (i32 q), .ref (ad 35 0 0)] (setc M 0 S) (some (.int (i32 (cSetCode x q)))) (if cSetCode x q = 0 then outM (setc M 0 (u2 (u2 S 2 x q) 3 x 0)) (S 2 x) else setc M 0 S) := by
  have ic := hI.pc
  by_cases h0 : cSetCode x q = 0
  · rw [h0, if_pos rfl]
    refine Hx.mk (lv := [some _, some _, some _, some _, none]) 1 hl9 (by decide) rfl (Nat.le_of_ble_eq_true rfl) (fun p e s m below meth c F G htab => ?_)
    refine r_aload_n (i := 3) F dL_setCode_0 rfl rfl ?_
    refine r_iconst F dL_setCode_1 ?_
    refine r_aload_n (i := 0) F dL_setCode_2 rfl rfl ?_
    refine r_iload_n (i := 1) F dL_setCode_3 rfl rfl ?_
    refine r_iload_n (i := 2) F dL_setCode_4 rfl rfl ?_
    refine r_callV F (C_X4_setCode hI hx9 hq9 h0) dL_setCode_5 lkv_L_19 rfl rfl rfl rfl rfl cd_X4_setCode (by decide) ⟨Nat.zero_le _, Nat.zero_le _⟩ (Nat.le_of_ble_eq_true rfl) ?_
    refine r_i2l F dL_setCode_8 ?_
    refine ls_35 F dL_setCode_9 ?_
    refine r_goto (tgt := 17) F dL_setCode_10 (by decide) ?_
    refine r_iconst F dL_setCode_17 ?_
    refine V.wide (kc1 := 1) (ks1 := 6) (by decide) (by decide) ?_
    exact r_iret F dL_setCode_18 rfl rfl rfl
  · rw [if_neg h0]
    have hc : cSetCode x q = 1 := by unfold cSetCode at h0 ⊢; (repeat' split) <;> first | omega | (simp_all; done)
    have hk := hc
    rw [hk]
    refine Hx.mk (lv := [some _, some _, some _, some _, none]) 1 hl9 (by decide) rfl (Nat.le_of_ble_eq_true rfl) (fun p e s m below meth c F G htab => ?_)
    refine r_aload_n (i := 3) F dL_setCode_0 rfl rfl ?_
    refine r_iconst F dL_setCode_1 ?_
    refine r_aload_n (i := 0) F dL_setCode_2 rfl rfl ?_
    refine r_iload_n (i := 1) F dL_setCode_3 rfl rfl ?_
    refine r_iload_n (i := 2) F dL_setCode_4 rfl rfl ?_
    refine r_catchV (tgt := 13) F G htab [] ⟨0, 10, 13, 13⟩ [] rfl (fun z hz => absurd hz List.not_mem_nil) rfl rfl (by decide) tk_L_13 tc_eI (T_X4_setCode hl9 hI hx9 hq9 h0 (show eI = exI (cSetCode x q) by rw [hk] <;> rfl)) dL_setCode_5 lkv_L_19 rfl rfl rfl rfl rfl cd_X4_setCode (by decide) ⟨Nat.le_refl _, Nat.le_refl _⟩ (Nat.le_of_ble_eq_true rfl) (fun q => ?_)
    refine r_astore (lv1 := [_, _, _, _, _]) F dL_setCode_13 (by decide) rfl rfl ?_
    refine r_iconst F dL_setCode_15 ?_
    exact r_iret F dL_setCode_16 rfl rfl rfl
theorem cw_L_lantern : Cond.codeWith yL_lantern cL_lantern 4 (some .int) [(0, 9, 12, 13), (0, 9, 15, 17)] ∈ TB := tb_of 491 (by decide +kernel) (by decide +kernel)
set_option maxHeartbeats 4000000 in
set_option maxRecDepth 100000 in
theorem H_lantern {l : Launch} {cy : Nat → ClassId} {D : va_G} {ad : Nat → Nat → Int → Nat} {M : Mem} {S : St} {x : Int} (hl9 : l.stackTraces = false) (hI : Inv S) (hx9 : ir x) : Hx l cy D ad yL_lantern cL_lantern 4 (some .int) [(0, 9, 12, 13), (0, 9, 15, 17)] 8 [.ref (ad 0 0 0), .int (i32 x), .ref (ad 35 0 0)] (setc M 0 S) (some (.int (i32 (cLantern S x)))) (if cLantern S x = 0 then outM (setc M 0 (sLantern S x)) (S 20 1) else setc M 0 S) := by
  have ic := hI.pc
  by_cases h0 : cLantern S x = 0
  · rw [h0, if_pos rfl]
    refine Hx.mk (lv := [some _, some _, some _, none]) 1 hl9 (by decide) rfl (Nat.le_of_ble_eq_true rfl) (fun p e s m below meth c F G htab => ?_)
    refine r_aload_n (i := 2) F dL_lantern_0 rfl rfl ?_
    refine r_iconst F dL_lantern_1 ?_
    refine r_aload_n (i := 0) F dL_lantern_2 rfl rfl ?_
    refine r_iload_n (i := 1) F dL_lantern_3 rfl rfl ?_
    refine r_callV F (C_X4_lantern hI hx9 h0) dL_lantern_4 lkv_L_22 rfl rfl rfl rfl rfl cd_X4_lantern (by decide) ⟨Nat.zero_le _, Nat.zero_le _⟩ (Nat.le_of_ble_eq_true rfl) ?_
    refine r_i2l F dL_lantern_7 ?_
    refine ls_35 F dL_lantern_8 ?_
    refine r_goto (tgt := 18) F dL_lantern_9 (by decide) ?_
    refine r_iconst F dL_lantern_18 ?_
    refine V.wide (kc1 := 1) (ks1 := 6) (by decide) (by decide) ?_
    exact r_iret F dL_lantern_19 rfl rfl rfl
  · rw [if_neg h0]
    have hc : cLantern S x = 1 ∨ cLantern S x = 2 := by unfold cLantern at h0 ⊢; (repeat' split) <;> first | omega | (simp_all; done)
    rcases hc with hk | hk
    · rw [hk]
      refine Hx.mk (lv := [some _, some _, some _, none]) 1 hl9 (by decide) rfl (Nat.le_of_ble_eq_true rfl) (fun p e s m below meth c F G htab => ?_)
      refine r_aload_n (i := 2) F dL_lantern_0 rfl rfl ?_
      refine r_iconst F dL_lantern_1 ?_
      refine r_aload_n (i := 0) F dL_lantern_2 rfl rfl ?_
      refine r_iload_n (i := 1) F dL_lantern_3 rfl rfl ?_
      refine r_catchV (tgt := 12) F G htab [] ⟨0, 9, 12, 13⟩ [⟨0, 9, 15, 17⟩] rfl (fun z hz => absurd hz List.not_mem_nil) rfl rfl (by decide) tk_L_13 tc_eI (T_X4_lantern hl9 hI hx9 h0 (show eI = exIS (cLantern S x) by rw [hk] <;> rfl)) dL_lantern_4 lkv_L_22 rfl rfl rfl rfl rfl cd_X4_lantern (by decide) ⟨Nat.le_refl _, Nat.le_refl _⟩ (Nat.le_of_ble_eq_true rfl) (fun q => ?_)
      refine r_astore_n (i := 3) (lv1 := [_, _, _, _]) F dL_lantern_12 rfl (by decide) rfl rfl ?_
      refine r_iconst F dL_lantern_13 ?_
      exact r_iret F dL_lantern_14 rfl rfl rfl
    · rw [hk]
      refine Hx.mk (lv := [some _, some _, some _, none]) 1 hl9 (by decide) rfl (Nat.le_of_ble_eq_true rfl) (fun p e s m below meth c F G htab => ?_)
      refine r_aload_n (i := 2) F dL_lantern_0 rfl rfl ?_
      refine r_iconst F dL_lantern_1 ?_
      refine r_aload_n (i := 0) F dL_lantern_2 rfl rfl ?_
      refine r_iload_n (i := 1) F dL_lantern_3 rfl rfl ?_
      refine r_catchV (tgt := 15) F G htab [⟨0, 9, 12, 13⟩] ⟨0, 9, 15, 17⟩ [] rfl (fun z hz => by simp only [List.mem_cons, List.not_mem_nil, or_false] at hz; subst hz; exact ⟨by decide, eI, tk_L_13, G.2.1.2.2.2.2.2.2.1⟩) rfl rfl (by decide) tk_L_17 tc_eS (T_X4_lantern hl9 hI hx9 h0 (show eS = exIS (cLantern S x) by rw [hk] <;> rfl)) dL_lantern_4 lkv_L_22 rfl rfl rfl rfl rfl cd_X4_lantern (by decide) ⟨Nat.le_refl _, Nat.le_refl _⟩ (Nat.le_of_ble_eq_true rfl) (fun q => ?_)
      refine r_astore_n (i := 3) (lv1 := [_, _, _, _]) F dL_lantern_15 rfl (by decide) rfl rfl ?_
      refine r_iconst F dL_lantern_16 ?_
      exact r_iret F dL_lantern_17 rfl rfl rfl
theorem cw_L_setShow : Cond.codeWith yL_setShow cL_setShow 6 (some .int) [(0, 12, 15, 13), (0, 12, 19, 15)] ∈ TB := tb_of 504 (by decide +kernel) (by decide +kernel)
set_option maxHeartbeats 4000000 in
set_option maxRecDepth 100000 in
theorem H_setShow {l : Launch} {cy : Nat → ClassId} {D : va_G} {ad : Nat → Nat → Int → Nat} {M : Mem} {S : St} {x w q : Int} (hl9 : l.stackTraces = false) (hI : Inv S) (hx9 : ir x) (hw9 : ir w) (hq9 : ir q) : Hx l cy D ad yL_setShow cL_setShow 6 (some .int) [(0, 12, 15, 13), (0, 12, 19, 15)] 8 [.ref (ad 0 0 0), .int (i32 x), .int (i32 w), .int (i32 q), .ref (ad 35 0 0)] (setc M 0 S) (some (.int (i32 (cSetShow S x w q)))) (if cSetShow S x w q = 0 then outM (setc M 0 (u2 S 5 (10 * x + w) q)) (S 5 (10 * x + w)) else setc M 0 S) := by
  have ic := hI.pc
  by_cases h0 : cSetShow S x w q = 0
  · rw [h0, if_pos rfl]
    refine Hx.mk (lv := [some _, some _, some _, some _, some _, none]) 1 hl9 (by decide) rfl (Nat.le_of_ble_eq_true rfl) (fun p e s m below meth c F G htab => ?_)
    refine r_aload F dL_setShow_0 rfl ?_
    refine r_iconst F dL_setShow_2 ?_
    refine r_aload_n (i := 0) F dL_setShow_3 rfl rfl ?_
    refine r_iload_n (i := 1) F dL_setShow_4 rfl rfl ?_
    refine r_iload_n (i := 2) F dL_setShow_5 rfl rfl ?_
    refine r_iload_n (i := 3) F dL_setShow_6 rfl rfl ?_
    refine r_callV F (C_X4_setShow hI hx9 hw9 hq9 h0) dL_setShow_7 lkv_L_26 rfl rfl rfl rfl rfl cd_X4_setShow (by decide) ⟨Nat.zero_le _, Nat.zero_le _⟩ (Nat.le_of_ble_eq_true rfl) ?_
    refine r_i2l F dL_setShow_10 ?_
    refine ls_35 F dL_setShow_11 ?_
    refine r_goto (tgt := 23) F dL_setShow_12 (by decide) ?_
    refine r_iconst F dL_setShow_23 ?_
    refine V.wide (kc1 := 1) (ks1 := 6) (by decide) (by decide) ?_
    exact r_iret F dL_setShow_24 rfl rfl rfl
  · rw [if_neg h0]
    have hc : cSetShow S x w q = 1 ∨ cSetShow S x w q = 2 := by unfold cSetShow at h0 ⊢; (repeat' split) <;> first | omega | (simp_all; done)
    rcases hc with hk | hk
    · rw [hk]
      refine Hx.mk (lv := [some _, some _, some _, some _, some _, none]) 1 hl9 (by decide) rfl (Nat.le_of_ble_eq_true rfl) (fun p e s m below meth c F G htab => ?_)
      refine r_aload F dL_setShow_0 rfl ?_
      refine r_iconst F dL_setShow_2 ?_
      refine r_aload_n (i := 0) F dL_setShow_3 rfl rfl ?_
      refine r_iload_n (i := 1) F dL_setShow_4 rfl rfl ?_
      refine r_iload_n (i := 2) F dL_setShow_5 rfl rfl ?_
      refine r_iload_n (i := 3) F dL_setShow_6 rfl rfl ?_
      refine r_catchV (tgt := 15) F G htab [] ⟨0, 12, 15, 13⟩ [⟨0, 12, 19, 15⟩] rfl (fun z hz => absurd hz List.not_mem_nil) rfl rfl (by decide) tk_L_13 tc_eI (T_X4_setShow hl9 hI hx9 hw9 hq9 h0 (show eI = exIA (cSetShow S x w q) by rw [hk] <;> rfl)) dL_setShow_7 lkv_L_26 rfl rfl rfl rfl rfl cd_X4_setShow (by decide) ⟨Nat.le_refl _, Nat.le_refl _⟩ (Nat.le_of_ble_eq_true rfl) (fun q => ?_)
      refine r_astore (lv1 := [_, _, _, _, _, _]) F dL_setShow_15 (by decide) rfl rfl ?_
      refine r_iconst F dL_setShow_17 ?_
      exact r_iret F dL_setShow_18 rfl rfl rfl
    · rw [hk]
      refine Hx.mk (lv := [some _, some _, some _, some _, some _, none]) 1 hl9 (by decide) rfl (Nat.le_of_ble_eq_true rfl) (fun p e s m below meth c F G htab => ?_)
      refine r_aload F dL_setShow_0 rfl ?_
      refine r_iconst F dL_setShow_2 ?_
      refine r_aload_n (i := 0) F dL_setShow_3 rfl rfl ?_
      refine r_iload_n (i := 1) F dL_setShow_4 rfl rfl ?_
      refine r_iload_n (i := 2) F dL_setShow_5 rfl rfl ?_
      refine r_iload_n (i := 3) F dL_setShow_6 rfl rfl ?_
      refine r_catchV (tgt := 19) F G htab [⟨0, 12, 15, 13⟩] ⟨0, 12, 19, 15⟩ [] rfl (fun z hz => by simp only [List.mem_cons, List.not_mem_nil, or_false] at hz; subst hz; exact ⟨by decide, eI, tk_L_13, G.2.1.2.2.2.2.1⟩) rfl rfl (by decide) tk_L_15 tc_eA (T_X4_setShow hl9 hI hx9 hw9 hq9 h0 (show eA = exIA (cSetShow S x w q) by rw [hk] <;> rfl)) dL_setShow_7 lkv_L_26 rfl rfl rfl rfl rfl cd_X4_setShow (by decide) ⟨Nat.le_refl _, Nat.le_refl _⟩ (Nat.le_of_ble_eq_true rfl) (fun q => ?_)
      refine r_astore (lv1 := [_, _, _, _, _, _]) F dL_setShow_19 (by decide) rfl rfl ?_
      refine r_iconst F dL_setShow_21 ?_
      exact r_iret F dL_setShow_22 rfl rfl rfl
theorem cw_L_watchman : Cond.codeWith yL_watchman cL_watchman 6 (some .int) [(0, 12, 15, 13), (0, 12, 19, 15), (0, 12, 23, 17)] ∈ TB := tb_of 513 (by decide +kernel) (by decide +kernel)
set_option maxHeartbeats 4000000 in
set_option maxRecDepth 100000 in
theorem H_watchman {l : Launch} {cy : Nat → ClassId} {D : va_G} {ad : Nat → Nat → Int → Nat} {M : Mem} {S : St} {f t g : Int} (hl9 : l.stackTraces = false) (hI : Inv S) (hf9 : ir f) (ht9 : ir t) (hg9 : ir g) : Hx l cy D ad yL_watchman cL_watchman 6 (some .int) [(0, 12, 15, 13), (0, 12, 19, 15), (0, 12, 23, 17)] 8 [.ref (ad 0 0 0), .int (i32 f), .int (i32 t), .int (i32 g), .ref (ad 35 0 0)] (setc M 0 S) (some (.int (i32 (cWatch S f t g)))) (if cWatch S f t g = 0 then outM (setc M 0 (sWatch S f t g)) (S 20 2) else setc M 0 S) := by
  have ic := hI.pc
  by_cases h0 : cWatch S f t g = 0
  · rw [h0, if_pos rfl]
    refine Hx.mk (lv := [some _, some _, some _, some _, some _, none]) 1 hl9 (by decide) rfl (Nat.le_of_ble_eq_true rfl) (fun p e s m below meth c F G htab => ?_)
    refine r_aload F dL_watchman_0 rfl ?_
    refine r_iconst F dL_watchman_2 ?_
    refine r_aload_n (i := 0) F dL_watchman_3 rfl rfl ?_
    refine r_iload_n (i := 1) F dL_watchman_4 rfl rfl ?_
    refine r_iload_n (i := 2) F dL_watchman_5 rfl rfl ?_
    refine r_iload_n (i := 3) F dL_watchman_6 rfl rfl ?_
    refine r_callV F (C_X4_watchman hI hf9 ht9 hg9 h0) dL_watchman_7 lkv_L_30 rfl rfl rfl rfl rfl cd_X4_watchman (by decide) ⟨Nat.zero_le _, Nat.zero_le _⟩ (Nat.le_of_ble_eq_true rfl) ?_
    refine r_i2l F dL_watchman_10 ?_
    refine ls_35 F dL_watchman_11 ?_
    refine r_goto (tgt := 27) F dL_watchman_12 (by decide) ?_
    refine r_iconst F dL_watchman_27 ?_
    refine V.wide (kc1 := 1) (ks1 := 6) (by decide) (by decide) ?_
    exact r_iret F dL_watchman_28 rfl rfl rfl
  · rw [if_neg h0]
    have hc : cWatch S f t g = 1 ∨ cWatch S f t g = 2 ∨ cWatch S f t g = 3 := by unfold cWatch at h0 ⊢; (repeat' split) <;> first | omega | (simp_all; done)
    rcases hc with hk | hk | hk
    · rw [hk]
      refine Hx.mk (lv := [some _, some _, some _, some _, some _, none]) 1 hl9 (by decide) rfl (Nat.le_of_ble_eq_true rfl) (fun p e s m below meth c F G htab => ?_)
      refine r_aload F dL_watchman_0 rfl ?_
      refine r_iconst F dL_watchman_2 ?_
      refine r_aload_n (i := 0) F dL_watchman_3 rfl rfl ?_
      refine r_iload_n (i := 1) F dL_watchman_4 rfl rfl ?_
      refine r_iload_n (i := 2) F dL_watchman_5 rfl rfl ?_
      refine r_iload_n (i := 3) F dL_watchman_6 rfl rfl ?_
      refine r_catchV (tgt := 15) F G htab [] ⟨0, 12, 15, 13⟩ [⟨0, 12, 19, 15⟩, ⟨0, 12, 23, 17⟩] rfl (fun z hz => absurd hz List.not_mem_nil) rfl rfl (by decide) tk_L_13 tc_eI (T_X4_watchman hl9 hI hf9 ht9 hg9 h0 (show eI = exIAS (cWatch S f t g) by rw [hk] <;> rfl)) dL_watchman_7 lkv_L_30 rfl rfl rfl rfl rfl cd_X4_watchman (by decide) ⟨Nat.le_refl _, Nat.le_refl _⟩ (Nat.le_of_ble_eq_true rfl) (fun q => ?_)
      refine r_astore (lv1 := [_, _, _, _, _, _]) F dL_watchman_15 (by decide) rfl rfl ?_
      refine r_iconst F dL_watchman_17 ?_
      exact r_iret F dL_watchman_18 rfl rfl rfl
    · rw [hk]
      refine Hx.mk (lv := [some _, some _, some _, some _, some _, none]) 1 hl9 (by decide) rfl (Nat.le_of_ble_eq_true rfl) (fun p e s m below meth c F G htab => ?_)
      refine r_aload F dL_watchman_0 rfl ?_
      refine r_iconst F dL_watchman_2 ?_
      refine r_aload_n (i := 0) F dL_watchman_3 rfl rfl ?_
      refine r_iload_n (i := 1) F dL_watchman_4 rfl rfl ?_
      refine r_iload_n (i := 2) F dL_watchman_5 rfl rfl ?_
      refine r_iload_n (i := 3) F dL_watchman_6 rfl rfl ?_
      refine r_catchV (tgt := 19) F G htab [⟨0, 12, 15, 13⟩] ⟨0, 12, 19, 15⟩ [⟨0, 12, 23, 17⟩] rfl (fun z hz => by simp only [List.mem_cons, List.not_mem_nil, or_false] at hz; subst hz; exact ⟨by decide, eI, tk_L_13, G.2.1.2.2.2.2.1⟩) rfl rfl (by decide) tk_L_15 tc_eA (T_X4_watchman hl9 hI hf9 ht9 hg9 h0 (show eA = exIAS (cWatch S f t g) by rw [hk] <;> rfl)) dL_watchman_7 lkv_L_30 rfl rfl rfl rfl rfl cd_X4_watchman (by decide) ⟨Nat.le_refl _, Nat.le_refl _⟩ (Nat.le_of_ble_eq_true rfl) (fun q => ?_)
      refine r_astore (lv1 := [_, _, _, _, _, _]) F dL_watchman_19 (by decide) rfl rfl ?_
      refine r_iconst F dL_watchman_21 ?_
      exact r_iret F dL_watchman_22 rfl rfl rfl
    · rw [hk]
      refine Hx.mk (lv := [some _, some _, some _, some _, some _, none]) 1 hl9 (by decide) rfl (Nat.le_of_ble_eq_true rfl) (fun p e s m below meth c F G htab => ?_)
      refine r_aload F dL_watchman_0 rfl ?_
      refine r_iconst F dL_watchman_2 ?_
      refine r_aload_n (i := 0) F dL_watchman_3 rfl rfl ?_
      refine r_iload_n (i := 1) F dL_watchman_4 rfl rfl ?_
      refine r_iload_n (i := 2) F dL_watchman_5 rfl rfl ?_
      refine r_iload_n (i := 3) F dL_watchman_6 rfl rfl ?_
      refine r_catchV (tgt := 23) F G htab [⟨0, 12, 15, 13⟩, ⟨0, 12, 19, 15⟩] ⟨0, 12, 23, 17⟩ [] rfl (fun z hz => by simp only [List.mem_cons, List.not_mem_nil, or_false] at hz; rcases hz with rfl | rfl <;> first | exact ⟨by decide, eI, tk_L_13, G.2.1.2.2.2.2.2.2.1⟩ | exact ⟨by decide, eA, tk_L_15, G.2.1.2.2.2.2.2.2.2⟩) rfl rfl (by decide) tk_L_17 tc_eS (T_X4_watchman hl9 hI hf9 ht9 hg9 h0 (show eS = exIAS (cWatch S f t g) by rw [hk] <;> rfl)) dL_watchman_7 lkv_L_30 rfl rfl rfl rfl rfl cd_X4_watchman (by decide) ⟨Nat.le_refl _, Nat.le_refl _⟩ (Nat.le_of_ble_eq_true rfl) (fun q => ?_)
      refine r_astore (lv1 := [_, _, _, _, _, _]) F dL_watchman_23 (by decide) rfl rfl ?_
      refine r_iconst F dL_watchman_25 ?_
      exact r_iret F dL_watchman_26 rfl rfl rfl
theorem cw_L_boat : Cond.codeWith yL_boat cL_boat 5 (some .int) [(0, 10, 13, 13), (0, 10, 17, 15), (0, 10, 21, 17)] ∈ TB := tb_of 527 (by decide +kernel) (by decide +kernel)
set_option maxHeartbeats 4000000 in
set_option maxRecDepth 100000 in
theorem H_boat {l : Launch} {cy : Nat → ClassId} {D : va_G} {ad : Nat → Nat → Int → Nat} {M : Mem} {S : St} {x q : Int} (hl9 : l.stackTraces = false) (hI : Inv S) (hx9 : ir x) (hq9 : ir q) : Hx l cy D ad yL_boat cL_boat 5 (some .int) [(0, 10, 13, 13), (0, 10, 17, 15), (0, 10, 21, 17)] 8 [.ref (ad 0 0 0), .int (i32 x), .int (i32 q), .ref (ad 35 0 0)] (setc M 0 S) (some (.int (i32 (cBoat S x q)))) (if cBoat S x q = 0 then outM (setc M 0 (sBoat S x q)) (S 20 3) else setc M 0 S) := by
  have ic := hI.pc
  by_cases h0 : cBoat S x q = 0
  · rw [h0, if_pos rfl]
    refine Hx.mk (lv := [some _, some _, some _, some _, none]) 1 hl9 (by decide) rfl (Nat.le_of_ble_eq_true rfl) (fun p e s m below meth c F G htab => ?_)
    refine r_aload_n (i := 3) F dL_boat_0 rfl rfl ?_
    refine r_iconst F dL_boat_1 ?_
    refine r_aload_n (i := 0) F dL_boat_2 rfl rfl ?_
    refine r_iload_n (i := 1) F dL_boat_3 rfl rfl ?_
    refine r_iload_n (i := 2) F dL_boat_4 rfl rfl ?_
    refine r_callV F (C_X4_boat hI hx9 hq9 h0) dL_boat_5 lkv_L_33 rfl rfl rfl rfl rfl cd_X4_boat (by decide) ⟨Nat.zero_le _, Nat.zero_le _⟩ (Nat.le_of_ble_eq_true rfl) ?_
    refine r_i2l F dL_boat_8 ?_
    refine ls_35 F dL_boat_9 ?_
    refine r_goto (tgt := 25) F dL_boat_10 (by decide) ?_
    refine r_iconst F dL_boat_25 ?_
    refine V.wide (kc1 := 1) (ks1 := 6) (by decide) (by decide) ?_
    exact r_iret F dL_boat_26 rfl rfl rfl
  · rw [if_neg h0]
    have hc : cBoat S x q = 1 ∨ cBoat S x q = 2 ∨ cBoat S x q = 3 := by unfold cBoat at h0 ⊢; (repeat' split) <;> first | omega | (simp_all; done)
    rcases hc with hk | hk | hk
    · rw [hk]
      refine Hx.mk (lv := [some _, some _, some _, some _, none]) 1 hl9 (by decide) rfl (Nat.le_of_ble_eq_true rfl) (fun p e s m below meth c F G htab => ?_)
      refine r_aload_n (i := 3) F dL_boat_0 rfl rfl ?_
      refine r_iconst F dL_boat_1 ?_
      refine r_aload_n (i := 0) F dL_boat_2 rfl rfl ?_
      refine r_iload_n (i := 1) F dL_boat_3 rfl rfl ?_
      refine r_iload_n (i := 2) F dL_boat_4 rfl rfl ?_
      refine r_catchV (tgt := 13) F G htab [] ⟨0, 10, 13, 13⟩ [⟨0, 10, 17, 15⟩, ⟨0, 10, 21, 17⟩] rfl (fun z hz => absurd hz List.not_mem_nil) rfl rfl (by decide) tk_L_13 tc_eI (T_X4_boat hl9 hI hx9 hq9 h0 (show eI = exIAS (cBoat S x q) by rw [hk] <;> rfl)) dL_boat_5 lkv_L_33 rfl rfl rfl rfl rfl cd_X4_boat (by decide) ⟨Nat.le_refl _, Nat.le_refl _⟩ (Nat.le_of_ble_eq_true rfl) (fun q => ?_)
      refine r_astore (lv1 := [_, _, _, _, _]) F dL_boat_13 (by decide) rfl rfl ?_
      refine r_iconst F dL_boat_15 ?_
      exact r_iret F dL_boat_16 rfl rfl rfl
    · rw [hk]
      refine Hx.mk (lv := [some _, some _, some _, some _, none]) 1 hl9 (by decide) rfl (Nat.le_of_ble_eq_true rfl) (fun p e s m below meth c F G htab => ?_)
      refine r_aload_n (i := 3) F dL_boat_0 rfl rfl ?_
      refine r_iconst F dL_boat_1 ?_
      refine r_aload_n (i := 0) F dL_boat_2 rfl rfl ?_
      refine r_iload_n (i := 1) F dL_boat_3 rfl rfl ?_
      refine r_iload_n (i := 2) F dL_boat_4 rfl rfl ?_
      refine r_catchV (tgt := 17) F G htab [⟨0, 10, 13, 13⟩] ⟨0, 10, 17, 15⟩ [⟨0, 10, 21, 17⟩] rfl (fun z hz => by simp only [List.mem_cons, List.not_mem_nil, or_false] at hz; subst hz; exact ⟨by decide, eI, tk_L_13, G.2.1.2.2.2.2.1⟩) rfl rfl (by decide) tk_L_15 tc_eA (T_X4_boat hl9 hI hx9 hq9 h0 (show eA = exIAS (cBoat S x q) by rw [hk] <;> rfl)) dL_boat_5 lkv_L_33 rfl rfl rfl rfl rfl cd_X4_boat (by decide) ⟨Nat.le_refl _, Nat.le_refl _⟩ (Nat.le_of_ble_eq_true rfl) (fun q => ?_)
      refine r_astore (lv1 := [_, _, _, _, _]) F dL_boat_17 (by decide) rfl rfl ?_
      refine r_iconst F dL_boat_19 ?_
      exact r_iret F dL_boat_20 rfl rfl rfl
    · rw [hk]
      refine Hx.mk (lv := [some _, some _, some _, some _, none]) 1 hl9 (by decide) rfl (Nat.le_of_ble_eq_true rfl) (fun p e s m below meth c F G htab => ?_)
      refine r_aload_n (i := 3) F dL_boat_0 rfl rfl ?_
      refine r_iconst F dL_boat_1 ?_
      refine r_aload_n (i := 0) F dL_boat_2 rfl rfl ?_
      refine r_iload_n (i := 1) F dL_boat_3 rfl rfl ?_
      refine r_iload_n (i := 2) F dL_boat_4 rfl rfl ?_
      refine r_catchV (tgt := 21) F G htab [⟨0, 10, 13, 13⟩, ⟨0, 10, 17, 15⟩] ⟨0, 10, 21, 17⟩ [] rfl (fun z hz => by simp only [List.mem_cons, List.not_mem_nil, or_false] at hz; rcases hz with rfl | rfl <;> first | exact ⟨by decide, eI, tk_L_13, G.2.1.2.2.2.2.2.2.1⟩ | exact ⟨by decide, eA, tk_L_15, G.2.1.2.2.2.2.2.2.2⟩) rfl rfl (by decide) tk_L_17 tc_eS (T_X4_boat hl9 hI hx9 hq9 h0 (show eS = exIAS (cBoat S x q) by rw [hk] <;> rfl)) dL_boat_5 lkv_L_33 rfl rfl rfl rfl rfl cd_X4_boat (by decide) ⟨Nat.le_refl _, Nat.le_refl _⟩ (Nat.le_of_ble_eq_true rfl) (fun q => ?_)
      refine r_astore (lv1 := [_, _, _, _, _]) F dL_boat_21 (by decide) rfl rfl ?_
      refine r_iconst F dL_boat_23 ?_
      exact r_iret F dL_boat_24 rfl rfl rfl
theorem cw_L_send : Cond.codeWith yL_send cL_send 5 (some .int) [(0, 10, 13, 13), (0, 10, 17, 17)] ∈ TB := tb_of 540 (by decide +kernel) (by decide +kernel)
set_option maxHeartbeats 4000000 in
set_option maxRecDepth 100000 in
theorem H_send {l : Launch} {cy : Nat → ClassId} {D : va_G} {ad : Nat → Nat → Int → Nat} {M : Mem} {S : St} {x q : Int} (hl9 : l.stackTraces = false) (hI : Inv S) (hx9 : ir x) (hq9 : ir q) : Hx l cy D ad yL_send cL_send 5 (some .int) [(0, 10, 13, 13), (0, 10, 17, 17)] 8 [.ref (ad 0 0 0), .int (i32 x), .int (i32 q), .ref (ad 35 0 0)] (setc M 0 S) (some (.int (i32 (cSend S x q)))) (if cSend S x q = 0 then outM (setc M 0 (sendS S x q)) (S 15 x) else setc M 0 S) := by
  have ic := hI.pc
  by_cases h0 : cSend S x q = 0
  · rw [h0, if_pos rfl]
    refine Hx.mk (lv := [some _, some _, some _, some _, none]) 1 hl9 (by decide) rfl (Nat.le_of_ble_eq_true rfl) (fun p e s m below meth c F G htab => ?_)
    refine r_aload_n (i := 3) F dL_send_0 rfl rfl ?_
    refine r_iconst F dL_send_1 ?_
    refine r_aload_n (i := 0) F dL_send_2 rfl rfl ?_
    refine r_iload_n (i := 1) F dL_send_3 rfl rfl ?_
    refine r_iload_n (i := 2) F dL_send_4 rfl rfl ?_
    refine r_callV F (C_X4_send hI hx9 hq9 h0) dL_send_5 lkv_L_36 rfl rfl rfl rfl rfl cd_X4_send (by decide) ⟨Nat.zero_le _, Nat.zero_le _⟩ (Nat.le_of_ble_eq_true rfl) ?_
    refine r_i2l F dL_send_8 ?_
    refine ls_35 F dL_send_9 ?_
    refine r_goto (tgt := 21) F dL_send_10 (by decide) ?_
    refine r_iconst F dL_send_21 ?_
    refine V.wide (kc1 := 1) (ks1 := 6) (by decide) (by decide) ?_
    exact r_iret F dL_send_22 rfl rfl rfl
  · rw [if_neg h0]
    have hc : cSend S x q = 1 ∨ cSend S x q = 2 := by unfold cSend at h0 ⊢; (repeat' split) <;> first | omega | (simp_all; done)
    rcases hc with hk | hk
    · rw [hk]
      refine Hx.mk (lv := [some _, some _, some _, some _, none]) 1 hl9 (by decide) rfl (Nat.le_of_ble_eq_true rfl) (fun p e s m below meth c F G htab => ?_)
      refine r_aload_n (i := 3) F dL_send_0 rfl rfl ?_
      refine r_iconst F dL_send_1 ?_
      refine r_aload_n (i := 0) F dL_send_2 rfl rfl ?_
      refine r_iload_n (i := 1) F dL_send_3 rfl rfl ?_
      refine r_iload_n (i := 2) F dL_send_4 rfl rfl ?_
      refine r_catchV (tgt := 13) F G htab [] ⟨0, 10, 13, 13⟩ [⟨0, 10, 17, 17⟩] rfl (fun z hz => absurd hz List.not_mem_nil) rfl rfl (by decide) tk_L_13 tc_eI (T_X4_send hl9 hI hx9 hq9 h0 (show eI = exIS (cSend S x q) by rw [hk] <;> rfl)) dL_send_5 lkv_L_36 rfl rfl rfl rfl rfl cd_X4_send (by decide) ⟨Nat.le_refl _, Nat.le_refl _⟩ (Nat.le_of_ble_eq_true rfl) (fun q => ?_)
      refine r_astore (lv1 := [_, _, _, _, _]) F dL_send_13 (by decide) rfl rfl ?_
      refine r_iconst F dL_send_15 ?_
      exact r_iret F dL_send_16 rfl rfl rfl
    · rw [hk]
      refine Hx.mk (lv := [some _, some _, some _, some _, none]) 1 hl9 (by decide) rfl (Nat.le_of_ble_eq_true rfl) (fun p e s m below meth c F G htab => ?_)
      refine r_aload_n (i := 3) F dL_send_0 rfl rfl ?_
      refine r_iconst F dL_send_1 ?_
      refine r_aload_n (i := 0) F dL_send_2 rfl rfl ?_
      refine r_iload_n (i := 1) F dL_send_3 rfl rfl ?_
      refine r_iload_n (i := 2) F dL_send_4 rfl rfl ?_
      refine r_catchV (tgt := 17) F G htab [⟨0, 10, 13, 13⟩] ⟨0, 10, 17, 17⟩ [] rfl (fun z hz => by simp only [List.mem_cons, List.not_mem_nil, or_false] at hz; subst hz; exact ⟨by decide, eI, tk_L_13, G.2.1.2.2.2.2.2.2.1⟩) rfl rfl (by decide) tk_L_17 tc_eS (T_X4_send hl9 hI hx9 hq9 h0 (show eS = exIS (cSend S x q) by rw [hk] <;> rfl)) dL_send_5 lkv_L_36 rfl rfl rfl rfl rfl cd_X4_send (by decide) ⟨Nat.le_refl _, Nat.le_refl _⟩ (Nat.le_of_ble_eq_true rfl) (fun q => ?_)
      refine r_astore (lv1 := [_, _, _, _, _]) F dL_send_17 (by decide) rfl rfl ?_
      refine r_iconst F dL_send_19 ?_
      exact r_iret F dL_send_20 rfl rfl rfl
theorem cw_L_carry : Cond.codeWith yL_carry cL_carry 5 (some .int) [(0, 10, 13, 13), (0, 10, 17, 15), (0, 10, 21, 17)] ∈ TB := tb_of 556 (by decide +kernel) (by decide +kernel)
set_option maxHeartbeats 4000000 in
set_option maxRecDepth 100000 in
theorem H_carry {l : Launch} {cy : Nat → ClassId} {D : va_G} {ad : Nat → Nat → Int → Nat} {M : Mem} {S : St} {x q : Int} (hl9 : l.stackTraces = false) (hI : Inv S) (hx9 : ir x) (hq9 : ir q) : Hx l cy D ad yL_carry cL_carry 5 (some .int) [(0, 10, 13, 13), (0, 10, 17, 15), (0, 10, 21, 17)] 8 [.ref (ad 0 0 0), .int (i32 x), .int (i32 q), .ref (ad 35 0 0)] (setc M 0 S) (some (.int (i32 (cCarry S x q)))) (if cCarry S x q = 0 then outM (setc M 0 (sCarry S x q)) (S 1 x - q) else setc M 0 S) := by
  have ic := hI.pc
  by_cases h0 : cCarry S x q = 0
  · rw [h0, if_pos rfl]
    refine Hx.mk (lv := [some _, some _, some _, some _, none]) 1 hl9 (by decide) rfl (Nat.le_of_ble_eq_true rfl) (fun p e s m below meth c F G htab => ?_)
    refine r_aload_n (i := 3) F dL_carry_0 rfl rfl ?_
    refine r_iconst F dL_carry_1 ?_
    refine r_aload_n (i := 0) F dL_carry_2 rfl rfl ?_
    refine r_iload_n (i := 1) F dL_carry_3 rfl rfl ?_
    refine r_iload_n (i := 2) F dL_carry_4 rfl rfl ?_
    refine r_callV F (C_X4_carry hI hx9 hq9 h0) dL_carry_5 lkv_L_39 rfl rfl rfl rfl rfl cd_X4_carry (by decide) ⟨Nat.zero_le _, Nat.zero_le _⟩ (Nat.le_of_ble_eq_true rfl) ?_
    refine r_i2l F dL_carry_8 ?_
    refine ls_35 F dL_carry_9 ?_
    refine r_goto (tgt := 25) F dL_carry_10 (by decide) ?_
    refine r_iconst F dL_carry_25 ?_
    refine V.wide (kc1 := 1) (ks1 := 6) (by decide) (by decide) ?_
    exact r_iret F dL_carry_26 rfl rfl rfl
  · rw [if_neg h0]
    have hc : cCarry S x q = 1 ∨ cCarry S x q = 2 ∨ cCarry S x q = 3 := by unfold cCarry at h0 ⊢; (repeat' split) <;> first | omega | (simp_all; done)
    rcases hc with hk | hk | hk
    · rw [hk]
      refine Hx.mk (lv := [some _, some _, some _, some _, none]) 1 hl9 (by decide) rfl (Nat.le_of_ble_eq_true rfl) (fun p e s m below meth c F G htab => ?_)
      refine r_aload_n (i := 3) F dL_carry_0 rfl rfl ?_
      refine r_iconst F dL_carry_1 ?_
      refine r_aload_n (i := 0) F dL_carry_2 rfl rfl ?_
      refine r_iload_n (i := 1) F dL_carry_3 rfl rfl ?_
      refine r_iload_n (i := 2) F dL_carry_4 rfl rfl ?_
      refine r_catchV (tgt := 13) F G htab [] ⟨0, 10, 13, 13⟩ [⟨0, 10, 17, 15⟩, ⟨0, 10, 21, 17⟩] rfl (fun z hz => absurd hz List.not_mem_nil) rfl rfl (by decide) tk_L_13 tc_eI (T_X4_carry hl9 hI hx9 hq9 h0 (show eI = exIAS (cCarry S x q) by rw [hk] <;> rfl)) dL_carry_5 lkv_L_39 rfl rfl rfl rfl rfl cd_X4_carry (by decide) ⟨Nat.le_refl _, Nat.le_refl _⟩ (Nat.le_of_ble_eq_true rfl) (fun q => ?_)
      refine r_astore (lv1 := [_, _, _, _, _]) F dL_carry_13 (by decide) rfl rfl ?_
      refine r_iconst F dL_carry_15 ?_
      exact r_iret F dL_carry_16 rfl rfl rfl
    · rw [hk]
      refine Hx.mk (lv := [some _, some _, some _, some _, none]) 1 hl9 (by decide) rfl (Nat.le_of_ble_eq_true rfl) (fun p e s m below meth c F G htab => ?_)
      refine r_aload_n (i := 3) F dL_carry_0 rfl rfl ?_
      refine r_iconst F dL_carry_1 ?_
      refine r_aload_n (i := 0) F dL_carry_2 rfl rfl ?_
      refine r_iload_n (i := 1) F dL_carry_3 rfl rfl ?_
      refine r_iload_n (i := 2) F dL_carry_4 rfl rfl ?_
      refine r_catchV (tgt := 17) F G htab [⟨0, 10, 13, 13⟩] ⟨0, 10, 17, 15⟩ [⟨0, 10, 21, 17⟩] rfl (fun z hz => by simp only [List.mem_cons, List.not_mem_nil, or_false] at hz; subst hz; exact ⟨by decide, eI, tk_L_13, G.2.1.2.2.2.2.1⟩) rfl rfl (by decide) tk_L_15 tc_eA (T_X4_carry hl9 hI hx9 hq9 h0 (show eA = exIAS (cCarry S x q) by rw [hk] <;> rfl)) dL_carry_5 lkv_L_39 rfl rfl rfl rfl rfl cd_X4_carry (by decide) ⟨Nat.le_refl _, Nat.le_refl _⟩ (Nat.le_of_ble_eq_true rfl) (fun q => ?_)
      refine r_astore (lv1 := [_, _, _, _, _]) F dL_carry_17 (by decide) rfl rfl ?_
      refine r_iconst F dL_carry_19 ?_
      exact r_iret F dL_carry_20 rfl rfl rfl
    · rw [hk]
      refine Hx.mk (lv := [some _, some _, some _, some _, none]) 1 hl9 (by decide) rfl (Nat.le_of_ble_eq_true rfl) (fun p e s m below meth c F G htab => ?_)
      refine r_aload_n (i := 3) F dL_carry_0 rfl rfl ?_
      refine r_iconst F dL_carry_1 ?_
      refine r_aload_n (i := 0) F dL_carry_2 rfl rfl ?_
      refine r_iload_n (i := 1) F dL_carry_3 rfl rfl ?_
      refine r_iload_n (i := 2) F dL_carry_4 rfl rfl ?_
      refine r_catchV (tgt := 21) F G htab [⟨0, 10, 13, 13⟩, ⟨0, 10, 17, 15⟩] ⟨0, 10, 21, 17⟩ [] rfl (fun z hz => by simp only [List.mem_cons, List.not_mem_nil, or_false] at hz; rcases hz with rfl | rfl <;> first | exact ⟨by decide, eI, tk_L_13, G.2.1.2.2.2.2.2.2.1⟩ | exact ⟨by decide, eA, tk_L_15, G.2.1.2.2.2.2.2.2.2⟩) rfl rfl (by decide) tk_L_17 tc_eS (T_X4_carry hl9 hI hx9 hq9 h0 (show eS = exIAS (cCarry S x q) by rw [hk] <;> rfl)) dL_carry_5 lkv_L_39 rfl rfl rfl rfl rfl cd_X4_carry (by decide) ⟨Nat.le_refl _, Nat.le_refl _⟩ (Nat.le_of_ble_eq_true rfl) (fun q => ?_)
      refine r_astore (lv1 := [_, _, _, _, _]) F dL_carry_21 (by decide) rfl rfl ?_
      refine r_iconst F dL_carry_23 ?_
      exact r_iret F dL_carry_24 rfl rfl rfl
theorem cw_L_told : Cond.codeWith yL_told cL_told 5 (some .int) [(0, 10, 13, 13)] ∈ TB := tb_of 565 (by decide +kernel) (by decide +kernel)
set_option maxHeartbeats 4000000 in
set_option maxRecDepth 100000 in
theorem H_told {l : Launch} {cy : Nat → ClassId} {D : va_G} {ad : Nat → Nat → Int → Nat} {M : Mem} {S : St} {x w : Int} (hl9 : l.stackTraces = false) (hI : Inv S) (hx9 : ir x) (hw9 : ir w) : Hx l cy D ad yL_told cL_told 5 (some .int) [(0, 10, 13, 13)] 8 [.ref (ad 0 0 0), .int (i32 x), .int (i32 w), .ref (ad 35 0 0)] (setc M 0 S) (some (.int (i32 (cRng x 0 (S 20 3 - 1) w 0 6)))) (if cRng x 0 (S 20 3 - 1) w 0 6 = 0 then outM (setc M 0 (S)) (toldF S x w) else setc M 0 S) := by
  have ic := hI.pc
  by_cases h0 : cRng x 0 (S 20 3 - 1) w 0 6 = 0
  · rw [h0, if_pos rfl]
    refine Hx.mk (lv := [some _, some _, some _, some _, none]) 1 hl9 (by decide) rfl (Nat.le_of_ble_eq_true rfl) (fun p e s m below meth c F G htab => ?_)
    refine r_aload_n (i := 3) F dL_told_0 rfl rfl ?_
    refine r_iconst F dL_told_1 ?_
    refine r_aload_n (i := 0) F dL_told_2 rfl rfl ?_
    refine r_iload_n (i := 1) F dL_told_3 rfl rfl ?_
    refine r_iload_n (i := 2) F dL_told_4 rfl rfl ?_
    refine r_callV F (C_X4_told hI hx9 hw9 h0) dL_told_5 lkv_L_42 rfl rfl rfl rfl rfl cd_X4_told (by decide) ⟨Nat.zero_le _, Nat.zero_le _⟩ (Nat.le_of_ble_eq_true rfl) ?_
    refine r_i2l F dL_told_8 ?_
    refine ls_35 F dL_told_9 ?_
    refine r_goto (tgt := 17) F dL_told_10 (by decide) ?_
    refine r_iconst F dL_told_17 ?_
    refine V.wide (kc1 := 1) (ks1 := 6) (by decide) (by decide) ?_
    exact r_iret F dL_told_18 rfl rfl rfl
  · rw [if_neg h0]
    have hc : cRng x 0 (S 20 3 - 1) w 0 6 = 1 := by unfold cRng at h0 ⊢; (repeat' split) <;> first | omega | (simp_all; done)
    have hk := hc
    rw [hk]
    refine Hx.mk (lv := [some _, some _, some _, some _, none]) 1 hl9 (by decide) rfl (Nat.le_of_ble_eq_true rfl) (fun p e s m below meth c F G htab => ?_)
    refine r_aload_n (i := 3) F dL_told_0 rfl rfl ?_
    refine r_iconst F dL_told_1 ?_
    refine r_aload_n (i := 0) F dL_told_2 rfl rfl ?_
    refine r_iload_n (i := 1) F dL_told_3 rfl rfl ?_
    refine r_iload_n (i := 2) F dL_told_4 rfl rfl ?_
    refine r_catchV (tgt := 13) F G htab [] ⟨0, 10, 13, 13⟩ [] rfl (fun z hz => absurd hz List.not_mem_nil) rfl rfl (by decide) tk_L_13 tc_eI (T_X4_told hl9 hI hx9 hw9 h0 (show eI = exI (cRng x 0 (S 20 3 - 1) w 0 6) by rw [hk] <;> rfl)) dL_told_5 lkv_L_42 rfl rfl rfl rfl rfl cd_X4_told (by decide) ⟨Nat.le_refl _, Nat.le_refl _⟩ (Nat.le_of_ble_eq_true rfl) (fun q => ?_)
    refine r_astore (lv1 := [_, _, _, _, _]) F dL_told_13 (by decide) rfl rfl ?_
    refine r_iconst F dL_told_15 ?_
    exact r_iret F dL_told_16 rfl rfl rfl
theorem cw_L_about : Cond.codeWith yL_about cL_about 5 (some .int) [(0, 10, 13, 13)] ∈ TB := tb_of 569 (by decide +kernel) (by decide +kernel)
set_option maxHeartbeats 4000000 in
set_option maxRecDepth 100000 in
theorem H_about {l : Launch} {cy : Nat → ClassId} {D : va_G} {ad : Nat → Nat → Int → Nat} {M : Mem} {S : St} {x w : Int} (hl9 : l.stackTraces = false) (hI : Inv S) (hh : 0 ≤ S 20 0 ∧ S 20 0 < 900000) (hx9 : ir x) (hw9 : ir w) : Hx l cy D ad yL_about cL_about 5 (some .int) [(0, 10, 13, 13)] 8 [.ref (ad 0 0 0), .int (i32 x), .int (i32 w), .ref (ad 35 0 0)] (setc M 0 S) (some (.int (i32 (cRng x 0 (S 20 2 - 1) w 0 4)))) (if cRng x 0 (S 20 2 - 1) w 0 4 = 0 then outM (setc M 0 (S)) (aboutF S x w) else setc M 0 S) := by
  have ic := hI.pc
  by_cases h0 : cRng x 0 (S 20 2 - 1) w 0 4 = 0
  · rw [h0, if_pos rfl]
    refine Hx.mk (lv := [some _, some _, some _, some _, none]) 1 hl9 (by decide) rfl (Nat.le_of_ble_eq_true rfl) (fun p e s m below meth c F G htab => ?_)
    refine r_aload_n (i := 3) F dL_about_0 rfl rfl ?_
    refine r_iconst F dL_about_1 ?_
    refine r_aload_n (i := 0) F dL_about_2 rfl rfl ?_
    refine r_iload_n (i := 1) F dL_about_3 rfl rfl ?_
    refine r_iload_n (i := 2) F dL_about_4 rfl rfl ?_
    refine r_callV F (C_X4_about hI hh hx9 hw9 h0) dL_about_5 lkv_L_45 rfl rfl rfl rfl rfl cd_X4_about (by decide) ⟨Nat.zero_le _, Nat.zero_le _⟩ (Nat.le_of_ble_eq_true rfl) ?_
    refine r_i2l F dL_about_8 ?_
    refine ls_35 F dL_about_9 ?_
    refine r_goto (tgt := 17) F dL_about_10 (by decide) ?_
    refine r_iconst F dL_about_17 ?_
    refine V.wide (kc1 := 1) (ks1 := 6) (by decide) (by decide) ?_
    exact r_iret F dL_about_18 rfl rfl rfl
  · rw [if_neg h0]
    have hc : cRng x 0 (S 20 2 - 1) w 0 4 = 1 := by unfold cRng at h0 ⊢; (repeat' split) <;> first | omega | (simp_all; done)
    have hk := hc
    rw [hk]
    refine Hx.mk (lv := [some _, some _, some _, some _, none]) 1 hl9 (by decide) rfl (Nat.le_of_ble_eq_true rfl) (fun p e s m below meth c F G htab => ?_)
    refine r_aload_n (i := 3) F dL_about_0 rfl rfl ?_
    refine r_iconst F dL_about_1 ?_
    refine r_aload_n (i := 0) F dL_about_2 rfl rfl ?_
    refine r_iload_n (i := 1) F dL_about_3 rfl rfl ?_
    refine r_iload_n (i := 2) F dL_about_4 rfl rfl ?_
    refine r_catchV (tgt := 13) F G htab [] ⟨0, 10, 13, 13⟩ [] rfl (fun z hz => absurd hz List.not_mem_nil) rfl rfl (by decide) tk_L_13 tc_eI (T_X4_about hl9 hI hx9 hw9 h0 (show eI = exI (cRng x 0 (S 20 2 - 1) w 0 4) by rw [hk] <;> rfl)) dL_about_5 lkv_L_45 rfl rfl rfl rfl rfl cd_X4_about (by decide) ⟨Nat.le_refl _, Nat.le_refl _⟩ (Nat.le_of_ble_eq_true rfl) (fun q => ?_)
    refine r_astore (lv1 := [_, _, _, _, _]) F dL_about_13 (by decide) rfl rfl ?_
    refine r_iconst F dL_about_15 ?_
    exact r_iret F dL_about_16 rfl rfl rfl
theorem cw_L_light : Cond.codeWith yL_light cL_light 5 (some .int) [(0, 10, 13, 13)] ∈ TB := tb_of 573 (by decide +kernel) (by decide +kernel)
set_option maxHeartbeats 4000000 in
set_option maxRecDepth 100000 in
theorem H_light {l : Launch} {cy : Nat → ClassId} {D : va_G} {ad : Nat → Nat → Int → Nat} {M : Mem} {S : St} {x w : Int} (hl9 : l.stackTraces = false) (hI : Inv S) (hh : 0 ≤ S 20 0 ∧ S 20 0 < 900000) (hx9 : ir x) (hw9 : ir w) : Hx l cy D ad yL_light cL_light 5 (some .int) [(0, 10, 13, 13)] 8 [.ref (ad 0 0 0), .int (i32 x), .int (i32 w), .ref (ad 35 0 0)] (setc M 0 S) (some (.int (i32 (cRng x 0 (S 20 1 - 1) w 0 3)))) (if cRng x 0 (S 20 1 - 1) w 0 3 = 0 then outM (setc M 0 (S)) (lightF S x w) else setc M 0 S) := by
  have ic := hI.pc
  by_cases h0 : cRng x 0 (S 20 1 - 1) w 0 3 = 0
  · rw [h0, if_pos rfl]
    refine Hx.mk (lv := [some _, some _, some _, some _, none]) 1 hl9 (by decide) rfl (Nat.le_of_ble_eq_true rfl) (fun p e s m below meth c F G htab => ?_)
    refine r_aload_n (i := 3) F dL_light_0 rfl rfl ?_
    refine r_iconst F dL_light_1 ?_
    refine r_aload_n (i := 0) F dL_light_2 rfl rfl ?_
    refine r_iload_n (i := 1) F dL_light_3 rfl rfl ?_
    refine r_iload_n (i := 2) F dL_light_4 rfl rfl ?_
    refine r_callV F (C_X4_light hI hh hx9 hw9 h0) dL_light_5 lkv_L_48 rfl rfl rfl rfl rfl cd_X4_light (by decide) ⟨Nat.zero_le _, Nat.zero_le _⟩ (Nat.le_of_ble_eq_true rfl) ?_
    refine r_i2l F dL_light_8 ?_
    refine ls_35 F dL_light_9 ?_
    refine r_goto (tgt := 17) F dL_light_10 (by decide) ?_
    refine r_iconst F dL_light_17 ?_
    refine V.wide (kc1 := 1) (ks1 := 6) (by decide) (by decide) ?_
    exact r_iret F dL_light_18 rfl rfl rfl
  · rw [if_neg h0]
    have hc : cRng x 0 (S 20 1 - 1) w 0 3 = 1 := by unfold cRng at h0 ⊢; (repeat' split) <;> first | omega | (simp_all; done)
    have hk := hc
    rw [hk]
    refine Hx.mk (lv := [some _, some _, some _, some _, none]) 1 hl9 (by decide) rfl (Nat.le_of_ble_eq_true rfl) (fun p e s m below meth c F G htab => ?_)
    refine r_aload_n (i := 3) F dL_light_0 rfl rfl ?_
    refine r_iconst F dL_light_1 ?_
    refine r_aload_n (i := 0) F dL_light_2 rfl rfl ?_
    refine r_iload_n (i := 1) F dL_light_3 rfl rfl ?_
    refine r_iload_n (i := 2) F dL_light_4 rfl rfl ?_
    refine r_catchV (tgt := 13) F G htab [] ⟨0, 10, 13, 13⟩ [] rfl (fun z hz => absurd hz List.not_mem_nil) rfl rfl (by decide) tk_L_13 tc_eI (T_X4_light hl9 hI hx9 hw9 h0 (show eI = exI (cRng x 0 (S 20 1 - 1) w 0 3) by rw [hk] <;> rfl)) dL_light_5 lkv_L_48 rfl rfl rfl rfl rfl cd_X4_light (by decide) ⟨Nat.le_refl _, Nat.le_refl _⟩ (Nat.le_of_ble_eq_true rfl) (fun q => ?_)
    refine r_astore (lv1 := [_, _, _, _, _]) F dL_light_13 (by decide) rfl rfl ?_
    refine r_iconst F dL_light_15 ?_
    exact r_iret F dL_light_16 rfl rfl rfl
theorem cw_L_code : Cond.codeWith yL_code cL_code 5 (some .int) [(0, 10, 13, 13)] ∈ TB := tb_of 577 (by decide +kernel) (by decide +kernel)
set_option maxHeartbeats 4000000 in
set_option maxRecDepth 100000 in
theorem H_code {l : Launch} {cy : Nat → ClassId} {D : va_G} {ad : Nat → Nat → Int → Nat} {M : Mem} {S : St} {x w : Int} (hl9 : l.stackTraces = false) (hI : Inv S) (hx9 : ir x) (hw9 : ir w) : Hx l cy D ad yL_code cL_code 5 (some .int) [(0, 10, 13, 13)] 8 [.ref (ad 0 0 0), .int (i32 x), .int (i32 w), .ref (ad 35 0 0)] (setc M 0 S) (some (.int (i32 (cRng x 1 7 w 0 3)))) (if cRng x 1 7 w 0 3 = 0 then outM (setc M 0 (S)) (codeF S x w) else setc M 0 S) := by
  have ic := hI.pc
  by_cases h0 : cRng x 1 7 w 0 3 = 0
  · rw [h0, if_pos rfl]
    refine Hx.mk (lv := [some _, some _, some _, some _, none]) 1 hl9 (by decide) rfl (Nat.le_of_ble_eq_true rfl) (fun p e s m below meth c F G htab => ?_)
    refine r_aload_n (i := 3) F dL_code_0 rfl rfl ?_
    refine r_iconst F dL_code_1 ?_
    refine r_aload_n (i := 0) F dL_code_2 rfl rfl ?_
    refine r_iload_n (i := 1) F dL_code_3 rfl rfl ?_
    refine r_iload_n (i := 2) F dL_code_4 rfl rfl ?_
    refine r_callV F (C_X4_code hI hx9 hw9 h0) dL_code_5 lkv_L_51 rfl rfl rfl rfl rfl cd_X4_code (by decide) ⟨Nat.zero_le _, Nat.zero_le _⟩ (Nat.le_of_ble_eq_true rfl) ?_
    refine r_i2l F dL_code_8 ?_
    refine ls_35 F dL_code_9 ?_
    refine r_goto (tgt := 17) F dL_code_10 (by decide) ?_
    refine r_iconst F dL_code_17 ?_
    refine V.wide (kc1 := 1) (ks1 := 6) (by decide) (by decide) ?_
    exact r_iret F dL_code_18 rfl rfl rfl
  · rw [if_neg h0]
    have hc : cRng x 1 7 w 0 3 = 1 := by unfold cRng at h0 ⊢; (repeat' split) <;> first | omega | (simp_all; done)
    have hk := hc
    rw [hk]
    refine Hx.mk (lv := [some _, some _, some _, some _, none]) 1 hl9 (by decide) rfl (Nat.le_of_ble_eq_true rfl) (fun p e s m below meth c F G htab => ?_)
    refine r_aload_n (i := 3) F dL_code_0 rfl rfl ?_
    refine r_iconst F dL_code_1 ?_
    refine r_aload_n (i := 0) F dL_code_2 rfl rfl ?_
    refine r_iload_n (i := 1) F dL_code_3 rfl rfl ?_
    refine r_iload_n (i := 2) F dL_code_4 rfl rfl ?_
    refine r_catchV (tgt := 13) F G htab [] ⟨0, 10, 13, 13⟩ [] rfl (fun z hz => absurd hz List.not_mem_nil) rfl rfl (by decide) tk_L_13 tc_eI (T_X4_code hl9 hI hx9 hw9 h0 (show eI = exI (cRng x 1 7 w 0 3) by rw [hk] <;> rfl)) dL_code_5 lkv_L_51 rfl rfl rfl rfl rfl cd_X4_code (by decide) ⟨Nat.le_refl _, Nat.le_refl _⟩ (Nat.le_of_ble_eq_true rfl) (fun q => ?_)
    refine r_astore (lv1 := [_, _, _, _, _]) F dL_code_13 (by decide) rfl rfl ?_
    refine r_iconst F dL_code_15 ?_
    exact r_iret F dL_code_16 rfl rfl rfl
theorem cw_L_place : Cond.codeWith yL_place cL_place 5 (some .int) [(0, 10, 13, 13)] ∈ TB := tb_of 581 (by decide +kernel) (by decide +kernel)
set_option maxHeartbeats 4000000 in
set_option maxRecDepth 100000 in
theorem H_place {l : Launch} {cy : Nat → ClassId} {D : va_G} {ad : Nat → Nat → Int → Nat} {M : Mem} {S : St} {x w : Int} (hl9 : l.stackTraces = false) (hI : Inv S) (hh : 0 ≤ S 20 0 ∧ S 20 0 < 900000) (hx9 : ir x) (hw9 : ir w) : Hx l cy D ad yL_place cL_place 5 (some .int) [(0, 10, 13, 13)] 8 [.ref (ad 0 0 0), .int (i32 x), .int (i32 w), .ref (ad 35 0 0)] (setc M 0 S) (some (.int (i32 (cRng x 0 15 w 0 4)))) (if cRng x 0 15 w 0 4 = 0 then outM (setc M 0 (S)) (placeF S x w) else setc M 0 S) := by
  have ic := hI.pc
  by_cases h0 : cRng x 0 15 w 0 4 = 0
  · rw [h0, if_pos rfl]
    refine Hx.mk (lv := [some _, some _, some _, some _, none]) 1 hl9 (by decide) rfl (Nat.le_of_ble_eq_true rfl) (fun p e s m below meth c F G htab => ?_)
    refine r_aload_n (i := 3) F dL_place_0 rfl rfl ?_
    refine r_iconst F dL_place_1 ?_
    refine r_aload_n (i := 0) F dL_place_2 rfl rfl ?_
    refine r_iload_n (i := 1) F dL_place_3 rfl rfl ?_
    refine r_iload_n (i := 2) F dL_place_4 rfl rfl ?_
    refine r_callV F (C_X4_place hI hh hx9 hw9 h0) dL_place_5 lkv_L_54 rfl rfl rfl rfl rfl cd_X4_place (by decide) ⟨Nat.zero_le _, Nat.zero_le _⟩ (Nat.le_of_ble_eq_true rfl) ?_
    refine r_i2l F dL_place_8 ?_
    refine ls_35 F dL_place_9 ?_
    refine r_goto (tgt := 17) F dL_place_10 (by decide) ?_
    refine r_iconst F dL_place_17 ?_
    refine V.wide (kc1 := 1) (ks1 := 6) (by decide) (by decide) ?_
    exact r_iret F dL_place_18 rfl rfl rfl
  · rw [if_neg h0]
    have hc : cRng x 0 15 w 0 4 = 1 := by unfold cRng at h0 ⊢; (repeat' split) <;> first | omega | (simp_all; done)
    have hk := hc
    rw [hk]
    refine Hx.mk (lv := [some _, some _, some _, some _, none]) 1 hl9 (by decide) rfl (Nat.le_of_ble_eq_true rfl) (fun p e s m below meth c F G htab => ?_)
    refine r_aload_n (i := 3) F dL_place_0 rfl rfl ?_
    refine r_iconst F dL_place_1 ?_
    refine r_aload_n (i := 0) F dL_place_2 rfl rfl ?_
    refine r_iload_n (i := 1) F dL_place_3 rfl rfl ?_
    refine r_iload_n (i := 2) F dL_place_4 rfl rfl ?_
    refine r_catchV (tgt := 13) F G htab [] ⟨0, 10, 13, 13⟩ [] rfl (fun z hz => absurd hz List.not_mem_nil) rfl rfl (by decide) tk_L_13 tc_eI (T_X4_place hl9 hI hx9 hw9 h0 (show eI = exI (cRng x 0 15 w 0 4) by rw [hk] <;> rfl)) dL_place_5 lkv_L_54 rfl rfl rfl rfl rfl cd_X4_place (by decide) ⟨Nat.le_refl _, Nat.le_refl _⟩ (Nat.le_of_ble_eq_true rfl) (fun q => ?_)
    refine r_astore (lv1 := [_, _, _, _, _]) F dL_place_13 (by decide) rfl rfl ?_
    refine r_iconst F dL_place_15 ?_
    exact r_iret F dL_place_16 rfl rfl rfl
theorem cw_L_moon : Cond.codeWith yL_moon cL_moon 4 (some .int) [(0, 9, 12, 15)] ∈ TB := tb_of 585 (by decide +kernel) (by decide +kernel)
set_option maxHeartbeats 4000000 in
set_option maxRecDepth 100000 in
theorem H_moon {l : Launch} {cy : Nat → ClassId} {D : va_G} {ad : Nat → Nat → Int → Nat} {M : Mem} {S : St} {x : Int} (hl9 : l.stackTraces = false) (hI : Inv S) (hx9 : ir x) : Hx l cy D ad yL_moon cL_moon 4 (some .int) [(0, 9, 12, 15)] 8 [.ref (ad 0 0 0), .int (i32 x), .ref (ad 35 0 0)] (setc M 0 S) (some (.int (i32 (cRng1 x 0 999)))) (if cRng1 x 0 999 = 0 then outM (setc M 0 (S)) (moonOf x) else setc M 0 S) := by
  have ic := hI.pc
  by_cases h0 : cRng1 x 0 999 = 0
  · rw [h0, if_pos rfl]
    refine Hx.mk (lv := [some _, some _, some _, none]) 1 hl9 (by decide) rfl (Nat.le_of_ble_eq_true rfl) (fun p e s m below meth c F G htab => ?_)
    refine r_aload_n (i := 2) F dL_moon_0 rfl rfl ?_
    refine r_iconst F dL_moon_1 ?_
    refine r_aload_n (i := 0) F dL_moon_2 rfl rfl ?_
    refine r_iload_n (i := 1) F dL_moon_3 rfl rfl ?_
    refine r_callV F (C_X4_moon hI hx9 h0) dL_moon_4 lkv_L_57 rfl rfl rfl rfl rfl cd_X4_moon (by decide) ⟨Nat.zero_le _, Nat.zero_le _⟩ (Nat.le_of_ble_eq_true rfl) ?_
    refine r_i2l F dL_moon_7 ?_
    refine ls_35 F dL_moon_8 ?_
    refine r_goto (tgt := 15) F dL_moon_9 (by decide) ?_
    refine r_iconst F dL_moon_15 ?_
    refine V.wide (kc1 := 1) (ks1 := 6) (by decide) (by decide) ?_
    exact r_iret F dL_moon_16 rfl rfl rfl
  · rw [if_neg h0]
    have hc : cRng1 x 0 999 = 1 := by unfold cRng1 at h0 ⊢; (repeat' split) <;> first | omega | (simp_all; done)
    have hk := hc
    rw [hk]
    refine Hx.mk (lv := [some _, some _, some _, none]) 1 hl9 (by decide) rfl (Nat.le_of_ble_eq_true rfl) (fun p e s m below meth c F G htab => ?_)
    refine r_aload_n (i := 2) F dL_moon_0 rfl rfl ?_
    refine r_iconst F dL_moon_1 ?_
    refine r_aload_n (i := 0) F dL_moon_2 rfl rfl ?_
    refine r_iload_n (i := 1) F dL_moon_3 rfl rfl ?_
    refine r_catchV (tgt := 12) F G htab [] ⟨0, 9, 12, 15⟩ [] rfl (fun z hz => absurd hz List.not_mem_nil) rfl rfl (by decide) tk_L_15 tc_eA (T_X4_moon hl9 hI hx9 h0 (show eA = exA (cRng1 x 0 999) by rw [hk] <;> rfl)) dL_moon_4 lkv_L_57 rfl rfl rfl rfl rfl cd_X4_moon (by decide) ⟨Nat.le_refl _, Nat.le_refl _⟩ (Nat.le_of_ble_eq_true rfl) (fun q => ?_)
    refine r_astore_n (i := 3) (lv1 := [_, _, _, _]) F dL_moon_12 rfl (by decide) rfl rfl ?_
    refine r_iconst F dL_moon_13 ?_
    exact r_iret F dL_moon_14 rfl rfl rfl
theorem cw_L_count : Cond.codeWith yL_count cL_count 4 (some .int) [(0, 9, 12, 13)] ∈ TB := tb_of 594 (by decide +kernel) (by decide +kernel)
set_option maxHeartbeats 4000000 in
set_option maxRecDepth 100000 in
theorem H_count {l : Launch} {cy : Nat → ClassId} {D : va_G} {ad : Nat → Nat → Int → Nat} {M : Mem} {S : St} {x : Int} (hl9 : l.stackTraces = false) (hI : Inv S) (hx9 : ir x) : Hx l cy D ad yL_count cL_count 4 (some .int) [(0, 9, 12, 13)] 8 [.ref (ad 0 0 0), .int (i32 x), .ref (ad 35 0 0)] (setc M 0 S) (some (.int (i32 (cRng1 x 0 10)))) (if cRng1 x 0 10 = 0 then outM (setc M 0 (S)) (counted S x) else setc M 0 S) := by
  have ic := hI.pc
  by_cases h0 : cRng1 x 0 10 = 0
  · rw [h0, if_pos rfl]
    refine Hx.mk (lv := [some _, some _, some _, none]) 1 hl9 (by decide) rfl (Nat.le_of_ble_eq_true rfl) (fun p e s m below meth c F G htab => ?_)
    refine r_aload_n (i := 2) F dL_count_0 rfl rfl ?_
    refine r_iconst F dL_count_1 ?_
    refine r_aload_n (i := 0) F dL_count_2 rfl rfl ?_
    refine r_iload_n (i := 1) F dL_count_3 rfl rfl ?_
    refine r_callV F (C_X4_count hI hx9 h0) dL_count_4 lkv_L_60 rfl rfl rfl rfl rfl cd_X4_count (by decide) ⟨Nat.zero_le _, Nat.zero_le _⟩ (Nat.le_of_ble_eq_true rfl) ?_
    refine r_i2l F dL_count_7 ?_
    refine ls_35 F dL_count_8 ?_
    refine r_goto (tgt := 15) F dL_count_9 (by decide) ?_
    refine r_iconst F dL_count_15 ?_
    refine V.wide (kc1 := 1) (ks1 := 6) (by decide) (by decide) ?_
    exact r_iret F dL_count_16 rfl rfl rfl
  · rw [if_neg h0]
    have hc : cRng1 x 0 10 = 1 := by unfold cRng1 at h0 ⊢; (repeat' split) <;> first | omega | (simp_all; done)
    have hk := hc
    rw [hk]
    refine Hx.mk (lv := [some _, some _, some _, none]) 1 hl9 (by decide) rfl (Nat.le_of_ble_eq_true rfl) (fun p e s m below meth c F G htab => ?_)
    refine r_aload_n (i := 2) F dL_count_0 rfl rfl ?_
    refine r_iconst F dL_count_1 ?_
    refine r_aload_n (i := 0) F dL_count_2 rfl rfl ?_
    refine r_iload_n (i := 1) F dL_count_3 rfl rfl ?_
    refine r_catchV (tgt := 12) F G htab [] ⟨0, 9, 12, 13⟩ [] rfl (fun z hz => absurd hz List.not_mem_nil) rfl rfl (by decide) tk_L_13 tc_eI (T_X4_count hl9 hI hx9 h0 (show eI = exI (cRng1 x 0 10) by rw [hk] <;> rfl)) dL_count_4 lkv_L_60 rfl rfl rfl rfl rfl cd_X4_count (by decide) ⟨Nat.le_refl _, Nat.le_refl _⟩ (Nat.le_of_ble_eq_true rfl) (fun q => ?_)
    refine r_astore_n (i := 3) (lv1 := [_, _, _, _]) F dL_count_12 rfl (by decide) rfl rfl ?_
    refine r_iconst F dL_count_13 ?_
    exact r_iret F dL_count_14 rfl rfl rfl
theorem cw_L_pass : Cond.codeWith yL_pass cL_pass 4 (some .int) [(0, 9, 12, 15)] ∈ TB := tb_of 598 (by decide +kernel) (by decide +kernel)
set_option maxHeartbeats 4000000 in
set_option maxRecDepth 100000 in
theorem H_pass {l : Launch} {cy : Nat → ClassId} {D : va_G} {ad : Nat → Nat → Int → Nat} {M : Mem} {S : St} {x : Int} (hl9 : l.stackTraces = false) (hI : Inv S) (hh : 0 ≤ S 20 0 ∧ S 20 0 < 900000) (hx9 : ir x) : Hx l cy D ad yL_pass cL_pass 4 (some .int) [(0, 9, 12, 15)] 8 [.ref (ad 0 0 0), .int (i32 x), .ref (ad 35 0 0)] (setc M 0 S) (some (.int (i32 (cRng1 x 1 60)))) (if cRng1 x 1 60 = 0 then outM (setc M 0 (goN S x.toNat)) (goS S x.toNat) else setc M 0 S) := by
  have ic := hI.pc
  by_cases h0 : cRng1 x 1 60 = 0
  · rw [h0, if_pos rfl]
    refine Hx.mk (lv := [some _, some _, some _, none]) 1 hl9 (by decide) rfl (Nat.le_of_ble_eq_true rfl) (fun p e s m below meth c F G htab => ?_)
    refine r_aload_n (i := 2) F dL_pass_0 rfl rfl ?_
    refine r_iconst F dL_pass_1 ?_
    refine r_aload_n (i := 0) F dL_pass_2 rfl rfl ?_
    refine r_iload_n (i := 1) F dL_pass_3 rfl rfl ?_
    refine r_callV F (C_X4_pass hI hh hx9 h0) dL_pass_4 lkv_L_63 rfl rfl rfl rfl rfl cd_X4_pass (by decide) ⟨Nat.zero_le _, Nat.zero_le _⟩ (Nat.le_of_ble_eq_true rfl) ?_
    refine r_i2l F dL_pass_7 ?_
    refine ls_35 F dL_pass_8 ?_
    refine r_goto (tgt := 15) F dL_pass_9 (by decide) ?_
    refine r_iconst F dL_pass_15 ?_
    refine V.wide (kc1 := 1) (ks1 := 6) (by decide) (by decide) ?_
    exact r_iret F dL_pass_16 rfl rfl rfl
  · rw [if_neg h0]
    have hc : cRng1 x 1 60 = 1 := by unfold cRng1 at h0 ⊢; (repeat' split) <;> first | omega | (simp_all; done)
    have hk := hc
    rw [hk]
    refine Hx.mk (lv := [some _, some _, some _, none]) 1 hl9 (by decide) rfl (Nat.le_of_ble_eq_true rfl) (fun p e s m below meth c F G htab => ?_)
    refine r_aload_n (i := 2) F dL_pass_0 rfl rfl ?_
    refine r_iconst F dL_pass_1 ?_
    refine r_aload_n (i := 0) F dL_pass_2 rfl rfl ?_
    refine r_iload_n (i := 1) F dL_pass_3 rfl rfl ?_
    refine r_catchV (tgt := 12) F G htab [] ⟨0, 9, 12, 15⟩ [] rfl (fun z hz => absurd hz List.not_mem_nil) rfl rfl (by decide) tk_L_15 tc_eA (T_X4_pass hl9 hI hx9 h0 (show eA = exA (cRng1 x 1 60) by rw [hk] <;> rfl)) dL_pass_4 lkv_L_63 rfl rfl rfl rfl rfl cd_X4_pass (by decide) ⟨Nat.le_refl _, Nat.le_refl _⟩ (Nat.le_of_ble_eq_true rfl) (fun q => ?_)
    refine r_astore_n (i := 3) (lv1 := [_, _, _, _]) F dL_pass_12 rfl (by decide) rfl rfl ?_
    refine r_iconst F dL_pass_13 ?_
    exact r_iret F dL_pass_14 rfl rfl rfl
theorem cw_L_until : Cond.codeWith yL_until cL_until 4 (some .int) [(0, 9, 12, 13)] ∈ TB := tb_of 658 (by decide +kernel) (by decide +kernel)
set_option maxHeartbeats 4000000 in
set_option maxRecDepth 100000 in
theorem H_until {l : Launch} {cy : Nat → ClassId} {D : va_G} {ad : Nat → Nat → Int → Nat} {M : Mem} {S : St} {T : St} {x : Int} (hl9 : l.stackTraces = false) (hI : Inv S) (hD : Dead S) (hT : Dead T) (hcn : T 20 1 ≤ S 20 1 ∧ T 20 2 ≤ S 20 2 ∧ T 20 3 ≤ S 20 3) (hh : 0 ≤ S 20 0 ∧ S 20 0 < 900000) (hx9 : ir x) : Hx l cy D ad yL_until cL_until 4 (some .int) [(0, 9, 12, 13)] 8 [.ref (ad 0 0 0), .int (i32 x), .ref (ad 35 0 0)] (setc (setc M 1 T) 0 S) (some (.int (i32 (cRng1 x 0 (S 20 3 - 1))))) (if cRng1 x 0 (S 20 3 - 1) = 0 then outM (setc (setc M 0 S) 1 (goN S (unt S x 120 0))) (untR S x) else setc (setc M 1 T) 0 S) := by
  have ic := hI.pc
  by_cases h0 : cRng1 x 0 (S 20 3 - 1) = 0
  · rw [h0, if_pos rfl]
    refine Hx.mk (lv := [some _, some _, some _, none]) 1 hl9 (by decide) rfl (Nat.le_of_ble_eq_true rfl) (fun p e s m below meth c F G htab => ?_)
    refine r_aload_n (i := 2) F dL_until_0 rfl rfl ?_
    refine r_iconst F dL_until_1 ?_
    refine r_aload_n (i := 0) F dL_until_2 rfl rfl ?_
    refine r_iload_n (i := 1) F dL_until_3 rfl rfl ?_
    refine r_callV F (C_X4_until hI hD hT hcn hh hx9 h0) dL_until_4 lkv_L_66 rfl rfl rfl rfl rfl cd_X4_until (by decide) ⟨Nat.zero_le _, Nat.zero_le _⟩ (Nat.le_of_ble_eq_true rfl) ?_
    refine r_i2l F dL_until_7 ?_
    refine ls_35 F dL_until_8 ?_
    refine r_goto (tgt := 15) F dL_until_9 (by decide) ?_
    refine r_iconst F dL_until_15 ?_
    refine V.wide (kc1 := 1) (ks1 := 6) (by decide) (by decide) ?_
    exact r_iret F dL_until_16 rfl rfl rfl
  · rw [if_neg h0]
    have hc : cRng1 x 0 (S 20 3 - 1) = 1 := by unfold cRng1 at h0 ⊢; (repeat' split) <;> first | omega | (simp_all; done)
    have hk := hc
    rw [hk]
    refine Hx.mk (lv := [some _, some _, some _, none]) 1 hl9 (by decide) rfl (Nat.le_of_ble_eq_true rfl) (fun p e s m below meth c F G htab => ?_)
    refine r_aload_n (i := 2) F dL_until_0 rfl rfl ?_
    refine r_iconst F dL_until_1 ?_
    refine r_aload_n (i := 0) F dL_until_2 rfl rfl ?_
    refine r_iload_n (i := 1) F dL_until_3 rfl rfl ?_
    refine r_catchV (tgt := 12) F G htab [] ⟨0, 9, 12, 13⟩ [] rfl (fun z hz => absurd hz List.not_mem_nil) rfl rfl (by decide) tk_L_13 tc_eI (T_X4_until hl9 hI hx9 h0 (show eI = exI (cRng1 x 0 (S 20 3 - 1)) by rw [hk] <;> rfl)) dL_until_4 lkv_L_66 rfl rfl rfl rfl rfl cd_X4_until (by decide) ⟨Nat.le_refl _, Nat.le_refl _⟩ (Nat.le_of_ble_eq_true rfl) (fun q => ?_)
    refine r_astore_n (i := 3) (lv1 := [_, _, _, _]) F dL_until_12 rfl (by decide) rfl rfl ?_
    refine r_iconst F dL_until_13 ?_
    exact r_iret F dL_until_14 rfl rfl rfl
theorem cw_L_foresee : Cond.codeWith yL_foresee cL_foresee 5 (some .int) [(0, 10, 13, 15), (0, 10, 17, 13)] ∈ TB := tb_of 686 (by decide +kernel) (by decide +kernel)
set_option maxHeartbeats 4000000 in
set_option maxRecDepth 100000 in
theorem H_foresee {l : Launch} {cy : Nat → ClassId} {D : va_G} {ad : Nat → Nat → Int → Nat} {M : Mem} {S : St} {T : St} {x w : Int} (hl9 : l.stackTraces = false) (hI : Inv S) (hD : Dead S) (hT : Dead T) (hcn : T 20 1 ≤ S 20 1 ∧ T 20 2 ≤ S 20 2 ∧ T 20 3 ≤ S 20 3) (hh : 0 ≤ S 20 0 ∧ S 20 0 < 900000) (hx9 : ir x) (hw9 : ir w) : Hx l cy D ad yL_foresee cL_foresee 5 (some .int) [(0, 10, 13, 15), (0, 10, 17, 13)] 8 [.ref (ad 0 0 0), .int (i32 x), .int (i32 w), .ref (ad 35 0 0)] (setc (setc M 1 T) 0 S) (some (.int (i32 (cForesee x w)))) (if cForesee x w = 0 then outM (setc (setc M 0 S) 1 (goN S x.toNat)) (counted (goN S x.toNat) w) else setc (setc M 1 T) 0 S) := by
  have ic := hI.pc
  by_cases h0 : cForesee x w = 0
  · rw [h0, if_pos rfl]
    refine Hx.mk (lv := [some _, some _, some _, some _, none]) 1 hl9 (by decide) rfl (Nat.le_of_ble_eq_true rfl) (fun p e s m below meth c F G htab => ?_)
    refine r_aload_n (i := 3) F dL_foresee_0 rfl rfl ?_
    refine r_iconst F dL_foresee_1 ?_
    refine r_aload_n (i := 0) F dL_foresee_2 rfl rfl ?_
    refine r_iload_n (i := 1) F dL_foresee_3 rfl rfl ?_
    refine r_iload_n (i := 2) F dL_foresee_4 rfl rfl ?_
    refine r_callV F (C_X4_foresee hI hD hT hcn hh hx9 hw9 h0) dL_foresee_5 lkv_L_69 rfl rfl rfl rfl rfl cd_X4_foresee (by decide) ⟨Nat.zero_le _, Nat.zero_le _⟩ (Nat.le_of_ble_eq_true rfl) ?_
    refine r_i2l F dL_foresee_8 ?_
    refine ls_35 F dL_foresee_9 ?_
    refine r_goto (tgt := 21) F dL_foresee_10 (by decide) ?_
    refine r_iconst F dL_foresee_21 ?_
    refine V.wide (kc1 := 1) (ks1 := 6) (by decide) (by decide) ?_
    exact r_iret F dL_foresee_22 rfl rfl rfl
  · rw [if_neg h0]
    have hc : cForesee x w = 1 ∨ cForesee x w = 2 := by unfold cForesee at h0 ⊢; (repeat' split) <;> first | omega | (simp_all; done)
    rcases hc with hk | hk
    · rw [hk]
      refine Hx.mk (lv := [some _, some _, some _, some _, none]) 1 hl9 (by decide) rfl (Nat.le_of_ble_eq_true rfl) (fun p e s m below meth c F G htab => ?_)
      refine r_aload_n (i := 3) F dL_foresee_0 rfl rfl ?_
      refine r_iconst F dL_foresee_1 ?_
      refine r_aload_n (i := 0) F dL_foresee_2 rfl rfl ?_
      refine r_iload_n (i := 1) F dL_foresee_3 rfl rfl ?_
      refine r_iload_n (i := 2) F dL_foresee_4 rfl rfl ?_
      refine r_catchV (tgt := 13) F G htab [] ⟨0, 10, 13, 15⟩ [⟨0, 10, 17, 13⟩] rfl (fun z hz => absurd hz List.not_mem_nil) rfl rfl (by decide) tk_L_15 tc_eA (T_X4_foresee hl9 hI hx9 hw9 h0 (show eA = exAI (cForesee x w) by rw [hk] <;> rfl)) dL_foresee_5 lkv_L_69 rfl rfl rfl rfl rfl cd_X4_foresee (by decide) ⟨Nat.le_refl _, Nat.le_refl _⟩ (Nat.le_of_ble_eq_true rfl) (fun q => ?_)
      refine r_astore (lv1 := [_, _, _, _, _]) F dL_foresee_13 (by decide) rfl rfl ?_
      refine r_iconst F dL_foresee_15 ?_
      exact r_iret F dL_foresee_16 rfl rfl rfl
    · rw [hk]
      refine Hx.mk (lv := [some _, some _, some _, some _, none]) 1 hl9 (by decide) rfl (Nat.le_of_ble_eq_true rfl) (fun p e s m below meth c F G htab => ?_)
      refine r_aload_n (i := 3) F dL_foresee_0 rfl rfl ?_
      refine r_iconst F dL_foresee_1 ?_
      refine r_aload_n (i := 0) F dL_foresee_2 rfl rfl ?_
      refine r_iload_n (i := 1) F dL_foresee_3 rfl rfl ?_
      refine r_iload_n (i := 2) F dL_foresee_4 rfl rfl ?_
      refine r_catchV (tgt := 17) F G htab [⟨0, 10, 13, 15⟩] ⟨0, 10, 17, 13⟩ [] rfl (fun z hz => by simp only [List.mem_cons, List.not_mem_nil, or_false] at hz; subst hz; exact ⟨by decide, eA, tk_L_15, G.2.1.2.2.1⟩) rfl rfl (by decide) tk_L_13 tc_eI (T_X4_foresee hl9 hI hx9 hw9 h0 (show eI = exAI (cForesee x w) by rw [hk] <;> rfl)) dL_foresee_5 lkv_L_69 rfl rfl rfl rfl rfl cd_X4_foresee (by decide) ⟨Nat.le_refl _, Nat.le_refl _⟩ (Nat.le_of_ble_eq_true rfl) (fun q => ?_)
      refine r_astore (lv1 := [_, _, _, _, _]) F dL_foresee_17 (by decide) rfl rfl ?_
      refine r_iconst F dL_foresee_19 ?_
      exact r_iret F dL_foresee_20 rfl rfl rfl
theorem cw_L_advise : Cond.codeWith yL_advise cL_advise 4 (some .int) [(0, 9, 12, 13), (0, 9, 15, 17)] ∈ TB := tb_of 693 (by decide +kernel) (by decide +kernel)
set_option maxHeartbeats 4000000 in
set_option maxRecDepth 100000 in
theorem H_advise {l : Launch} {cy : Nat → ClassId} {D : va_G} {ad : Nat → Nat → Int → Nat} {M : Mem} {S : St} {T : St} {x : Int} (hl9 : l.stackTraces = false) (hI : Inv S) (hD : Dead S) (hT : Dead T) (hcn : T 20 1 ≤ S 20 1 ∧ T 20 2 ≤ S 20 2 ∧ T 20 3 ≤ S 20 3) (hh : 0 ≤ S 20 0 ∧ S 20 0 < 900000) (hx9 : ir x) : Hx l cy D ad yL_advise cL_advise 4 (some .int) [(0, 9, 12, 13), (0, 9, 15, 17)] 8 [.ref (ad 0 0 0), .int (i32 x), .ref (ad 35 0 0)] (setc (setc M 1 T) 0 S) (some (.int (i32 (cAdvise S x)))) (if cAdvise S x = 0 then outM (setc (setc M 0 S) 1 (goN (sendS S x 15) 40)) ((adv S x 16).1) else setc (setc M 1 T) 0 S) := by
  have ic := hI.pc
  by_cases h0 : cAdvise S x = 0
  · rw [h0, if_pos rfl]
    refine Hx.mk (lv := [some _, some _, some _, none]) 1 hl9 (by decide) rfl (Nat.le_of_ble_eq_true rfl) (fun p e s m below meth c F G htab => ?_)
    refine r_aload_n (i := 2) F dL_advise_0 rfl rfl ?_
    refine r_iconst F dL_advise_1 ?_
    refine r_aload_n (i := 0) F dL_advise_2 rfl rfl ?_
    refine r_iload_n (i := 1) F dL_advise_3 rfl rfl ?_
    refine r_callV F (C_X4_advise hI hD hT hcn hh hx9 h0) dL_advise_4 lkv_L_72 rfl rfl rfl rfl rfl cd_X4_advise (by decide) ⟨Nat.zero_le _, Nat.zero_le _⟩ (Nat.le_of_ble_eq_true rfl) ?_
    refine r_i2l F dL_advise_7 ?_
    refine ls_35 F dL_advise_8 ?_
    refine r_goto (tgt := 18) F dL_advise_9 (by decide) ?_
    refine r_iconst F dL_advise_18 ?_
    refine V.wide (kc1 := 1) (ks1 := 6) (by decide) (by decide) ?_
    exact r_iret F dL_advise_19 rfl rfl rfl
  · rw [if_neg h0]
    have hc : cAdvise S x = 1 ∨ cAdvise S x = 2 := by unfold cAdvise at h0 ⊢; (repeat' split) <;> first | omega | (simp_all; done)
    rcases hc with hk | hk
    · rw [hk]
      refine Hx.mk (lv := [some _, some _, some _, none]) 1 hl9 (by decide) rfl (Nat.le_of_ble_eq_true rfl) (fun p e s m below meth c F G htab => ?_)
      refine r_aload_n (i := 2) F dL_advise_0 rfl rfl ?_
      refine r_iconst F dL_advise_1 ?_
      refine r_aload_n (i := 0) F dL_advise_2 rfl rfl ?_
      refine r_iload_n (i := 1) F dL_advise_3 rfl rfl ?_
      refine r_catchV (tgt := 12) F G htab [] ⟨0, 9, 12, 13⟩ [⟨0, 9, 15, 17⟩] rfl (fun z hz => absurd hz List.not_mem_nil) rfl rfl (by decide) tk_L_13 tc_eI (T_X4_advise hl9 hI hx9 h0 (show eI = exIS (cAdvise S x) by rw [hk] <;> rfl)) dL_advise_4 lkv_L_72 rfl rfl rfl rfl rfl cd_X4_advise (by decide) ⟨Nat.le_refl _, Nat.le_refl _⟩ (Nat.le_of_ble_eq_true rfl) (fun q => ?_)
      refine r_astore_n (i := 3) (lv1 := [_, _, _, _]) F dL_advise_12 rfl (by decide) rfl rfl ?_
      refine r_iconst F dL_advise_13 ?_
      exact r_iret F dL_advise_14 rfl rfl rfl
    · rw [hk]
      refine Hx.mk (lv := [some _, some _, some _, none]) 1 hl9 (by decide) rfl (Nat.le_of_ble_eq_true rfl) (fun p e s m below meth c F G htab => ?_)
      refine r_aload_n (i := 2) F dL_advise_0 rfl rfl ?_
      refine r_iconst F dL_advise_1 ?_
      refine r_aload_n (i := 0) F dL_advise_2 rfl rfl ?_
      refine r_iload_n (i := 1) F dL_advise_3 rfl rfl ?_
      refine r_catchV (tgt := 15) F G htab [⟨0, 9, 12, 13⟩] ⟨0, 9, 15, 17⟩ [] rfl (fun z hz => by simp only [List.mem_cons, List.not_mem_nil, or_false] at hz; subst hz; exact ⟨by decide, eI, tk_L_13, G.2.1.2.2.2.2.2.2.1⟩) rfl rfl (by decide) tk_L_17 tc_eS (T_X4_advise hl9 hI hx9 h0 (show eS = exIS (cAdvise S x) by rw [hk] <;> rfl)) dL_advise_4 lkv_L_72 rfl rfl rfl rfl rfl cd_X4_advise (by decide) ⟨Nat.le_refl _, Nat.le_refl _⟩ (Nat.le_of_ble_eq_true rfl) (fun q => ?_)
      refine r_astore_n (i := 3) (lv1 := [_, _, _, _]) F dL_advise_15 rfl (by decide) rfl rfl ?_
      refine r_iconst F dL_advise_16 ?_
      exact r_iret F dL_advise_17 rfl rfl rfl
theorem cw_L_quiet : Cond.codeWith yL_quiet cL_quiet 4 (some .int) [(0, 9, 12, 13)] ∈ TB := tb_of 705 (by decide +kernel) (by decide +kernel)
set_option maxHeartbeats 4000000 in
set_option maxRecDepth 100000 in
theorem H_quiet {l : Launch} {cy : Nat → ClassId} {D : va_G} {ad : Nat → Nat → Int → Nat} {M : Mem} {S : St} {T : St} {x : Int} (hl9 : l.stackTraces = false) (hI : Inv S) (hD : Dead S) (hT : Dead T) (hcn : T 20 1 ≤ S 20 1 ∧ T 20 2 ≤ S 20 2 ∧ T 20 3 ≤ S 20 3) (hh : 0 ≤ S 20 0 ∧ S 20 0 < 900000) (hx9 : ir x) : Hx l cy D ad yL_quiet cL_quiet 4 (some .int) [(0, 9, 12, 13)] 8 [.ref (ad 0 0 0), .int (i32 x), .ref (ad 35 0 0)] (setc (setc M 1 T) 0 S) (some (.int (i32 (cRng1 x 0 15)))) (if cRng1 x 0 15 = 0 then outM (setc (setc M 0 S) 1 (goN S (qui S x 40 0))) (quiR S x) else setc (setc M 1 T) 0 S) := by
  have ic := hI.pc
  by_cases h0 : cRng1 x 0 15 = 0
  · rw [h0, if_pos rfl]
    refine Hx.mk (lv := [some _, some _, some _, none]) 1 hl9 (by decide) rfl (Nat.le_of_ble_eq_true rfl) (fun p e s m below meth c F G htab => ?_)
    refine r_aload_n (i := 2) F dL_quiet_0 rfl rfl ?_
    refine r_iconst F dL_quiet_1 ?_
    refine r_aload_n (i := 0) F dL_quiet_2 rfl rfl ?_
    refine r_iload_n (i := 1) F dL_quiet_3 rfl rfl ?_
    refine r_callV F (C_X4_quiet hI hD hT hcn hh hx9 h0) dL_quiet_4 lkv_L_75 rfl rfl rfl rfl rfl cd_X4_quiet (by decide) ⟨Nat.zero_le _, Nat.zero_le _⟩ (Nat.le_of_ble_eq_true rfl) ?_
    refine r_i2l F dL_quiet_7 ?_
    refine ls_35 F dL_quiet_8 ?_
    refine r_goto (tgt := 15) F dL_quiet_9 (by decide) ?_
    refine r_iconst F dL_quiet_15 ?_
    refine V.wide (kc1 := 1) (ks1 := 6) (by decide) (by decide) ?_
    exact r_iret F dL_quiet_16 rfl rfl rfl
  · rw [if_neg h0]
    have hc : cRng1 x 0 15 = 1 := by unfold cRng1 at h0 ⊢; (repeat' split) <;> first | omega | (simp_all; done)
    have hk := hc
    rw [hk]
    refine Hx.mk (lv := [some _, some _, some _, none]) 1 hl9 (by decide) rfl (Nat.le_of_ble_eq_true rfl) (fun p e s m below meth c F G htab => ?_)
    refine r_aload_n (i := 2) F dL_quiet_0 rfl rfl ?_
    refine r_iconst F dL_quiet_1 ?_
    refine r_aload_n (i := 0) F dL_quiet_2 rfl rfl ?_
    refine r_iload_n (i := 1) F dL_quiet_3 rfl rfl ?_
    refine r_catchV (tgt := 12) F G htab [] ⟨0, 9, 12, 13⟩ [] rfl (fun z hz => absurd hz List.not_mem_nil) rfl rfl (by decide) tk_L_13 tc_eI (T_X4_quiet hl9 hI hx9 h0 (show eI = exI (cRng1 x 0 15) by rw [hk] <;> rfl)) dL_quiet_4 lkv_L_75 rfl rfl rfl rfl rfl cd_X4_quiet (by decide) ⟨Nat.le_refl _, Nat.le_refl _⟩ (Nat.le_of_ble_eq_true rfl) (fun q => ?_)
    refine r_astore_n (i := 3) (lv1 := [_, _, _, _]) F dL_quiet_12 rfl (by decide) rfl rfl ?_
    refine r_iconst F dL_quiet_13 ?_
    exact r_iret F dL_quiet_14 rfl rfl rfl
