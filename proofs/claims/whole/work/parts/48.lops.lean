/-! The law: each of its calls. -/
set_option maxHeartbeats 4000000 in
set_option maxRecDepth 100000 in
theorem L_setRoom {p : Program} {l : Launch} {e : Env} {s : State} {m : MethodId} {args : Array Value} {below : List Frame} {meth : Method} {c : Code} {ret : Option FieldType} {cy : Nat → ClassId} {D : va_G} {ad : Nat → Nat → Int → Nat} {A : Nat → Prop} {kc ks : Nat} {Q : State → Prop} {M : Mem} {b L k : Nat} {xs : Nat → Int32} (F : Fx p s m args meth c RL code 9 ret cy D ad A) (G : Gx l s A) (hX : va_X b L xs s s.heap) (hbl : b < s.heap.size) (hbA : ¬ A b) (hL : L ≤ 2048) (hj : 4 * (k : Int) + 4 ≤ L) (hR : kc + 1 ≤ room_1.cells ∧ ks + 6 ≤ room_1.slots) (hLI : LI k M) (hk : ∀ M' : Mem, LI (k + 1) M' → V p l e room_1 s m args below meth c 9 cy D ad A (kc + 1) (ks + 6) Q 1495 (LH b ad k) [] (M')) : V p l e room_1 s m args below meth c 9 cy D ad A kc ks Q 140 (LH b ad k) [] (M) := by
  obtain ⟨S, hS⟩ : ∃ S, S = M 0 := ⟨_, rfl⟩
  obtain ⟨T, hT0⟩ : ∃ T, T = M 1 := ⟨_, rfl⟩
  obtain ⟨a2, hI, hD, hhr, hT, hcn⟩ := id hLI
  rw [← hS] at a2 hI hD hhr hcn
  rw [← hT0] at hT hcn
  have hh : 0 ≤ S 20 0 ∧ S 20 0 < 900000 := by omega
  have ic := hI.pc
  obtain ⟨x, ex1, hx9⟩ : ∃ x, xs (4 * (k : Int) + 1).toNat = i32 x ∧ ir x := ⟨_, (i32_of _).symm, ir_toInt _⟩
  obtain ⟨q, ex2, hq9⟩ : ∃ x, xs (4 * (k : Int) + 2).toNat = i32 x ∧ ir x := ⟨_, (i32_of _).symm, ir_toInt _⟩
  have hH := H_setRoom (l := l) (cy := cy) (D := D) (ad := ad) (M := M) G.1 hI hx9 hq9
  by_cases h0 : cSetRoom S x q = 0
  · rw [h0, if_pos rfl] at hH
    have hC := C_X6_setRoom (l := l) (cy := cy) (D := D) (ad := ad) (M := outM (setc M 0 (u2 S 0 x q)) (S 0 x)) hI hx9 hq9
    rw [h0, if_pos rfl, if_pos rfl] at hC
    refine V.cast (self0 hS) ?_
    refine r_aload_n (i := 1) F dL_law_140 rfl rfl ?_
    refine r_aload_n (i := 0) F dL_law_141 rfl rfl ?_
    refine r_iload F dL_law_142 rfl ?_
    refine r_iconst F dL_law_144 ?_
    refine r_iadd F dL_law_145 ?_
    refine r_sld F hX hbl hbA ex1 (by omega) (by omega) hL dL_law_146 ?_
    refine r_aload_n (i := 0) F dL_law_147 rfl rfl ?_
    refine r_iload F dL_law_148 rfl ?_
    refine r_iconst F dL_law_150 ?_
    refine r_iadd F dL_law_151 ?_
    refine r_sld F hX hbl hbA ex2 (by omega) (by omega) hL dL_law_152 ?_
    refine r_aload_n (i := 3) F dL_law_153 rfl rfl ?_
    refine r_callH F G hH dL_law_154 lks_L_82 rfl rfl cw_L_setRoom (by decide) ⟨by omega, by omega⟩ (Nat.le_of_ble_eq_true rfl) ?_
    refine r_istore (lv1 := [_, _, _, _, _, _, _, _, _]) F dL_law_157 (by decide) rfl rfl ?_
    refine r_aload_n (i := 2) F dL_law_159 rfl rfl ?_
    refine r_aload_n (i := 0) F dL_law_160 rfl rfl ?_
    refine r_iload F dL_law_161 rfl ?_
    refine r_iconst F dL_law_163 ?_
    refine r_iadd F dL_law_164 ?_
    refine r_sld F hX hbl hbA ex1 (by omega) (by omega) hL dL_law_165 ?_
    refine r_aload_n (i := 0) F dL_law_166 rfl rfl ?_
    refine r_iload F dL_law_167 rfl ?_
    refine r_iconst F dL_law_169 ?_
    refine r_iadd F dL_law_170 ?_
    refine r_sld F hX hbl hbA ex2 (by omega) (by omega) hL dL_law_171 ?_
    refine V.cast (self2 (S := S) (by rw [outM_ne _ _ (by decide), setc_ne _ _ (by decide)]; exact a2)) ?_
    refine r_callV F hC dL_law_172 lkv_L_87 rfl rfl rfl rfl rfl cd_X6_setRoom (by decide) ⟨by omega, by omega⟩ (Nat.le_of_ble_eq_true rfl) ?_
    refine r_istore (lv1 := [_, _, _, _, _, _, _, _, _]) F dL_law_175 (by decide) rfl rfl ?_
    refine r_aload_n (i := 2) F dL_law_177 rfl rfl ?_
    refine r_callV F C_X6_thrown dL_law_178 lkv_L_88 rfl rfl rfl rfl rfl cd_X6_thrown (by decide) ⟨by omega, by omega⟩ (Nat.le_of_ble_eq_true rfl) ?_
    rw [thr_rd]
    refine r_iload F dL_law_181 rfl ?_
    refine r_sameq (tgt := 188) F dL_law_183 (by decide) ?_
    refine r_iload F dL_law_188 rfl ?_
    refine r_if_ne (tgt := 205) F dL_law_190 (by decide) (ir_of (by decide) (by decide)) (fun h => absurd rfl h) (fun _ => ?_)
    refine r_aload_n (i := 3) F dL_law_193 rfl rfl ?_
    refine r_iconst F dL_law_194 ?_
    refine lo_35 F dL_law_195 ?_
    rw [out_rd]
    refine r_iload F dL_law_196 rfl ?_
    refine r_i2l F dL_law_198 ?_
    refine r_lcmpE F dL_law_199 ?_
    refine r_if_eq (tgt := 205) F dL_law_200 (by decide) (ir_of (by decide) (by decide)) (fun _ => ?_) (fun h => absurd rfl h)
    refine r_goto (tgt := 1495) F dL_law_205 (by decide) ?_
    refine V.kill (lv1 := [_, _, _, _, _, _, _, _, _]) 5 rfl ?_
    refine V.kill (lv1 := [_, _, _, _, _, _, _, _, _]) 6 rfl ?_
    have hok : (0 ≤ x ∧ x ≤ 15) ∧ (0 ≤ q ∧ q ≤ 30) ∧ S 1 x ≤ q := by unfold cSetRoom at h0; (repeat' split at h0) <;> omega
    refine hk _ (LI.step (S1 := u2 S 0 x q) hLI (inv0 hI (by omega)) (dead_u2 hD (by omega) (by omega) (by omega) (by omega) (by omega)) ?_ ?_ (by rw [setc_ne _ _ (by decide), thr_ne _ _ (by decide), outM_ne _ _ (by decide), setc_at]) (by rw [setc_at]) (by rw [setc_ne _ _ (by decide), thr_ne _ _ (by decide), outM_ne _ _ (by decide), setc_ne _ _ (by decide)]))
    · rw [← hS]; exact ⟨hh.1, by show S 20 0 ≤ S 20 0 + 60; omega⟩
    · rw [← hS]; exact ⟨Int.le_refl _, Int.le_refl _, Int.le_refl _⟩
  · rw [if_neg h0] at hH
    have hb : 0 ≤ cSetRoom S x q ∧ cSetRoom S x q ≤ 3 := by unfold cSetRoom; (repeat' split) <;> omega
    have hC := C_X6_setRoom (l := l) (cy := cy) (D := D) (ad := ad) (M := setc M 0 S) hI hx9 hq9
    rw [if_neg h0, if_neg h0] at hC
    refine V.cast (self0 hS) ?_
    refine r_aload_n (i := 1) F dL_law_140 rfl rfl ?_
    refine r_aload_n (i := 0) F dL_law_141 rfl rfl ?_
    refine r_iload F dL_law_142 rfl ?_
    refine r_iconst F dL_law_144 ?_
    refine r_iadd F dL_law_145 ?_
    refine r_sld F hX hbl hbA ex1 (by omega) (by omega) hL dL_law_146 ?_
    refine r_aload_n (i := 0) F dL_law_147 rfl rfl ?_
    refine r_iload F dL_law_148 rfl ?_
    refine r_iconst F dL_law_150 ?_
    refine r_iadd F dL_law_151 ?_
    refine r_sld F hX hbl hbA ex2 (by omega) (by omega) hL dL_law_152 ?_
    refine r_aload_n (i := 3) F dL_law_153 rfl rfl ?_
    refine r_callH F G hH dL_law_154 lks_L_82 rfl rfl cw_L_setRoom (by decide) ⟨by omega, by omega⟩ (Nat.le_of_ble_eq_true rfl) ?_
    refine r_istore (lv1 := [_, _, _, _, _, _, _, _, _]) F dL_law_157 (by decide) rfl rfl ?_
    refine r_aload_n (i := 2) F dL_law_159 rfl rfl ?_
    refine r_aload_n (i := 0) F dL_law_160 rfl rfl ?_
    refine r_iload F dL_law_161 rfl ?_
    refine r_iconst F dL_law_163 ?_
    refine r_iadd F dL_law_164 ?_
    refine r_sld F hX hbl hbA ex1 (by omega) (by omega) hL dL_law_165 ?_
    refine r_aload_n (i := 0) F dL_law_166 rfl rfl ?_
    refine r_iload F dL_law_167 rfl ?_
    refine r_iconst F dL_law_169 ?_
    refine r_iadd F dL_law_170 ?_
    refine r_sld F hX hbl hbA ex2 (by omega) (by omega) hL dL_law_171 ?_
    refine V.cast (self2 (S := S) (by rw [setc_ne _ _ (by decide)]; exact a2)) ?_
    refine r_callV F hC dL_law_172 lkv_L_87 rfl rfl rfl rfl rfl cd_X6_setRoom (by decide) ⟨by omega, by omega⟩ (Nat.le_of_ble_eq_true rfl) ?_
    refine r_istore (lv1 := [_, _, _, _, _, _, _, _, _]) F dL_law_175 (by decide) rfl rfl ?_
    refine r_aload_n (i := 2) F dL_law_177 rfl rfl ?_
    refine r_callV F C_X6_thrown dL_law_178 lkv_L_88 rfl rfl rfl rfl rfl cd_X6_thrown (by decide) ⟨by omega, by omega⟩ (Nat.le_of_ble_eq_true rfl) ?_
    rw [thr_rd]
    refine r_iload F dL_law_181 rfl ?_
    refine r_sameq (tgt := 188) F dL_law_183 (by decide) ?_
    refine r_iload F dL_law_188 rfl ?_
    refine r_if_ne (tgt := 205) F dL_law_190 (by decide) (ir_of (by omega) (by omega)) (fun _ => ?_) (fun h => absurd h h0)
    refine r_goto (tgt := 1495) F dL_law_205 (by decide) ?_
    refine V.kill (lv1 := [_, _, _, _, _, _, _, _, _]) 5 rfl ?_
    refine V.kill (lv1 := [_, _, _, _, _, _, _, _, _]) 6 rfl ?_
    exact hk _ (LI.same hLI (by rw [setc_ne _ _ (by decide), thr_ne _ _ (by decide), setc_at, hS]) (by rw [setc_at, hS]) (by rw [setc_ne _ _ (by decide), thr_ne _ _ (by decide), setc_ne _ _ (by decide)]))
set_option maxHeartbeats 4000000 in
set_option maxRecDepth 100000 in
theorem L_setCode {p : Program} {l : Launch} {e : Env} {s : State} {m : MethodId} {args : Array Value} {below : List Frame} {meth : Method} {c : Code} {ret : Option FieldType} {cy : Nat → ClassId} {D : va_G} {ad : Nat → Nat → Int → Nat} {A : Nat → Prop} {kc ks : Nat} {Q : State → Prop} {M : Mem} {b L k : Nat} {xs : Nat → Int32} (F : Fx p s m args meth c RL code 9 ret cy D ad A) (G : Gx l s A) (hX : va_X b L xs s s.heap) (hbl : b < s.heap.size) (hbA : ¬ A b) (hL : L ≤ 2048) (hj : 4 * (k : Int) + 4 ≤ L) (hR : kc + 1 ≤ room_1.cells ∧ ks + 6 ≤ room_1.slots) (hLI : LI k M) (hk : ∀ M' : Mem, LI (k + 1) M' → V p l e room_1 s m args below meth c 9 cy D ad A (kc + 1) (ks + 6) Q 1495 (LH b ad k) [] (M')) : V p l e room_1 s m args below meth c 9 cy D ad A kc ks Q 208 (LH b ad k) [] (M) := by
  obtain ⟨S, hS⟩ : ∃ S, S = M 0 := ⟨_, rfl⟩
  obtain ⟨T, hT0⟩ : ∃ T, T = M 1 := ⟨_, rfl⟩
  obtain ⟨a2, hI, hD, hhr, hT, hcn⟩ := id hLI
  rw [← hS] at a2 hI hD hhr hcn
  rw [← hT0] at hT hcn
  have hh : 0 ≤ S 20 0 ∧ S 20 0 < 900000 := by omega
  have ic := hI.pc
  obtain ⟨x, ex1, hx9⟩ : ∃ x, xs (4 * (k : Int) + 1).toNat = i32 x ∧ ir x := ⟨_, (i32_of _).symm, ir_toInt _⟩
  obtain ⟨q, ex2, hq9⟩ : ∃ x, xs (4 * (k : Int) + 2).toNat = i32 x ∧ ir x := ⟨_, (i32_of _).symm, ir_toInt _⟩
  have hH := H_setCode (l := l) (cy := cy) (D := D) (ad := ad) (M := M) G.1 hI hx9 hq9
  by_cases h0 : cSetCode x q = 0
  · rw [h0, if_pos rfl] at hH
    have hC := C_X6_setCode (l := l) (cy := cy) (D := D) (ad := ad) (M := outM (setc M 0 (u2 (u2 S 2 x q) 3 x 0)) (S 2 x)) hI hx9 hq9
    rw [h0, if_pos rfl, if_pos rfl] at hC
    refine V.cast (self0 hS) ?_
    refine r_aload_n (i := 1) F dL_law_208 rfl rfl ?_
    refine r_aload_n (i := 0) F dL_law_209 rfl rfl ?_
    refine r_iload F dL_law_210 rfl ?_
    refine r_iconst F dL_law_212 ?_
    refine r_iadd F dL_law_213 ?_
    refine r_sld F hX hbl hbA ex1 (by omega) (by omega) hL dL_law_214 ?_
    refine r_aload_n (i := 0) F dL_law_215 rfl rfl ?_
    refine r_iload F dL_law_216 rfl ?_
    refine r_iconst F dL_law_218 ?_
    refine r_iadd F dL_law_219 ?_
    refine r_sld F hX hbl hbA ex2 (by omega) (by omega) hL dL_law_220 ?_
    refine r_aload_n (i := 3) F dL_law_221 rfl rfl ?_
    refine r_callH F G hH dL_law_222 lks_L_92 rfl rfl cw_L_setCode (by decide) ⟨by omega, by omega⟩ (Nat.le_of_ble_eq_true rfl) ?_
    refine r_istore (lv1 := [_, _, _, _, _, _, _, _, _]) F dL_law_225 (by decide) rfl rfl ?_
    refine r_aload_n (i := 2) F dL_law_227 rfl rfl ?_
    refine r_aload_n (i := 0) F dL_law_228 rfl rfl ?_
    refine r_iload F dL_law_229 rfl ?_
    refine r_iconst F dL_law_231 ?_
    refine r_iadd F dL_law_232 ?_
    refine r_sld F hX hbl hbA ex1 (by omega) (by omega) hL dL_law_233 ?_
    refine r_aload_n (i := 0) F dL_law_234 rfl rfl ?_
    refine r_iload F dL_law_235 rfl ?_
    refine r_iconst F dL_law_237 ?_
    refine r_iadd F dL_law_238 ?_
    refine r_sld F hX hbl hbA ex2 (by omega) (by omega) hL dL_law_239 ?_
    refine V.cast (self2 (S := S) (by rw [outM_ne _ _ (by decide), setc_ne _ _ (by decide)]; exact a2)) ?_
    refine r_callV F hC dL_law_240 lkv_L_94 rfl rfl rfl rfl rfl cd_X6_setCode (by decide) ⟨by omega, by omega⟩ (Nat.le_of_ble_eq_true rfl) ?_
    refine r_istore (lv1 := [_, _, _, _, _, _, _, _, _]) F dL_law_243 (by decide) rfl rfl ?_
    refine r_aload_n (i := 2) F dL_law_245 rfl rfl ?_
    refine r_callV F C_X6_thrown dL_law_246 lkv_L_88 rfl rfl rfl rfl rfl cd_X6_thrown (by decide) ⟨by omega, by omega⟩ (Nat.le_of_ble_eq_true rfl) ?_
    rw [thr_rd]
    refine r_iload F dL_law_249 rfl ?_
    refine r_sameq (tgt := 256) F dL_law_251 (by decide) ?_
    refine r_iload F dL_law_256 rfl ?_
    refine r_if_ne (tgt := 273) F dL_law_258 (by decide) (ir_of (by decide) (by decide)) (fun h => absurd rfl h) (fun _ => ?_)
    refine r_aload_n (i := 3) F dL_law_261 rfl rfl ?_
    refine r_iconst F dL_law_262 ?_
    refine lo_35 F dL_law_263 ?_
    rw [out_rd]
    refine r_iload F dL_law_264 rfl ?_
    refine r_i2l F dL_law_266 ?_
    refine r_lcmpE F dL_law_267 ?_
    refine r_if_eq (tgt := 273) F dL_law_268 (by decide) (ir_of (by decide) (by decide)) (fun _ => ?_) (fun h => absurd rfl h)
    refine r_goto (tgt := 1495) F dL_law_273 (by decide) ?_
    refine V.kill (lv1 := [_, _, _, _, _, _, _, _, _]) 5 rfl ?_
    refine V.kill (lv1 := [_, _, _, _, _, _, _, _, _]) 6 rfl ?_
    have hok : (1 ≤ x ∧ x ≤ 7) ∧ (-1 ≤ q ∧ q ≤ 15) := by unfold cSetCode at h0; (repeat' split at h0) <;> omega
    refine hk _ (LI.step (S1 := u2 (u2 S 2 x q) 3 x 0) hLI (inv3 (inv2 hI (by omega)) (fun _ => rfl)) (dead_u2 (dead_u2 hD (by omega) (by omega) (by omega) (by omega) (by omega)) (by omega) (by omega) (by omega) (by omega) (by omega)) ?_ ?_ (by rw [setc_ne _ _ (by decide), thr_ne _ _ (by decide), outM_ne _ _ (by decide), setc_at]) (by rw [setc_at]) (by rw [setc_ne _ _ (by decide), thr_ne _ _ (by decide), outM_ne _ _ (by decide), setc_ne _ _ (by decide)]))
    · rw [← hS]; exact ⟨hh.1, by show S 20 0 ≤ S 20 0 + 60; omega⟩
    · rw [← hS]; exact ⟨Int.le_refl _, Int.le_refl _, Int.le_refl _⟩
  · rw [if_neg h0] at hH
    have hb : 0 ≤ cSetCode x q ∧ cSetCode x q ≤ 3 := by unfold cSetCode; (repeat' split) <;> omega
    have hC := C_X6_setCode (l := l) (cy := cy) (D := D) (ad := ad) (M := setc M 0 S) hI hx9 hq9
    rw [if_neg h0, if_neg h0] at hC
    refine V.cast (self0 hS) ?_
    refine r_aload_n (i := 1) F dL_law_208 rfl rfl ?_
    refine r_aload_n (i := 0) F dL_law_209 rfl rfl ?_
    refine r_iload F dL_law_210 rfl ?_
    refine r_iconst F dL_law_212 ?_
    refine r_iadd F dL_law_213 ?_
    refine r_sld F hX hbl hbA ex1 (by omega) (by omega) hL dL_law_214 ?_
    refine r_aload_n (i := 0) F dL_law_215 rfl rfl ?_
    refine r_iload F dL_law_216 rfl ?_
    refine r_iconst F dL_law_218 ?_
    refine r_iadd F dL_law_219 ?_
    refine r_sld F hX hbl hbA ex2 (by omega) (by omega) hL dL_law_220 ?_
    refine r_aload_n (i := 3) F dL_law_221 rfl rfl ?_
    refine r_callH F G hH dL_law_222 lks_L_92 rfl rfl cw_L_setCode (by decide) ⟨by omega, by omega⟩ (Nat.le_of_ble_eq_true rfl) ?_
    refine r_istore (lv1 := [_, _, _, _, _, _, _, _, _]) F dL_law_225 (by decide) rfl rfl ?_
    refine r_aload_n (i := 2) F dL_law_227 rfl rfl ?_
    refine r_aload_n (i := 0) F dL_law_228 rfl rfl ?_
    refine r_iload F dL_law_229 rfl ?_
    refine r_iconst F dL_law_231 ?_
    refine r_iadd F dL_law_232 ?_
    refine r_sld F hX hbl hbA ex1 (by omega) (by omega) hL dL_law_233 ?_
    refine r_aload_n (i := 0) F dL_law_234 rfl rfl ?_
    refine r_iload F dL_law_235 rfl ?_
    refine r_iconst F dL_law_237 ?_
    refine r_iadd F dL_law_238 ?_
    refine r_sld F hX hbl hbA ex2 (by omega) (by omega) hL dL_law_239 ?_
    refine V.cast (self2 (S := S) (by rw [setc_ne _ _ (by decide)]; exact a2)) ?_
    refine r_callV F hC dL_law_240 lkv_L_94 rfl rfl rfl rfl rfl cd_X6_setCode (by decide) ⟨by omega, by omega⟩ (Nat.le_of_ble_eq_true rfl) ?_
    refine r_istore (lv1 := [_, _, _, _, _, _, _, _, _]) F dL_law_243 (by decide) rfl rfl ?_
    refine r_aload_n (i := 2) F dL_law_245 rfl rfl ?_
    refine r_callV F C_X6_thrown dL_law_246 lkv_L_88 rfl rfl rfl rfl rfl cd_X6_thrown (by decide) ⟨by omega, by omega⟩ (Nat.le_of_ble_eq_true rfl) ?_
    rw [thr_rd]
    refine r_iload F dL_law_249 rfl ?_
    refine r_sameq (tgt := 256) F dL_law_251 (by decide) ?_
    refine r_iload F dL_law_256 rfl ?_
    refine r_if_ne (tgt := 273) F dL_law_258 (by decide) (ir_of (by omega) (by omega)) (fun _ => ?_) (fun h => absurd h h0)
    refine r_goto (tgt := 1495) F dL_law_273 (by decide) ?_
    refine V.kill (lv1 := [_, _, _, _, _, _, _, _, _]) 5 rfl ?_
    refine V.kill (lv1 := [_, _, _, _, _, _, _, _, _]) 6 rfl ?_
    exact hk _ (LI.same hLI (by rw [setc_ne _ _ (by decide), thr_ne _ _ (by decide), setc_at, hS]) (by rw [setc_at, hS]) (by rw [setc_ne _ _ (by decide), thr_ne _ _ (by decide), setc_ne _ _ (by decide)]))
set_option maxHeartbeats 4000000 in
set_option maxRecDepth 100000 in
theorem L_lantern {p : Program} {l : Launch} {e : Env} {s : State} {m : MethodId} {args : Array Value} {below : List Frame} {meth : Method} {c : Code} {ret : Option FieldType} {cy : Nat → ClassId} {D : va_G} {ad : Nat → Nat → Int → Nat} {A : Nat → Prop} {kc ks : Nat} {Q : State → Prop} {M : Mem} {b L k : Nat} {xs : Nat → Int32} (F : Fx p s m args meth c RL code 9 ret cy D ad A) (G : Gx l s A) (hX : va_X b L xs s s.heap) (hbl : b < s.heap.size) (hbA : ¬ A b) (hL : L ≤ 2048) (hj : 4 * (k : Int) + 4 ≤ L) (hR : kc + 1 ≤ room_1.cells ∧ ks + 6 ≤ room_1.slots) (hLI : LI k M) (hk : ∀ M' : Mem, LI (k + 1) M' → V p l e room_1 s m args below meth c 9 cy D ad A (kc + 1) (ks + 6) Q 1495 (LH b ad k) [] (M')) : V p l e room_1 s m args below meth c 9 cy D ad A kc ks Q 276 (LH b ad k) [] (M) := by
  obtain ⟨S, hS⟩ : ∃ S, S = M 0 := ⟨_, rfl⟩
  obtain ⟨T, hT0⟩ : ∃ T, T = M 1 := ⟨_, rfl⟩
  obtain ⟨a2, hI, hD, hhr, hT, hcn⟩ := id hLI
  rw [← hS] at a2 hI hD hhr hcn
  rw [← hT0] at hT hcn
  have hh : 0 ≤ S 20 0 ∧ S 20 0 < 900000 := by omega
  have ic := hI.pc
  obtain ⟨x, ex1, hx9⟩ : ∃ x, xs (4 * (k : Int) + 1).toNat = i32 x ∧ ir x := ⟨_, (i32_of _).symm, ir_toInt _⟩
  have hH := H_lantern (l := l) (cy := cy) (D := D) (ad := ad) (M := M) G.1 hI hx9
  by_cases h0 : cLantern S x = 0
  · rw [h0, if_pos rfl] at hH
    have hC := C_X6_lantern (l := l) (cy := cy) (D := D) (ad := ad) (M := outM (setc M 0 (sLantern S x)) (S 20 1)) hI hx9
    rw [h0, if_pos rfl, if_pos rfl] at hC
    refine V.cast (self0 hS) ?_
    refine r_aload_n (i := 1) F dL_law_276 rfl rfl ?_
    refine r_aload_n (i := 0) F dL_law_277 rfl rfl ?_
    refine r_iload F dL_law_278 rfl ?_
    refine r_iconst F dL_law_280 ?_
    refine r_iadd F dL_law_281 ?_
    refine r_sld F hX hbl hbA ex1 (by omega) (by omega) hL dL_law_282 ?_
    refine r_aload_n (i := 3) F dL_law_283 rfl rfl ?_
    refine r_callH F G hH dL_law_284 lks_L_95 rfl rfl cw_L_lantern (by decide) ⟨by omega, by omega⟩ (Nat.le_of_ble_eq_true rfl) ?_
    refine r_istore (lv1 := [_, _, _, _, _, _, _, _, _]) F dL_law_287 (by decide) rfl rfl ?_
    refine r_aload_n (i := 2) F dL_law_289 rfl rfl ?_
    refine r_aload_n (i := 0) F dL_law_290 rfl rfl ?_
    refine r_iload F dL_law_291 rfl ?_
    refine r_iconst F dL_law_293 ?_
    refine r_iadd F dL_law_294 ?_
    refine r_sld F hX hbl hbA ex1 (by omega) (by omega) hL dL_law_295 ?_
    refine V.cast (self2 (S := S) (by rw [outM_ne _ _ (by decide), setc_ne _ _ (by decide)]; exact a2)) ?_
    refine r_callV F hC dL_law_296 lkv_L_98 rfl rfl rfl rfl rfl cd_X6_lantern (by decide) ⟨by omega, by omega⟩ (Nat.le_of_ble_eq_true rfl) ?_
    refine r_istore (lv1 := [_, _, _, _, _, _, _, _, _]) F dL_law_299 (by decide) rfl rfl ?_
    refine r_aload_n (i := 2) F dL_law_301 rfl rfl ?_
    refine r_callV F C_X6_thrown dL_law_302 lkv_L_88 rfl rfl rfl rfl rfl cd_X6_thrown (by decide) ⟨by omega, by omega⟩ (Nat.le_of_ble_eq_true rfl) ?_
    rw [thr_rd]
    refine r_iload F dL_law_305 rfl ?_
    refine r_sameq (tgt := 312) F dL_law_307 (by decide) ?_
    refine r_iload F dL_law_312 rfl ?_
    refine r_if_ne (tgt := 329) F dL_law_314 (by decide) (ir_of (by decide) (by decide)) (fun h => absurd rfl h) (fun _ => ?_)
    refine r_aload_n (i := 3) F dL_law_317 rfl rfl ?_
    refine r_iconst F dL_law_318 ?_
    refine lo_35 F dL_law_319 ?_
    rw [out_rd]
    refine r_iload F dL_law_320 rfl ?_
    refine r_i2l F dL_law_322 ?_
    refine r_lcmpE F dL_law_323 ?_
    refine r_if_eq (tgt := 329) F dL_law_324 (by decide) (ir_of (by decide) (by decide)) (fun _ => ?_) (fun h => absurd rfl h)
    refine r_goto (tgt := 1495) F dL_law_329 (by decide) ?_
    refine V.kill (lv1 := [_, _, _, _, _, _, _, _, _]) 5 rfl ?_
    refine V.kill (lv1 := [_, _, _, _, _, _, _, _, _]) 6 rfl ?_
    have hok : (0 ≤ x ∧ x ≤ 15) ∧ S 20 1 < 5 := by unfold cLantern at h0; (repeat' split at h0) <;> omega
    refine hk _ (LI.step (S1 := sLantern S x) hLI (inv201 (inv4 hI (by omega)) (by omega)) (dead_lantern hD) ?_ ?_ (by rw [setc_ne _ _ (by decide), thr_ne _ _ (by decide), outM_ne _ _ (by decide), setc_at]) (by rw [setc_at]) (by rw [setc_ne _ _ (by decide), thr_ne _ _ (by decide), outM_ne _ _ (by decide), setc_ne _ _ (by decide)]))
    · rw [← hS]; exact ⟨hh.1, by show S 20 0 ≤ S 20 0 + 60; omega⟩
    · rw [← hS]; exact ⟨by show S 20 1 ≤ S 20 1 + 1; omega, Int.le_refl _, Int.le_refl _⟩
  · rw [if_neg h0] at hH
    have hb : 0 ≤ cLantern S x ∧ cLantern S x ≤ 3 := by unfold cLantern; (repeat' split) <;> omega
    have hC := C_X6_lantern (l := l) (cy := cy) (D := D) (ad := ad) (M := setc M 0 S) hI hx9
    rw [if_neg h0, if_neg h0] at hC
    refine V.cast (self0 hS) ?_
    refine r_aload_n (i := 1) F dL_law_276 rfl rfl ?_
    refine r_aload_n (i := 0) F dL_law_277 rfl rfl ?_
    refine r_iload F dL_law_278 rfl ?_
    refine r_iconst F dL_law_280 ?_
    refine r_iadd F dL_law_281 ?_
    refine r_sld F hX hbl hbA ex1 (by omega) (by omega) hL dL_law_282 ?_
    refine r_aload_n (i := 3) F dL_law_283 rfl rfl ?_
    refine r_callH F G hH dL_law_284 lks_L_95 rfl rfl cw_L_lantern (by decide) ⟨by omega, by omega⟩ (Nat.le_of_ble_eq_true rfl) ?_
    refine r_istore (lv1 := [_, _, _, _, _, _, _, _, _]) F dL_law_287 (by decide) rfl rfl ?_
    refine r_aload_n (i := 2) F dL_law_289 rfl rfl ?_
    refine r_aload_n (i := 0) F dL_law_290 rfl rfl ?_
    refine r_iload F dL_law_291 rfl ?_
    refine r_iconst F dL_law_293 ?_
    refine r_iadd F dL_law_294 ?_
    refine r_sld F hX hbl hbA ex1 (by omega) (by omega) hL dL_law_295 ?_
    refine V.cast (self2 (S := S) (by rw [setc_ne _ _ (by decide)]; exact a2)) ?_
    refine r_callV F hC dL_law_296 lkv_L_98 rfl rfl rfl rfl rfl cd_X6_lantern (by decide) ⟨by omega, by omega⟩ (Nat.le_of_ble_eq_true rfl) ?_
    refine r_istore (lv1 := [_, _, _, _, _, _, _, _, _]) F dL_law_299 (by decide) rfl rfl ?_
    refine r_aload_n (i := 2) F dL_law_301 rfl rfl ?_
    refine r_callV F C_X6_thrown dL_law_302 lkv_L_88 rfl rfl rfl rfl rfl cd_X6_thrown (by decide) ⟨by omega, by omega⟩ (Nat.le_of_ble_eq_true rfl) ?_
    rw [thr_rd]
    refine r_iload F dL_law_305 rfl ?_
    refine r_sameq (tgt := 312) F dL_law_307 (by decide) ?_
    refine r_iload F dL_law_312 rfl ?_
    refine r_if_ne (tgt := 329) F dL_law_314 (by decide) (ir_of (by omega) (by omega)) (fun _ => ?_) (fun h => absurd h h0)
    refine r_goto (tgt := 1495) F dL_law_329 (by decide) ?_
    refine V.kill (lv1 := [_, _, _, _, _, _, _, _, _]) 5 rfl ?_
    refine V.kill (lv1 := [_, _, _, _, _, _, _, _, _]) 6 rfl ?_
    exact hk _ (LI.same hLI (by rw [setc_ne _ _ (by decide), thr_ne _ _ (by decide), setc_at, hS]) (by rw [setc_at, hS]) (by rw [setc_ne _ _ (by decide), thr_ne _ _ (by decide), setc_ne _ _ (by decide)]))
set_option maxHeartbeats 4000000 in
set_option maxRecDepth 100000 in
theorem L_setShow {p : Program} {l : Launch} {e : Env} {s : State} {m : MethodId} {args : Array Value} {below : List Frame} {meth : Method} {c : Code} {ret : Option FieldType} {cy : Nat → ClassId} {D : va_G} {ad : Nat → Nat → Int → Nat} {A : Nat → Prop} {kc ks : Nat} {Q : State → Prop} {M : Mem} {b L k : Nat} {xs : Nat → Int32} (F : Fx p s m args meth c RL code 9 ret cy D ad A) (G : Gx l s A) (hX : va_X b L xs s s.heap) (hbl : b < s.heap.size) (hbA : ¬ A b) (hL : L ≤ 2048) (hj : 4 * (k : Int) + 4 ≤ L) (hR : kc + 1 ≤ room_1.cells ∧ ks + 6 ≤ room_1.slots) (hLI : LI k M) (hk : ∀ M' : Mem, LI (k + 1) M' → V p l e room_1 s m args below meth c 9 cy D ad A (kc + 1) (ks + 6) Q 1495 (LH b ad k) [] (M')) : V p l e room_1 s m args below meth c 9 cy D ad A kc ks Q 332 (LH b ad k) [] (M) := by
  obtain ⟨S, hS⟩ : ∃ S, S = M 0 := ⟨_, rfl⟩
  obtain ⟨T, hT0⟩ : ∃ T, T = M 1 := ⟨_, rfl⟩
  obtain ⟨a2, hI, hD, hhr, hT, hcn⟩ := id hLI
  rw [← hS] at a2 hI hD hhr hcn
  rw [← hT0] at hT hcn
  have hh : 0 ≤ S 20 0 ∧ S 20 0 < 900000 := by omega
  have ic := hI.pc
  obtain ⟨x, ex1, hx9⟩ : ∃ x, xs (4 * (k : Int) + 1).toNat = i32 x ∧ ir x := ⟨_, (i32_of _).symm, ir_toInt _⟩
  obtain ⟨w, ex2, hw9⟩ : ∃ x, xs (4 * (k : Int) + 2).toNat = i32 x ∧ ir x := ⟨_, (i32_of _).symm, ir_toInt _⟩
  obtain ⟨q, ex3, hq9⟩ : ∃ x, xs (4 * (k : Int) + 3).toNat = i32 x ∧ ir x := ⟨_, (i32_of _).symm, ir_toInt _⟩
  have hH := H_setShow (l := l) (cy := cy) (D := D) (ad := ad) (M := M) G.1 hI hx9 hw9 hq9
  by_cases h0 : cSetShow S x w q = 0
  · rw [h0, if_pos rfl] at hH
    have hC := C_X6_setShow (l := l) (cy := cy) (D := D) (ad := ad) (M := outM (setc M 0 (u2 S 5 (10 * x + w) q)) (S 5 (10 * x + w))) hI hx9 hw9 hq9
    rw [h0, if_pos rfl, if_pos rfl] at hC
    refine V.cast (self0 hS) ?_
    refine r_aload_n (i := 1) F dL_law_332 rfl rfl ?_
    refine r_aload_n (i := 0) F dL_law_333 rfl rfl ?_
    refine r_iload F dL_law_334 rfl ?_
    refine r_iconst F dL_law_336 ?_
    refine r_iadd F dL_law_337 ?_
    refine r_sld F hX hbl hbA ex1 (by omega) (by omega) hL dL_law_338 ?_
    refine r_aload_n (i := 0) F dL_law_339 rfl rfl ?_
    refine r_iload F dL_law_340 rfl ?_
    refine r_iconst F dL_law_342 ?_
    refine r_iadd F dL_law_343 ?_
    refine r_sld F hX hbl hbA ex2 (by omega) (by omega) hL dL_law_344 ?_
    refine r_aload_n (i := 0) F dL_law_345 rfl rfl ?_
    refine r_iload F dL_law_346 rfl ?_
    refine r_iconst F dL_law_348 ?_
    refine r_iadd F dL_law_349 ?_
    refine r_sld F hX hbl hbA ex3 (by omega) (by omega) hL dL_law_350 ?_
    refine r_aload_n (i := 3) F dL_law_351 rfl rfl ?_
    refine r_callH F G hH dL_law_352 lks_L_99 rfl rfl cw_L_setShow (by decide) ⟨by omega, by omega⟩ (Nat.le_of_ble_eq_true rfl) ?_
    refine r_istore (lv1 := [_, _, _, _, _, _, _, _, _]) F dL_law_355 (by decide) rfl rfl ?_
    refine r_aload_n (i := 2) F dL_law_357 rfl rfl ?_
    refine r_aload_n (i := 0) F dL_law_358 rfl rfl ?_
    refine r_iload F dL_law_359 rfl ?_
    refine r_iconst F dL_law_361 ?_
    refine r_iadd F dL_law_362 ?_
    refine r_sld F hX hbl hbA ex1 (by omega) (by omega) hL dL_law_363 ?_
    refine r_aload_n (i := 0) F dL_law_364 rfl rfl ?_
    refine r_iload F dL_law_365 rfl ?_
    refine r_iconst F dL_law_367 ?_
    refine r_iadd F dL_law_368 ?_
    refine r_sld F hX hbl hbA ex2 (by omega) (by omega) hL dL_law_369 ?_
    refine r_aload_n (i := 0) F dL_law_370 rfl rfl ?_
    refine r_iload F dL_law_371 rfl ?_
    refine r_iconst F dL_law_373 ?_
    refine r_iadd F dL_law_374 ?_
    refine r_sld F hX hbl hbA ex3 (by omega) (by omega) hL dL_law_375 ?_
    refine V.cast (self2 (S := S) (by rw [outM_ne _ _ (by decide), setc_ne _ _ (by decide)]; exact a2)) ?_
    refine r_callV F hC dL_law_376 lkv_L_102 rfl rfl rfl rfl rfl cd_X6_setShow (by decide) ⟨by omega, by omega⟩ (Nat.le_of_ble_eq_true rfl) ?_
    refine r_istore (lv1 := [_, _, _, _, _, _, _, _, _]) F dL_law_379 (by decide) rfl rfl ?_
    refine r_aload_n (i := 2) F dL_law_381 rfl rfl ?_
    refine r_callV F C_X6_thrown dL_law_382 lkv_L_88 rfl rfl rfl rfl rfl cd_X6_thrown (by decide) ⟨by omega, by omega⟩ (Nat.le_of_ble_eq_true rfl) ?_
    rw [thr_rd]
    refine r_iload F dL_law_385 rfl ?_
    refine r_sameq (tgt := 392) F dL_law_387 (by decide) ?_
    refine r_iload F dL_law_392 rfl ?_
    refine r_if_ne (tgt := 409) F dL_law_394 (by decide) (ir_of (by decide) (by decide)) (fun h => absurd rfl h) (fun _ => ?_)
    refine r_aload_n (i := 3) F dL_law_397 rfl rfl ?_
    refine r_iconst F dL_law_398 ?_
    refine lo_35 F dL_law_399 ?_
    rw [out_rd]
    refine r_iload F dL_law_400 rfl ?_
    refine r_i2l F dL_law_402 ?_
    refine r_lcmpE F dL_law_403 ?_
    refine r_if_eq (tgt := 409) F dL_law_404 (by decide) (ir_of (by decide) (by decide)) (fun _ => ?_) (fun h => absurd rfl h)
    refine r_goto (tgt := 1495) F dL_law_409 (by decide) ?_
    refine V.kill (lv1 := [_, _, _, _, _, _, _, _, _]) 5 rfl ?_
    refine V.kill (lv1 := [_, _, _, _, _, _, _, _, _]) 6 rfl ?_
    have hok : (0 ≤ x ∧ x ≤ S 20 1 - 1) ∧ (0 ≤ w ∧ w ≤ 9) ∧ (0 ≤ q ∧ q ≤ 7) := by unfold cSetShow at h0; (repeat' split at h0) <;> omega
    refine hk _ (LI.step (S1 := u2 S 5 (10 * x + w) q) hLI (inv5 hI (by omega)) (dead_u2 hD (by omega) (fun _ => by omega) (by omega) (by omega) (by omega)) ?_ ?_ (by rw [setc_ne _ _ (by decide), thr_ne _ _ (by decide), outM_ne _ _ (by decide), setc_at]) (by rw [setc_at]) (by rw [setc_ne _ _ (by decide), thr_ne _ _ (by decide), outM_ne _ _ (by decide), setc_ne _ _ (by decide)]))
    · rw [← hS]; exact ⟨hh.1, by show S 20 0 ≤ S 20 0 + 60; omega⟩
    · rw [← hS]; exact ⟨Int.le_refl _, Int.le_refl _, Int.le_refl _⟩
  · rw [if_neg h0] at hH
    have hb : 0 ≤ cSetShow S x w q ∧ cSetShow S x w q ≤ 3 := by unfold cSetShow; (repeat' split) <;> omega
    have hC := C_X6_setShow (l := l) (cy := cy) (D := D) (ad := ad) (M := setc M 0 S) hI hx9 hw9 hq9
    rw [if_neg h0, if_neg h0] at hC
    refine V.cast (self0 hS) ?_
    refine r_aload_n (i := 1) F dL_law_332 rfl rfl ?_
    refine r_aload_n (i := 0) F dL_law_333 rfl rfl ?_
    refine r_iload F dL_law_334 rfl ?_
    refine r_iconst F dL_law_336 ?_
    refine r_iadd F dL_law_337 ?_
    refine r_sld F hX hbl hbA ex1 (by omega) (by omega) hL dL_law_338 ?_
    refine r_aload_n (i := 0) F dL_law_339 rfl rfl ?_
    refine r_iload F dL_law_340 rfl ?_
    refine r_iconst F dL_law_342 ?_
    refine r_iadd F dL_law_343 ?_
    refine r_sld F hX hbl hbA ex2 (by omega) (by omega) hL dL_law_344 ?_
    refine r_aload_n (i := 0) F dL_law_345 rfl rfl ?_
    refine r_iload F dL_law_346 rfl ?_
    refine r_iconst F dL_law_348 ?_
    refine r_iadd F dL_law_349 ?_
    refine r_sld F hX hbl hbA ex3 (by omega) (by omega) hL dL_law_350 ?_
    refine r_aload_n (i := 3) F dL_law_351 rfl rfl ?_
    refine r_callH F G hH dL_law_352 lks_L_99 rfl rfl cw_L_setShow (by decide) ⟨by omega, by omega⟩ (Nat.le_of_ble_eq_true rfl) ?_
    refine r_istore (lv1 := [_, _, _, _, _, _, _, _, _]) F dL_law_355 (by decide) rfl rfl ?_
    refine r_aload_n (i := 2) F dL_law_357 rfl rfl ?_
    refine r_aload_n (i := 0) F dL_law_358 rfl rfl ?_
    refine r_iload F dL_law_359 rfl ?_
    refine r_iconst F dL_law_361 ?_
    refine r_iadd F dL_law_362 ?_
    refine r_sld F hX hbl hbA ex1 (by omega) (by omega) hL dL_law_363 ?_
    refine r_aload_n (i := 0) F dL_law_364 rfl rfl ?_
    refine r_iload F dL_law_365 rfl ?_
    refine r_iconst F dL_law_367 ?_
    refine r_iadd F dL_law_368 ?_
    refine r_sld F hX hbl hbA ex2 (by omega) (by omega) hL dL_law_369 ?_
    refine r_aload_n (i := 0) F dL_law_370 rfl rfl ?_
    refine r_iload F dL_law_371 rfl ?_
    refine r_iconst F dL_law_373 ?_
    refine r_iadd F dL_law_374 ?_
    refine r_sld F hX hbl hbA ex3 (by omega) (by omega) hL dL_law_375 ?_
    refine V.cast (self2 (S := S) (by rw [setc_ne _ _ (by decide)]; exact a2)) ?_
    refine r_callV F hC dL_law_376 lkv_L_102 rfl rfl rfl rfl rfl cd_X6_setShow (by decide) ⟨by omega, by omega⟩ (Nat.le_of_ble_eq_true rfl) ?_
    refine r_istore (lv1 := [_, _, _, _, _, _, _, _, _]) F dL_law_379 (by decide) rfl rfl ?_
    refine r_aload_n (i := 2) F dL_law_381 rfl rfl ?_
    refine r_callV F C_X6_thrown dL_law_382 lkv_L_88 rfl rfl rfl rfl rfl cd_X6_thrown (by decide) ⟨by omega, by omega⟩ (Nat.le_of_ble_eq_true rfl) ?_
    rw [thr_rd]
    refine r_iload F dL_law_385 rfl ?_
    refine r_sameq (tgt := 392) F dL_law_387 (by decide) ?_
    refine r_iload F dL_law_392 rfl ?_
    refine r_if_ne (tgt := 409) F dL_law_394 (by decide) (ir_of (by omega) (by omega)) (fun _ => ?_) (fun h => absurd h h0)
    refine r_goto (tgt := 1495) F dL_law_409 (by decide) ?_
    refine V.kill (lv1 := [_, _, _, _, _, _, _, _, _]) 5 rfl ?_
    refine V.kill (lv1 := [_, _, _, _, _, _, _, _, _]) 6 rfl ?_
    exact hk _ (LI.same hLI (by rw [setc_ne _ _ (by decide), thr_ne _ _ (by decide), setc_at, hS]) (by rw [setc_at, hS]) (by rw [setc_ne _ _ (by decide), thr_ne _ _ (by decide), setc_ne _ _ (by decide)]))
set_option maxHeartbeats 4000000 in
set_option maxRecDepth 100000 in
theorem L_watchman {p : Program} {l : Launch} {e : Env} {s : State} {m : MethodId} {args : Array Value} {below : List Frame} {meth : Method} {c : Code} {ret : Option FieldType} {cy : Nat → ClassId} {D : va_G} {ad : Nat → Nat → Int → Nat} {A : Nat → Prop} {kc ks : Nat} {Q : State → Prop} {M : Mem} {b L k : Nat} {xs : Nat → Int32} (F : Fx p s m args meth c RL code 9 ret cy D ad A) (G : Gx l s A) (hX : va_X b L xs s s.heap) (hbl : b < s.heap.size) (hbA : ¬ A b) (hL : L ≤ 2048) (hj : 4 * (k : Int) + 4 ≤ L) (hR : kc + 1 ≤ room_1.cells ∧ ks + 6 ≤ room_1.slots) (hLI : LI k M) (hk : ∀ M' : Mem, LI (k + 1) M' → V p l e room_1 s m args below meth c 9 cy D ad A (kc + 1) (ks + 6) Q 1495 (LH b ad k) [] (M')) : V p l e room_1 s m args below meth c 9 cy D ad A kc ks Q 412 (LH b ad k) [] (M) := by
  obtain ⟨S, hS⟩ : ∃ S, S = M 0 := ⟨_, rfl⟩
  obtain ⟨T, hT0⟩ : ∃ T, T = M 1 := ⟨_, rfl⟩
  obtain ⟨a2, hI, hD, hhr, hT, hcn⟩ := id hLI
  rw [← hS] at a2 hI hD hhr hcn
  rw [← hT0] at hT hcn
  have hh : 0 ≤ S 20 0 ∧ S 20 0 < 900000 := by omega
  have ic := hI.pc
  obtain ⟨f, ex1, hf9⟩ : ∃ x, xs (4 * (k : Int) + 1).toNat = i32 x ∧ ir x := ⟨_, (i32_of _).symm, ir_toInt _⟩
  obtain ⟨t, ex2, ht9⟩ : ∃ x, xs (4 * (k : Int) + 2).toNat = i32 x ∧ ir x := ⟨_, (i32_of _).symm, ir_toInt _⟩
  obtain ⟨g, ex3, hg9⟩ : ∃ x, xs (4 * (k : Int) + 3).toNat = i32 x ∧ ir x := ⟨_, (i32_of _).symm, ir_toInt _⟩
  have hH := H_watchman (l := l) (cy := cy) (D := D) (ad := ad) (M := M) G.1 hI hf9 ht9 hg9
  by_cases h0 : cWatch S f t g = 0
  · rw [h0, if_pos rfl] at hH
    have hC := C_X6_watchman (l := l) (cy := cy) (D := D) (ad := ad) (M := outM (setc M 0 (sWatch S f t g)) (S 20 2)) hI hD hf9 ht9 hg9
    rw [h0, if_pos rfl, if_pos rfl] at hC
    refine V.cast (self0 hS) ?_
    refine r_aload_n (i := 1) F dL_law_412 rfl rfl ?_
    refine r_aload_n (i := 0) F dL_law_413 rfl rfl ?_
    refine r_iload F dL_law_414 rfl ?_
    refine r_iconst F dL_law_416 ?_
    refine r_iadd F dL_law_417 ?_
    refine r_sld F hX hbl hbA ex1 (by omega) (by omega) hL dL_law_418 ?_
    refine r_aload_n (i := 0) F dL_law_419 rfl rfl ?_
    refine r_iload F dL_law_420 rfl ?_
    refine r_iconst F dL_law_422 ?_
    refine r_iadd F dL_law_423 ?_
    refine r_sld F hX hbl hbA ex2 (by omega) (by omega) hL dL_law_424 ?_
    refine r_aload_n (i := 0) F dL_law_425 rfl rfl ?_
    refine r_iload F dL_law_426 rfl ?_
    refine r_iconst F dL_law_428 ?_
    refine r_iadd F dL_law_429 ?_
    refine r_sld F hX hbl hbA ex3 (by omega) (by omega) hL dL_law_430 ?_
    refine r_aload_n (i := 3) F dL_law_431 rfl rfl ?_
    refine r_callH F G hH dL_law_432 lks_L_103 rfl rfl cw_L_watchman (by decide) ⟨by omega, by omega⟩ (Nat.le_of_ble_eq_true rfl) ?_
    refine r_istore (lv1 := [_, _, _, _, _, _, _, _, _]) F dL_law_435 (by decide) rfl rfl ?_
    refine r_aload_n (i := 2) F dL_law_437 rfl rfl ?_
    refine r_aload_n (i := 0) F dL_law_438 rfl rfl ?_
    refine r_iload F dL_law_439 rfl ?_
    refine r_iconst F dL_law_441 ?_
    refine r_iadd F dL_law_442 ?_
    refine r_sld F hX hbl hbA ex1 (by omega) (by omega) hL dL_law_443 ?_
    refine r_aload_n (i := 0) F dL_law_444 rfl rfl ?_
    refine r_iload F dL_law_445 rfl ?_
    refine r_iconst F dL_law_447 ?_
    refine r_iadd F dL_law_448 ?_
    refine r_sld F hX hbl hbA ex2 (by omega) (by omega) hL dL_law_449 ?_
    refine r_aload_n (i := 0) F dL_law_450 rfl rfl ?_
    refine r_iload F dL_law_451 rfl ?_
    refine r_iconst F dL_law_453 ?_
    refine r_iadd F dL_law_454 ?_
    refine r_sld F hX hbl hbA ex3 (by omega) (by omega) hL dL_law_455 ?_
    refine V.cast (self2 (S := S) (by rw [outM_ne _ _ (by decide), setc_ne _ _ (by decide)]; exact a2)) ?_
    refine r_callV F hC dL_law_456 lkv_L_105 rfl rfl rfl rfl rfl cd_X6_watchman (by decide) ⟨by omega, by omega⟩ (Nat.le_of_ble_eq_true rfl) ?_
    refine r_istore (lv1 := [_, _, _, _, _, _, _, _, _]) F dL_law_459 (by decide) rfl rfl ?_
    refine r_aload_n (i := 2) F dL_law_461 rfl rfl ?_
    refine r_callV F C_X6_thrown dL_law_462 lkv_L_88 rfl rfl rfl rfl rfl cd_X6_thrown (by decide) ⟨by omega, by omega⟩ (Nat.le_of_ble_eq_true rfl) ?_
    rw [thr_rd]
    refine r_iload F dL_law_465 rfl ?_
    refine r_sameq (tgt := 472) F dL_law_467 (by decide) ?_
    refine r_iload F dL_law_472 rfl ?_
    refine r_if_ne (tgt := 489) F dL_law_474 (by decide) (ir_of (by decide) (by decide)) (fun h => absurd rfl h) (fun _ => ?_)
    refine r_aload_n (i := 3) F dL_law_477 rfl rfl ?_
    refine r_iconst F dL_law_478 ?_
    refine lo_35 F dL_law_479 ?_
    rw [out_rd]
    refine r_iload F dL_law_480 rfl ?_
    refine r_i2l F dL_law_482 ?_
    refine r_lcmpE F dL_law_483 ?_
    refine r_if_eq (tgt := 489) F dL_law_484 (by decide) (ir_of (by decide) (by decide)) (fun _ => ?_) (fun h => absurd rfl h)
    refine r_goto (tgt := 1495) F dL_law_489 (by decide) ?_
    refine V.kill (lv1 := [_, _, _, _, _, _, _, _, _]) 5 rfl ?_
    refine V.kill (lv1 := [_, _, _, _, _, _, _, _, _]) 6 rfl ?_
    have hok : (0 ≤ f ∧ f ≤ 15) ∧ (0 ≤ t ∧ t ≤ 15) ∧ f ≤ t ∧ (0 ≤ g ∧ g ≤ 3) ∧ S 20 2 < 4 := by unfold cWatch at h0; (repeat' split at h0) <;> omega
    refine hk _ (LI.step (S1 := sWatch S f t g) hLI (inv_watch hI (by omega) (by omega) (by omega) (by omega) (by omega)) (dead_watch hD) ?_ ?_ (by rw [setc_ne _ _ (by decide), thr_ne _ _ (by decide), outM_ne _ _ (by decide), setc_at]) (by rw [setc_at]) (by rw [setc_ne _ _ (by decide), thr_ne _ _ (by decide), outM_ne _ _ (by decide), setc_ne _ _ (by decide)]))
    · rw [← hS]; exact ⟨hh.1, by show S 20 0 ≤ S 20 0 + 60; omega⟩
    · rw [← hS]; exact ⟨Int.le_refl _, by show S 20 2 ≤ S 20 2 + 1; omega, Int.le_refl _⟩
  · rw [if_neg h0] at hH
    have hb : 0 ≤ cWatch S f t g ∧ cWatch S f t g ≤ 3 := by unfold cWatch; (repeat' split) <;> omega
    have hC := C_X6_watchman (l := l) (cy := cy) (D := D) (ad := ad) (M := setc M 0 S) hI hD hf9 ht9 hg9
    rw [if_neg h0, if_neg h0] at hC
    refine V.cast (self0 hS) ?_
    refine r_aload_n (i := 1) F dL_law_412 rfl rfl ?_
    refine r_aload_n (i := 0) F dL_law_413 rfl rfl ?_
    refine r_iload F dL_law_414 rfl ?_
    refine r_iconst F dL_law_416 ?_
    refine r_iadd F dL_law_417 ?_
    refine r_sld F hX hbl hbA ex1 (by omega) (by omega) hL dL_law_418 ?_
    refine r_aload_n (i := 0) F dL_law_419 rfl rfl ?_
    refine r_iload F dL_law_420 rfl ?_
    refine r_iconst F dL_law_422 ?_
    refine r_iadd F dL_law_423 ?_
    refine r_sld F hX hbl hbA ex2 (by omega) (by omega) hL dL_law_424 ?_
    refine r_aload_n (i := 0) F dL_law_425 rfl rfl ?_
    refine r_iload F dL_law_426 rfl ?_
    refine r_iconst F dL_law_428 ?_
    refine r_iadd F dL_law_429 ?_
    refine r_sld F hX hbl hbA ex3 (by omega) (by omega) hL dL_law_430 ?_
    refine r_aload_n (i := 3) F dL_law_431 rfl rfl ?_
    refine r_callH F G hH dL_law_432 lks_L_103 rfl rfl cw_L_watchman (by decide) ⟨by omega, by omega⟩ (Nat.le_of_ble_eq_true rfl) ?_
    refine r_istore (lv1 := [_, _, _, _, _, _, _, _, _]) F dL_law_435 (by decide) rfl rfl ?_
    refine r_aload_n (i := 2) F dL_law_437 rfl rfl ?_
    refine r_aload_n (i := 0) F dL_law_438 rfl rfl ?_
    refine r_iload F dL_law_439 rfl ?_
    refine r_iconst F dL_law_441 ?_
    refine r_iadd F dL_law_442 ?_
    refine r_sld F hX hbl hbA ex1 (by omega) (by omega) hL dL_law_443 ?_
    refine r_aload_n (i := 0) F dL_law_444 rfl rfl ?_
    refine r_iload F dL_law_445 rfl ?_
    refine r_iconst F dL_law_447 ?_
    refine r_iadd F dL_law_448 ?_
    refine r_sld F hX hbl hbA ex2 (by omega) (by omega) hL dL_law_449 ?_
    refine r_aload_n (i := 0) F dL_law_450 rfl rfl ?_
    refine r_iload F dL_law_451 rfl ?_
    refine r_iconst F dL_law_453 ?_
    refine r_iadd F dL_law_454 ?_
    refine r_sld F hX hbl hbA ex3 (by omega) (by omega) hL dL_law_455 ?_
    refine V.cast (self2 (S := S) (by rw [setc_ne _ _ (by decide)]; exact a2)) ?_
    refine r_callV F hC dL_law_456 lkv_L_105 rfl rfl rfl rfl rfl cd_X6_watchman (by decide) ⟨by omega, by omega⟩ (Nat.le_of_ble_eq_true rfl) ?_
    refine r_istore (lv1 := [_, _, _, _, _, _, _, _, _]) F dL_law_459 (by decide) rfl rfl ?_
    refine r_aload_n (i := 2) F dL_law_461 rfl rfl ?_
    refine r_callV F C_X6_thrown dL_law_462 lkv_L_88 rfl rfl rfl rfl rfl cd_X6_thrown (by decide) ⟨by omega, by omega⟩ (Nat.le_of_ble_eq_true rfl) ?_
    rw [thr_rd]
    refine r_iload F dL_law_465 rfl ?_
    refine r_sameq (tgt := 472) F dL_law_467 (by decide) ?_
    refine r_iload F dL_law_472 rfl ?_
    refine r_if_ne (tgt := 489) F dL_law_474 (by decide) (ir_of (by omega) (by omega)) (fun _ => ?_) (fun h => absurd h h0)
    refine r_goto (tgt := 1495) F dL_law_489 (by decide) ?_
    refine V.kill (lv1 := [_, _, _, _, _, _, _, _, _]) 5 rfl ?_
    refine V.kill (lv1 := [_, _, _, _, _, _, _, _, _]) 6 rfl ?_
    exact hk _ (LI.same hLI (by rw [setc_ne _ _ (by decide), thr_ne _ _ (by decide), setc_at, hS]) (by rw [setc_at, hS]) (by rw [setc_ne _ _ (by decide), thr_ne _ _ (by decide), setc_ne _ _ (by decide)]))
set_option maxHeartbeats 4000000 in
set_option maxRecDepth 100000 in
theorem L_boat {p : Program} {l : Launch} {e : Env} {s : State} {m : MethodId} {args : Array Value} {below : List Frame} {meth : Method} {c : Code} {ret : Option FieldType} {cy : Nat → ClassId} {D : va_G} {ad : Nat → Nat → Int → Nat} {A : Nat → Prop} {kc ks : Nat} {Q : State → Prop} {M : Mem} {b L k : Nat} {xs : Nat → Int32} (F : Fx p s m args meth c RL code 9 ret cy D ad A) (G : Gx l s A) (hX : va_X b L xs s s.heap) (hbl : b < s.heap.size) (hbA : ¬ A b) (hL : L ≤ 2048) (hj : 4 * (k : Int) + 4 ≤ L) (hR : kc + 1 ≤ room_1.cells ∧ ks + 6 ≤ room_1.slots) (hLI : LI k M) (hk : ∀ M' : Mem, LI (k + 1) M' → V p l e room_1 s m args below meth c 9 cy D ad A (kc + 1) (ks + 6) Q 1495 (LH b ad k) [] (M')) : V p l e room_1 s m args below meth c 9 cy D ad A kc ks Q 492 (LH b ad k) [] (M) := by
  obtain ⟨S, hS⟩ : ∃ S, S = M 0 := ⟨_, rfl⟩
  obtain ⟨T, hT0⟩ : ∃ T, T = M 1 := ⟨_, rfl⟩
  obtain ⟨a2, hI, hD, hhr, hT, hcn⟩ := id hLI
  rw [← hS] at a2 hI hD hhr hcn
  rw [← hT0] at hT hcn
  have hh : 0 ≤ S 20 0 ∧ S 20 0 < 900000 := by omega
  have ic := hI.pc
  obtain ⟨x, ex1, hx9⟩ : ∃ x, xs (4 * (k : Int) + 1).toNat = i32 x ∧ ir x := ⟨_, (i32_of _).symm, ir_toInt _⟩
  obtain ⟨q, ex2, hq9⟩ : ∃ x, xs (4 * (k : Int) + 2).toNat = i32 x ∧ ir x := ⟨_, (i32_of _).symm, ir_toInt _⟩
  have hH := H_boat (l := l) (cy := cy) (D := D) (ad := ad) (M := M) G.1 hI hx9 hq9
  by_cases h0 : cBoat S x q = 0
  · rw [h0, if_pos rfl] at hH
    have hC := C_X6_boat (l := l) (cy := cy) (D := D) (ad := ad) (M := outM (setc M 0 (sBoat S x q)) (S 20 3)) hI hD hx9 hq9
    rw [h0, if_pos rfl, if_pos rfl] at hC
    refine V.cast (self0 hS) ?_
    refine r_aload_n (i := 1) F dL_law_492 rfl rfl ?_
    refine r_aload_n (i := 0) F dL_law_493 rfl rfl ?_
    refine r_iload F dL_law_494 rfl ?_
    refine r_iconst F dL_law_496 ?_
    refine r_iadd F dL_law_497 ?_
    refine r_sld F hX hbl hbA ex1 (by omega) (by omega) hL dL_law_498 ?_
    refine r_aload_n (i := 0) F dL_law_499 rfl rfl ?_
    refine r_iload F dL_law_500 rfl ?_
    refine r_iconst F dL_law_502 ?_
    refine r_iadd F dL_law_503 ?_
    refine r_sld F hX hbl hbA ex2 (by omega) (by omega) hL dL_law_504 ?_
    refine r_aload_n (i := 3) F dL_law_505 rfl rfl ?_
    refine r_callH F G hH dL_law_506 lks_L_106 rfl rfl cw_L_boat (by decide) ⟨by omega, by omega⟩ (Nat.le_of_ble_eq_true rfl) ?_
    refine r_istore (lv1 := [_, _, _, _, _, _, _, _, _]) F dL_law_509 (by decide) rfl rfl ?_
    refine r_aload_n (i := 2) F dL_law_511 rfl rfl ?_
    refine r_aload_n (i := 0) F dL_law_512 rfl rfl ?_
    refine r_iload F dL_law_513 rfl ?_
    refine r_iconst F dL_law_515 ?_
    refine r_iadd F dL_law_516 ?_
    refine r_sld F hX hbl hbA ex1 (by omega) (by omega) hL dL_law_517 ?_
    refine r_aload_n (i := 0) F dL_law_518 rfl rfl ?_
    refine r_iload F dL_law_519 rfl ?_
    refine r_iconst F dL_law_521 ?_
    refine r_iadd F dL_law_522 ?_
    refine r_sld F hX hbl hbA ex2 (by omega) (by omega) hL dL_law_523 ?_
    refine V.cast (self2 (S := S) (by rw [outM_ne _ _ (by decide), setc_ne _ _ (by decide)]; exact a2)) ?_
    refine r_callV F hC dL_law_524 lkv_L_108 rfl rfl rfl rfl rfl cd_X6_boat (by decide) ⟨by omega, by omega⟩ (Nat.le_of_ble_eq_true rfl) ?_
    refine r_istore (lv1 := [_, _, _, _, _, _, _, _, _]) F dL_law_527 (by decide) rfl rfl ?_
    refine r_aload_n (i := 2) F dL_law_529 rfl rfl ?_
    refine r_callV F C_X6_thrown dL_law_530 lkv_L_88 rfl rfl rfl rfl rfl cd_X6_thrown (by decide) ⟨by omega, by omega⟩ (Nat.le_of_ble_eq_true rfl) ?_
    rw [thr_rd]
    refine r_iload F dL_law_533 rfl ?_
    refine r_sameq (tgt := 540) F dL_law_535 (by decide) ?_
    refine r_iload F dL_law_540 rfl ?_
    refine r_if_ne (tgt := 557) F dL_law_542 (by decide) (ir_of (by decide) (by decide)) (fun h => absurd rfl h) (fun _ => ?_)
    refine r_aload_n (i := 3) F dL_law_545 rfl rfl ?_
    refine r_iconst F dL_law_546 ?_
    refine lo_35 F dL_law_547 ?_
    rw [out_rd]
    refine r_iload F dL_law_548 rfl ?_
    refine r_i2l F dL_law_550 ?_
    refine r_lcmpE F dL_law_551 ?_
    refine r_if_eq (tgt := 557) F dL_law_552 (by decide) (ir_of (by decide) (by decide)) (fun _ => ?_) (fun h => absurd rfl h)
    refine r_goto (tgt := 1495) F dL_law_557 (by decide) ?_
    refine V.kill (lv1 := [_, _, _, _, _, _, _, _, _]) 5 rfl ?_
    refine V.kill (lv1 := [_, _, _, _, _, _, _, _, _]) 6 rfl ?_
    have hok : (0 ≤ x ∧ x ≤ 15) ∧ (1 ≤ q ∧ q ≤ 20) ∧ S 20 3 < 6 := by unfold cBoat at h0; (repeat' split at h0) <;> omega
    refine hk _ (LI.step (S1 := sBoat S x q) hLI (inv_boat hI (by omega) (by omega) (by omega)) (dead_boat hD) ?_ ?_ (by rw [setc_ne _ _ (by decide), thr_ne _ _ (by decide), outM_ne _ _ (by decide), setc_at]) (by rw [setc_at]) (by rw [setc_ne _ _ (by decide), thr_ne _ _ (by decide), outM_ne _ _ (by decide), setc_ne _ _ (by decide)]))
    · rw [← hS]; exact ⟨hh.1, by show S 20 0 ≤ S 20 0 + 60; omega⟩
    · rw [← hS]; exact ⟨Int.le_refl _, Int.le_refl _, by show S 20 3 ≤ S 20 3 + 1; omega⟩
  · rw [if_neg h0] at hH
    have hb : 0 ≤ cBoat S x q ∧ cBoat S x q ≤ 3 := by unfold cBoat; (repeat' split) <;> omega
    have hC := C_X6_boat (l := l) (cy := cy) (D := D) (ad := ad) (M := setc M 0 S) hI hD hx9 hq9
    rw [if_neg h0, if_neg h0] at hC
    refine V.cast (self0 hS) ?_
    refine r_aload_n (i := 1) F dL_law_492 rfl rfl ?_
    refine r_aload_n (i := 0) F dL_law_493 rfl rfl ?_
    refine r_iload F dL_law_494 rfl ?_
    refine r_iconst F dL_law_496 ?_
    refine r_iadd F dL_law_497 ?_
    refine r_sld F hX hbl hbA ex1 (by omega) (by omega) hL dL_law_498 ?_
    refine r_aload_n (i := 0) F dL_law_499 rfl rfl ?_
    refine r_iload F dL_law_500 rfl ?_
    refine r_iconst F dL_law_502 ?_
    refine r_iadd F dL_law_503 ?_
    refine r_sld F hX hbl hbA ex2 (by omega) (by omega) hL dL_law_504 ?_
    refine r_aload_n (i := 3) F dL_law_505 rfl rfl ?_
    refine r_callH F G hH dL_law_506 lks_L_106 rfl rfl cw_L_boat (by decide) ⟨by omega, by omega⟩ (Nat.le_of_ble_eq_true rfl) ?_
    refine r_istore (lv1 := [_, _, _, _, _, _, _, _, _]) F dL_law_509 (by decide) rfl rfl ?_
    refine r_aload_n (i := 2) F dL_law_511 rfl rfl ?_
    refine r_aload_n (i := 0) F dL_law_512 rfl rfl ?_
    refine r_iload F dL_law_513 rfl ?_
    refine r_iconst F dL_law_515 ?_
    refine r_iadd F dL_law_516 ?_
    refine r_sld F hX hbl hbA ex1 (by omega) (by omega) hL dL_law_517 ?_
    refine r_aload_n (i := 0) F dL_law_518 rfl rfl ?_
    refine r_iload F dL_law_519 rfl ?_
    refine r_iconst F dL_law_521 ?_
    refine r_iadd F dL_law_522 ?_
    refine r_sld F hX hbl hbA ex2 (by omega) (by omega) hL dL_law_523 ?_
    refine V.cast (self2 (S := S) (by rw [setc_ne _ _ (by decide)]; exact a2)) ?_
    refine r_callV F hC dL_law_524 lkv_L_108 rfl rfl rfl rfl rfl cd_X6_boat (by decide) ⟨by omega, by omega⟩ (Nat.le_of_ble_eq_true rfl) ?_
    refine r_istore (lv1 := [_, _, _, _, _, _, _, _, _]) F dL_law_527 (by decide) rfl rfl ?_
    refine r_aload_n (i := 2) F dL_law_529 rfl rfl ?_
    refine r_callV F C_X6_thrown dL_law_530 lkv_L_88 rfl rfl rfl rfl rfl cd_X6_thrown (by decide) ⟨by omega, by omega⟩ (Nat.le_of_ble_eq_true rfl) ?_
    rw [thr_rd]
    refine r_iload F dL_law_533 rfl ?_
    refine r_sameq (tgt := 540) F dL_law_535 (by decide) ?_
    refine r_iload F dL_law_540 rfl ?_
    refine r_if_ne (tgt := 557) F dL_law_542 (by decide) (ir_of (by omega) (by omega)) (fun _ => ?_) (fun h => absurd h h0)
    refine r_goto (tgt := 1495) F dL_law_557 (by decide) ?_
    refine V.kill (lv1 := [_, _, _, _, _, _, _, _, _]) 5 rfl ?_
    refine V.kill (lv1 := [_, _, _, _, _, _, _, _, _]) 6 rfl ?_
    exact hk _ (LI.same hLI (by rw [setc_ne _ _ (by decide), thr_ne _ _ (by decide), setc_at, hS]) (by rw [setc_at, hS]) (by rw [setc_ne _ _ (by decide), thr_ne _ _ (by decide), setc_ne _ _ (by decide)]))
set_option maxHeartbeats 4000000 in
set_option maxRecDepth 100000 in
theorem L_send {p : Program} {l : Launch} {e : Env} {s : State} {m : MethodId} {args : Array Value} {below : List Frame} {meth : Method} {c : Code} {ret : Option FieldType} {cy : Nat → ClassId} {D : va_G} {ad : Nat → Nat → Int → Nat} {A : Nat → Prop} {kc ks : Nat} {Q : State → Prop} {M : Mem} {b L k : Nat} {xs : Nat → Int32} (F : Fx p s m args meth c RL code 9 ret cy D ad A) (G : Gx l s A) (hX : va_X b L xs s s.heap) (hbl : b < s.heap.size) (hbA : ¬ A b) (hL : L ≤ 2048) (hj : 4 * (k : Int) + 4 ≤ L) (hR : kc + 1 ≤ room_1.cells ∧ ks + 6 ≤ room_1.slots) (hLI : LI k M) (hk : ∀ M' : Mem, LI (k + 1) M' → V p l e room_1 s m args below meth c 9 cy D ad A (kc + 1) (ks + 6) Q 1495 (LH b ad k) [] (M')) : V p l e room_1 s m args below meth c 9 cy D ad A kc ks Q 560 (LH b ad k) [] (M) := by
  obtain ⟨S, hS⟩ : ∃ S, S = M 0 := ⟨_, rfl⟩
  obtain ⟨T, hT0⟩ : ∃ T, T = M 1 := ⟨_, rfl⟩
  obtain ⟨a2, hI, hD, hhr, hT, hcn⟩ := id hLI
  rw [← hS] at a2 hI hD hhr hcn
  rw [← hT0] at hT hcn
  have hh : 0 ≤ S 20 0 ∧ S 20 0 < 900000 := by omega
  have ic := hI.pc
  obtain ⟨x, ex1, hx9⟩ : ∃ x, xs (4 * (k : Int) + 1).toNat = i32 x ∧ ir x := ⟨_, (i32_of _).symm, ir_toInt _⟩
  obtain ⟨q, ex2, hq9⟩ : ∃ x, xs (4 * (k : Int) + 2).toNat = i32 x ∧ ir x := ⟨_, (i32_of _).symm, ir_toInt _⟩
  have hH := H_send (l := l) (cy := cy) (D := D) (ad := ad) (M := M) G.1 hI hx9 hq9
  by_cases h0 : cSend S x q = 0
  · rw [h0, if_pos rfl] at hH
    have hC := C_X6_send (l := l) (cy := cy) (D := D) (ad := ad) (M := outM (setc M 0 (sendS S x q)) (S 15 x)) hI hx9 hq9
    rw [h0, if_pos rfl, if_pos rfl] at hC
    refine V.cast (self0 hS) ?_
    refine r_aload_n (i := 1) F dL_law_560 rfl rfl ?_
    refine r_aload_n (i := 0) F dL_law_561 rfl rfl ?_
    refine r_iload F dL_law_562 rfl ?_
    refine r_iconst F dL_law_564 ?_
    refine r_iadd F dL_law_565 ?_
    refine r_sld F hX hbl hbA ex1 (by omega) (by omega) hL dL_law_566 ?_
    refine r_aload_n (i := 0) F dL_law_567 rfl rfl ?_
    refine r_iload F dL_law_568 rfl ?_
    refine r_iconst F dL_law_570 ?_
    refine r_iadd F dL_law_571 ?_
    refine r_sld F hX hbl hbA ex2 (by omega) (by omega) hL dL_law_572 ?_
    refine r_aload_n (i := 3) F dL_law_573 rfl rfl ?_
    refine r_callH F G hH dL_law_574 lks_L_109 rfl rfl cw_L_send (by decide) ⟨by omega, by omega⟩ (Nat.le_of_ble_eq_true rfl) ?_
    refine r_istore (lv1 := [_, _, _, _, _, _, _, _, _]) F dL_law_577 (by decide) rfl rfl ?_
    refine r_aload_n (i := 2) F dL_law_579 rfl rfl ?_
    refine r_aload_n (i := 0) F dL_law_580 rfl rfl ?_
    refine r_iload F dL_law_581 rfl ?_
    refine r_iconst F dL_law_583 ?_
    refine r_iadd F dL_law_584 ?_
    refine r_sld F hX hbl hbA ex1 (by omega) (by omega) hL dL_law_585 ?_
    refine r_aload_n (i := 0) F dL_law_586 rfl rfl ?_
    refine r_iload F dL_law_587 rfl ?_
    refine r_iconst F dL_law_589 ?_
    refine r_iadd F dL_law_590 ?_
    refine r_sld F hX hbl hbA ex2 (by omega) (by omega) hL dL_law_591 ?_
    refine V.cast (self2 (S := S) (by rw [outM_ne _ _ (by decide), setc_ne _ _ (by decide)]; exact a2)) ?_
    refine r_callV F hC dL_law_592 lkv_L_111 rfl rfl rfl rfl rfl cd_X6_send (by decide) ⟨by omega, by omega⟩ (Nat.le_of_ble_eq_true rfl) ?_
    refine r_istore (lv1 := [_, _, _, _, _, _, _, _, _]) F dL_law_595 (by decide) rfl rfl ?_
    refine r_aload_n (i := 2) F dL_law_597 rfl rfl ?_
    refine r_callV F C_X6_thrown dL_law_598 lkv_L_88 rfl rfl rfl rfl rfl cd_X6_thrown (by decide) ⟨by omega, by omega⟩ (Nat.le_of_ble_eq_true rfl) ?_
    rw [thr_rd]
    refine r_iload F dL_law_601 rfl ?_
    refine r_sameq (tgt := 608) F dL_law_603 (by decide) ?_
    refine r_iload F dL_law_608 rfl ?_
    refine r_if_ne (tgt := 625) F dL_law_610 (by decide) (ir_of (by decide) (by decide)) (fun h => absurd rfl h) (fun _ => ?_)
    refine r_aload_n (i := 3) F dL_law_613 rfl rfl ?_
    refine r_iconst F dL_law_614 ?_
    refine lo_35 F dL_law_615 ?_
    rw [out_rd]
    refine r_iload F dL_law_616 rfl ?_
    refine r_i2l F dL_law_618 ?_
    refine r_lcmpE F dL_law_619 ?_
    refine r_if_eq (tgt := 625) F dL_law_620 (by decide) (ir_of (by decide) (by decide)) (fun _ => ?_) (fun h => absurd rfl h)
    refine r_goto (tgt := 1495) F dL_law_625 (by decide) ?_
    refine V.kill (lv1 := [_, _, _, _, _, _, _, _, _]) 5 rfl ?_
    refine V.kill (lv1 := [_, _, _, _, _, _, _, _, _]) 6 rfl ?_
    have hok : (0 ≤ x ∧ x ≤ S 20 3 - 1) ∧ (-1 ≤ q ∧ q ≤ 15) ∧ S 18 x = 0 := by unfold cSend at h0; (repeat' split at h0) <;> omega
    refine hk _ (LI.step (S1 := sendS S x q) hLI (sendS_inv hI (by omega)) (sendS_dead hD (by omega)) ?_ ?_ (by rw [setc_ne _ _ (by decide), thr_ne _ _ (by decide), outM_ne _ _ (by decide), setc_at]) (by rw [setc_at]) (by rw [setc_ne _ _ (by decide), thr_ne _ _ (by decide), outM_ne _ _ (by decide), setc_ne _ _ (by decide)]))
    · rw [← hS]; exact ⟨hh.1, by show S 20 0 ≤ S 20 0 + 60; omega⟩
    · rw [← hS]; exact ⟨Int.le_refl _, Int.le_refl _, Int.le_refl _⟩
  · rw [if_neg h0] at hH
    have hb : 0 ≤ cSend S x q ∧ cSend S x q ≤ 3 := by unfold cSend; (repeat' split) <;> omega
    have hC := C_X6_send (l := l) (cy := cy) (D := D) (ad := ad) (M := setc M 0 S) hI hx9 hq9
    rw [if_neg h0, if_neg h0] at hC
    refine V.cast (self0 hS) ?_
    refine r_aload_n (i := 1) F dL_law_560 rfl rfl ?_
    refine r_aload_n (i := 0) F dL_law_561 rfl rfl ?_
    refine r_iload F dL_law_562 rfl ?_
    refine r_iconst F dL_law_564 ?_
    refine r_iadd F dL_law_565 ?_
    refine r_sld F hX hbl hbA ex1 (by omega) (by omega) hL dL_law_566 ?_
    refine r_aload_n (i := 0) F dL_law_567 rfl rfl ?_
    refine r_iload F dL_law_568 rfl ?_
    refine r_iconst F dL_law_570 ?_
    refine r_iadd F dL_law_571 ?_
    refine r_sld F hX hbl hbA ex2 (by omega) (by omega) hL dL_law_572 ?_
    refine r_aload_n (i := 3) F dL_law_573 rfl rfl ?_
    refine r_callH F G hH dL_law_574 lks_L_109 rfl rfl cw_L_send (by decide) ⟨by omega, by omega⟩ (Nat.le_of_ble_eq_true rfl) ?_
    refine r_istore (lv1 := [_, _, _, _, _, _, _, _, _]) F dL_law_577 (by decide) rfl rfl ?_
    refine r_aload_n (i := 2) F dL_law_579 rfl rfl ?_
    refine r_aload_n (i := 0) F dL_law_580 rfl rfl ?_
    refine r_iload F dL_law_581 rfl ?_
    refine r_iconst F dL_law_583 ?_
    refine r_iadd F dL_law_584 ?_
    refine r_sld F hX hbl hbA ex1 (by omega) (by omega) hL dL_law_585 ?_
    refine r_aload_n (i := 0) F dL_law_586 rfl rfl ?_
    refine r_iload F dL_law_587 rfl ?_
    refine r_iconst F dL_law_589 ?_
    refine r_iadd F dL_law_590 ?_
    refine r_sld F hX hbl hbA ex2 (by omega) (by omega) hL dL_law_591 ?_
    refine V.cast (self2 (S := S) (by rw [setc_ne _ _ (by decide)]; exact a2)) ?_
    refine r_callV F hC dL_law_592 lkv_L_111 rfl rfl rfl rfl rfl cd_X6_send (by decide) ⟨by omega, by omega⟩ (Nat.le_of_ble_eq_true rfl) ?_
    refine r_istore (lv1 := [_, _, _, _, _, _, _, _, _]) F dL_law_595 (by decide) rfl rfl ?_
    refine r_aload_n (i := 2) F dL_law_597 rfl rfl ?_
    refine r_callV F C_X6_thrown dL_law_598 lkv_L_88 rfl rfl rfl rfl rfl cd_X6_thrown (by decide) ⟨by omega, by omega⟩ (Nat.le_of_ble_eq_true rfl) ?_
    rw [thr_rd]
    refine r_iload F dL_law_601 rfl ?_
    refine r_sameq (tgt := 608) F dL_law_603 (by decide) ?_
    refine r_iload F dL_law_608 rfl ?_
    refine r_if_ne (tgt := 625) F dL_law_610 (by decide) (ir_of (by omega) (by omega)) (fun _ => ?_) (fun h => absurd h h0)
    refine r_goto (tgt := 1495) F dL_law_625 (by decide) ?_
    refine V.kill (lv1 := [_, _, _, _, _, _, _, _, _]) 5 rfl ?_
    refine V.kill (lv1 := [_, _, _, _, _, _, _, _, _]) 6 rfl ?_
    exact hk _ (LI.same hLI (by rw [setc_ne _ _ (by decide), thr_ne _ _ (by decide), setc_at, hS]) (by rw [setc_at, hS]) (by rw [setc_ne _ _ (by decide), thr_ne _ _ (by decide), setc_ne _ _ (by decide)]))
set_option maxHeartbeats 4000000 in
set_option maxRecDepth 100000 in
theorem L_carry {p : Program} {l : Launch} {e : Env} {s : State} {m : MethodId} {args : Array Value} {below : List Frame} {meth : Method} {c : Code} {ret : Option FieldType} {cy : Nat → ClassId} {D : va_G} {ad : Nat → Nat → Int → Nat} {A : Nat → Prop} {kc ks : Nat} {Q : State → Prop} {M : Mem} {b L k : Nat} {xs : Nat → Int32} (F : Fx p s m args meth c RL code 9 ret cy D ad A) (G : Gx l s A) (hX : va_X b L xs s s.heap) (hbl : b < s.heap.size) (hbA : ¬ A b) (hL : L ≤ 2048) (hj : 4 * (k : Int) + 4 ≤ L) (hR : kc + 1 ≤ room_1.cells ∧ ks + 6 ≤ room_1.slots) (hLI : LI k M) (hk : ∀ M' : Mem, LI (k + 1) M' → V p l e room_1 s m args below meth c 9 cy D ad A (kc + 1) (ks + 6) Q 1495 (LH b ad k) [] (M')) : V p l e room_1 s m args below meth c 9 cy D ad A kc ks Q 628 (LH b ad k) [] (M) := by
  obtain ⟨S, hS⟩ : ∃ S, S = M 0 := ⟨_, rfl⟩
  obtain ⟨T, hT0⟩ : ∃ T, T = M 1 := ⟨_, rfl⟩
  obtain ⟨a2, hI, hD, hhr, hT, hcn⟩ := id hLI
  rw [← hS] at a2 hI hD hhr hcn
  rw [← hT0] at hT hcn
  have hh : 0 ≤ S 20 0 ∧ S 20 0 < 900000 := by omega
  have ic := hI.pc
  obtain ⟨x, ex1, hx9⟩ : ∃ x, xs (4 * (k : Int) + 1).toNat = i32 x ∧ ir x := ⟨_, (i32_of _).symm, ir_toInt _⟩
  obtain ⟨q, ex2, hq9⟩ : ∃ x, xs (4 * (k : Int) + 2).toNat = i32 x ∧ ir x := ⟨_, (i32_of _).symm, ir_toInt _⟩
  have hH := H_carry (l := l) (cy := cy) (D := D) (ad := ad) (M := M) G.1 hI hx9 hq9
  by_cases h0 : cCarry S x q = 0
  · rw [h0, if_pos rfl] at hH
    have hC := C_X6_carry (l := l) (cy := cy) (D := D) (ad := ad) (M := outM (setc M 0 (sCarry S x q)) (S 1 x - q)) hI hx9 hq9
    rw [h0, if_pos rfl, if_pos rfl] at hC
    refine V.cast (self0 hS) ?_
    refine r_aload_n (i := 1) F dL_law_628 rfl rfl ?_
    refine r_aload_n (i := 0) F dL_law_629 rfl rfl ?_
    refine r_iload F dL_law_630 rfl ?_
    refine r_iconst F dL_law_632 ?_
    refine r_iadd F dL_law_633 ?_
    refine r_sld F hX hbl hbA ex1 (by omega) (by omega) hL dL_law_634 ?_
    refine r_aload_n (i := 0) F dL_law_635 rfl rfl ?_
    refine r_iload F dL_law_636 rfl ?_
    refine r_iconst F dL_law_638 ?_
    refine r_iadd F dL_law_639 ?_
    refine r_sld F hX hbl hbA ex2 (by omega) (by omega) hL dL_law_640 ?_
    refine r_aload_n (i := 3) F dL_law_641 rfl rfl ?_
    refine r_callH F G hH dL_law_642 lks_L_112 rfl rfl cw_L_carry (by decide) ⟨by omega, by omega⟩ (Nat.le_of_ble_eq_true rfl) ?_
    refine r_istore (lv1 := [_, _, _, _, _, _, _, _, _]) F dL_law_645 (by decide) rfl rfl ?_
    refine r_aload_n (i := 2) F dL_law_647 rfl rfl ?_
    refine r_aload_n (i := 0) F dL_law_648 rfl rfl ?_
    refine r_iload F dL_law_649 rfl ?_
    refine r_iconst F dL_law_651 ?_
    refine r_iadd F dL_law_652 ?_
    refine r_sld F hX hbl hbA ex1 (by omega) (by omega) hL dL_law_653 ?_
    refine r_aload_n (i := 0) F dL_law_654 rfl rfl ?_
    refine r_iload F dL_law_655 rfl ?_
    refine r_iconst F dL_law_657 ?_
    refine r_iadd F dL_law_658 ?_
    refine r_sld F hX hbl hbA ex2 (by omega) (by omega) hL dL_law_659 ?_
    refine V.cast (self2 (S := S) (by rw [outM_ne _ _ (by decide), setc_ne _ _ (by decide)]; exact a2)) ?_
    refine r_callV F hC dL_law_660 lkv_L_114 rfl rfl rfl rfl rfl cd_X6_carry (by decide) ⟨by omega, by omega⟩ (Nat.le_of_ble_eq_true rfl) ?_
    refine r_istore (lv1 := [_, _, _, _, _, _, _, _, _]) F dL_law_663 (by decide) rfl rfl ?_
    refine r_aload_n (i := 2) F dL_law_665 rfl rfl ?_
    refine r_callV F C_X6_thrown dL_law_666 lkv_L_88 rfl rfl rfl rfl rfl cd_X6_thrown (by decide) ⟨by omega, by omega⟩ (Nat.le_of_ble_eq_true rfl) ?_
    rw [thr_rd]
    refine r_iload F dL_law_669 rfl ?_
    refine r_sameq (tgt := 676) F dL_law_671 (by decide) ?_
    refine r_iload F dL_law_676 rfl ?_
    refine r_if_ne (tgt := 693) F dL_law_678 (by decide) (ir_of (by decide) (by decide)) (fun h => absurd rfl h) (fun _ => ?_)
    refine r_aload_n (i := 3) F dL_law_681 rfl rfl ?_
    refine r_iconst F dL_law_682 ?_
    refine lo_35 F dL_law_683 ?_
    rw [out_rd]
    refine r_iload F dL_law_684 rfl ?_
    refine r_i2l F dL_law_686 ?_
    refine r_lcmpE F dL_law_687 ?_
    refine r_if_eq (tgt := 693) F dL_law_688 (by decide) (ir_of (by decide) (by decide)) (fun _ => ?_) (fun h => absurd rfl h)
    refine r_goto (tgt := 1495) F dL_law_693 (by decide) ?_
    refine V.kill (lv1 := [_, _, _, _, _, _, _, _, _]) 5 rfl ?_
    refine V.kill (lv1 := [_, _, _, _, _, _, _, _, _]) 6 rfl ?_
    have hok : (0 ≤ x ∧ x ≤ 15) ∧ (1 ≤ q ∧ q ≤ 30) ∧ q ≤ S 1 x := by unfold cCarry at h0; (repeat' split at h0) <;> omega
    refine hk _ (LI.step (S1 := sCarry S x q) hLI (inv205 (inv1 hI (by have := hI.p01 x; omega))) (dead_u2 (dead_u2 hD (by omega) (by omega) (by omega) (by omega) (by omega)) (by omega) (by omega) (by omega) (by omega) (by omega)) ?_ ?_ (by rw [setc_ne _ _ (by decide), thr_ne _ _ (by decide), outM_ne _ _ (by decide), setc_at]) (by rw [setc_at]) (by rw [setc_ne _ _ (by decide), thr_ne _ _ (by decide), outM_ne _ _ (by decide), setc_ne _ _ (by decide)]))
    · rw [← hS]; exact ⟨hh.1, by show S 20 0 ≤ S 20 0 + 60; omega⟩
    · rw [← hS]; exact ⟨Int.le_refl _, Int.le_refl _, Int.le_refl _⟩
  · rw [if_neg h0] at hH
    have hb : 0 ≤ cCarry S x q ∧ cCarry S x q ≤ 3 := by unfold cCarry; (repeat' split) <;> omega
    have hC := C_X6_carry (l := l) (cy := cy) (D := D) (ad := ad) (M := setc M 0 S) hI hx9 hq9
    rw [if_neg h0, if_neg h0] at hC
    refine V.cast (self0 hS) ?_
    refine r_aload_n (i := 1) F dL_law_628 rfl rfl ?_
    refine r_aload_n (i := 0) F dL_law_629 rfl rfl ?_
    refine r_iload F dL_law_630 rfl ?_
    refine r_iconst F dL_law_632 ?_
    refine r_iadd F dL_law_633 ?_
    refine r_sld F hX hbl hbA ex1 (by omega) (by omega) hL dL_law_634 ?_
    refine r_aload_n (i := 0) F dL_law_635 rfl rfl ?_
    refine r_iload F dL_law_636 rfl ?_
    refine r_iconst F dL_law_638 ?_
    refine r_iadd F dL_law_639 ?_
    refine r_sld F hX hbl hbA ex2 (by omega) (by omega) hL dL_law_640 ?_
    refine r_aload_n (i := 3) F dL_law_641 rfl rfl ?_
    refine r_callH F G hH dL_law_642 lks_L_112 rfl rfl cw_L_carry (by decide) ⟨by omega, by omega⟩ (Nat.le_of_ble_eq_true rfl) ?_
    refine r_istore (lv1 := [_, _, _, _, _, _, _, _, _]) F dL_law_645 (by decide) rfl rfl ?_
    refine r_aload_n (i := 2) F dL_law_647 rfl rfl ?_
    refine r_aload_n (i := 0) F dL_law_648 rfl rfl ?_
    refine r_iload F dL_law_649 rfl ?_
    refine r_iconst F dL_law_651 ?_
    refine r_iadd F dL_law_652 ?_
    refine r_sld F hX hbl hbA ex1 (by omega) (by omega) hL dL_law_653 ?_
    refine r_aload_n (i := 0) F dL_law_654 rfl rfl ?_
    refine r_iload F dL_law_655 rfl ?_
    refine r_iconst F dL_law_657 ?_
    refine r_iadd F dL_law_658 ?_
    refine r_sld F hX hbl hbA ex2 (by omega) (by omega) hL dL_law_659 ?_
    refine V.cast (self2 (S := S) (by rw [setc_ne _ _ (by decide)]; exact a2)) ?_
    refine r_callV F hC dL_law_660 lkv_L_114 rfl rfl rfl rfl rfl cd_X6_carry (by decide) ⟨by omega, by omega⟩ (Nat.le_of_ble_eq_true rfl) ?_
    refine r_istore (lv1 := [_, _, _, _, _, _, _, _, _]) F dL_law_663 (by decide) rfl rfl ?_
    refine r_aload_n (i := 2) F dL_law_665 rfl rfl ?_
    refine r_callV F C_X6_thrown dL_law_666 lkv_L_88 rfl rfl rfl rfl rfl cd_X6_thrown (by decide) ⟨by omega, by omega⟩ (Nat.le_of_ble_eq_true rfl) ?_
    rw [thr_rd]
    refine r_iload F dL_law_669 rfl ?_
    refine r_sameq (tgt := 676) F dL_law_671 (by decide) ?_
    refine r_iload F dL_law_676 rfl ?_
    refine r_if_ne (tgt := 693) F dL_law_678 (by decide) (ir_of (by omega) (by omega)) (fun _ => ?_) (fun h => absurd h h0)
    refine r_goto (tgt := 1495) F dL_law_693 (by decide) ?_
    refine V.kill (lv1 := [_, _, _, _, _, _, _, _, _]) 5 rfl ?_
    refine V.kill (lv1 := [_, _, _, _, _, _, _, _, _]) 6 rfl ?_
    exact hk _ (LI.same hLI (by rw [setc_ne _ _ (by decide), thr_ne _ _ (by decide), setc_at, hS]) (by rw [setc_at, hS]) (by rw [setc_ne _ _ (by decide), thr_ne _ _ (by decide), setc_ne _ _ (by decide)]))
set_option maxHeartbeats 4000000 in
set_option maxRecDepth 100000 in
theorem L_told {p : Program} {l : Launch} {e : Env} {s : State} {m : MethodId} {args : Array Value} {below : List Frame} {meth : Method} {c : Code} {ret : Option FieldType} {cy : Nat → ClassId} {D : va_G} {ad : Nat → Nat → Int → Nat} {A : Nat → Prop} {kc ks : Nat} {Q : State → Prop} {M : Mem} {b L k : Nat} {xs : Nat → Int32} (F : Fx p s m args meth c RL code 9 ret cy D ad A) (G : Gx l s A) (hX : va_X b L xs s s.heap) (hbl : b < s.heap.size) (hbA : ¬ A b) (hL : L ≤ 2048) (hj : 4 * (k : Int) + 4 ≤ L) (hR : kc + 1 ≤ room_1.cells ∧ ks + 6 ≤ room_1.slots) (hLI : LI k M) (hk : ∀ M' : Mem, LI (k + 1) M' → V p l e room_1 s m args below meth c 9 cy D ad A (kc + 1) (ks + 6) Q 1495 (LH b ad k) [] (M')) : V p l e room_1 s m args below meth c 9 cy D ad A kc ks Q 696 (LH b ad k) [] (M) := by
  obtain ⟨S, hS⟩ : ∃ S, S = M 0 := ⟨_, rfl⟩
  obtain ⟨T, hT0⟩ : ∃ T, T = M 1 := ⟨_, rfl⟩
  obtain ⟨a2, hI, hD, hhr, hT, hcn⟩ := id hLI
  rw [← hS] at a2 hI hD hhr hcn
  rw [← hT0] at hT hcn
  have hh : 0 ≤ S 20 0 ∧ S 20 0 < 900000 := by omega
  have ic := hI.pc
  obtain ⟨x, ex1, hx9⟩ : ∃ x, xs (4 * (k : Int) + 1).toNat = i32 x ∧ ir x := ⟨_, (i32_of _).symm, ir_toInt _⟩
  obtain ⟨w, ex2, hw9⟩ : ∃ x, xs (4 * (k : Int) + 2).toNat = i32 x ∧ ir x := ⟨_, (i32_of _).symm, ir_toInt _⟩
  have hH := H_told (l := l) (cy := cy) (D := D) (ad := ad) (M := M) G.1 hI hx9 hw9
  by_cases h0 : cRng x 0 (S 20 3 - 1) w 0 6 = 0
  · rw [h0, if_pos rfl] at hH
    have hC := C_X6_told (l := l) (cy := cy) (D := D) (ad := ad) (M := outM (setc M 0 (S)) (toldF S x w)) hI hx9 hw9
    rw [h0, if_pos rfl, if_pos rfl] at hC
    refine V.cast (self0 hS) ?_
    refine r_aload_n (i := 1) F dL_law_696 rfl rfl ?_
    refine r_aload_n (i := 0) F dL_law_697 rfl rfl ?_
    refine r_iload F dL_law_698 rfl ?_
    refine r_iconst F dL_law_700 ?_
    refine r_iadd F dL_law_701 ?_
    refine r_sld F hX hbl hbA ex1 (by omega) (by omega) hL dL_law_702 ?_
    refine r_aload_n (i := 0) F dL_law_703 rfl rfl ?_
    refine r_iload F dL_law_704 rfl ?_
    refine r_iconst F dL_law_706 ?_
    refine r_iadd F dL_law_707 ?_
    refine r_sld F hX hbl hbA ex2 (by omega) (by omega) hL dL_law_708 ?_
    refine r_aload_n (i := 3) F dL_law_709 rfl rfl ?_
    refine r_callH F G hH dL_law_710 lks_L_115 rfl rfl cw_L_told (by decide) ⟨by omega, by omega⟩ (Nat.le_of_ble_eq_true rfl) ?_
    refine r_istore (lv1 := [_, _, _, _, _, _, _, _, _]) F dL_law_713 (by decide) rfl rfl ?_
    refine r_aload_n (i := 2) F dL_law_715 rfl rfl ?_
    refine r_aload_n (i := 0) F dL_law_716 rfl rfl ?_
    refine r_iload F dL_law_717 rfl ?_
    refine r_iconst F dL_law_719 ?_
    refine r_iadd F dL_law_720 ?_
    refine r_sld F hX hbl hbA ex1 (by omega) (by omega) hL dL_law_721 ?_
    refine r_aload_n (i := 0) F dL_law_722 rfl rfl ?_
    refine r_iload F dL_law_723 rfl ?_
    refine r_iconst F dL_law_725 ?_
    refine r_iadd F dL_law_726 ?_
    refine r_sld F hX hbl hbA ex2 (by omega) (by omega) hL dL_law_727 ?_
    refine V.cast (self2 (S := S) (by rw [outM_ne _ _ (by decide), setc_ne _ _ (by decide)]; exact a2)) ?_
    refine r_callV F hC dL_law_728 lkv_L_117 rfl rfl rfl rfl rfl cd_X6_told (by decide) ⟨by omega, by omega⟩ (Nat.le_of_ble_eq_true rfl) ?_
    refine r_istore (lv1 := [_, _, _, _, _, _, _, _, _]) F dL_law_731 (by decide) rfl rfl ?_
    refine r_aload_n (i := 2) F dL_law_733 rfl rfl ?_
    refine r_callV F C_X6_thrown dL_law_734 lkv_L_88 rfl rfl rfl rfl rfl cd_X6_thrown (by decide) ⟨by omega, by omega⟩ (Nat.le_of_ble_eq_true rfl) ?_
    rw [thr_rd]
    refine r_iload F dL_law_737 rfl ?_
    refine r_sameq (tgt := 744) F dL_law_739 (by decide) ?_
    refine r_iload F dL_law_744 rfl ?_
    refine r_if_ne (tgt := 761) F dL_law_746 (by decide) (ir_of (by decide) (by decide)) (fun h => absurd rfl h) (fun _ => ?_)
    refine r_aload_n (i := 3) F dL_law_749 rfl rfl ?_
    refine r_iconst F dL_law_750 ?_
    refine lo_35 F dL_law_751 ?_
    rw [out_rd]
    refine r_iload F dL_law_752 rfl ?_
    refine r_i2l F dL_law_754 ?_
    refine r_lcmpE F dL_law_755 ?_
    refine r_if_eq (tgt := 761) F dL_law_756 (by decide) (ir_of (by decide) (by decide)) (fun _ => ?_) (fun h => absurd rfl h)
    refine r_goto (tgt := 1495) F dL_law_761 (by decide) ?_
    refine V.kill (lv1 := [_, _, _, _, _, _, _, _, _]) 5 rfl ?_
    refine V.kill (lv1 := [_, _, _, _, _, _, _, _, _]) 6 rfl ?_
    refine hk _ (LI.step (S1 := S) hLI (hI) (hD) ?_ ?_ (by rw [setc_ne _ _ (by decide), thr_ne _ _ (by decide), outM_ne _ _ (by decide), setc_at]) (by rw [setc_at]) (by rw [setc_ne _ _ (by decide), thr_ne _ _ (by decide), outM_ne _ _ (by decide), setc_ne _ _ (by decide)]))
    · rw [← hS]; exact ⟨hh.1, by show S 20 0 ≤ S 20 0 + 60; omega⟩
    · rw [← hS]; exact ⟨Int.le_refl _, Int.le_refl _, Int.le_refl _⟩
  · rw [if_neg h0] at hH
    have hb : 0 ≤ cRng x 0 (S 20 3 - 1) w 0 6 ∧ cRng x 0 (S 20 3 - 1) w 0 6 ≤ 3 := by unfold cRng; (repeat' split) <;> omega
    have hC := C_X6_told (l := l) (cy := cy) (D := D) (ad := ad) (M := setc M 0 S) hI hx9 hw9
    rw [if_neg h0, if_neg h0] at hC
    refine V.cast (self0 hS) ?_
    refine r_aload_n (i := 1) F dL_law_696 rfl rfl ?_
    refine r_aload_n (i := 0) F dL_law_697 rfl rfl ?_
    refine r_iload F dL_law_698 rfl ?_
    refine r_iconst F dL_law_700 ?_
    refine r_iadd F dL_law_701 ?_
    refine r_sld F hX hbl hbA ex1 (by omega) (by omega) hL dL_law_702 ?_
    refine r_aload_n (i := 0) F dL_law_703 rfl rfl ?_
    refine r_iload F dL_law_704 rfl ?_
    refine r_iconst F dL_law_706 ?_
    refine r_iadd F dL_law_707 ?_
    refine r_sld F hX hbl hbA ex2 (by omega) (by omega) hL dL_law_708 ?_
    refine r_aload_n (i := 3) F dL_law_709 rfl rfl ?_
    refine r_callH F G hH dL_law_710 lks_L_115 rfl rfl cw_L_told (by decide) ⟨by omega, by omega⟩ (Nat.le_of_ble_eq_true rfl) ?_
    refine r_istore (lv1 := [_, _, _, _, _, _, _, _, _]) F dL_law_713 (by decide) rfl rfl ?_
    refine r_aload_n (i := 2) F dL_law_715 rfl rfl ?_
    refine r_aload_n (i := 0) F dL_law_716 rfl rfl ?_
    refine r_iload F dL_law_717 rfl ?_
    refine r_iconst F dL_law_719 ?_
    refine r_iadd F dL_law_720 ?_
    refine r_sld F hX hbl hbA ex1 (by omega) (by omega) hL dL_law_721 ?_
    refine r_aload_n (i := 0) F dL_law_722 rfl rfl ?_
    refine r_iload F dL_law_723 rfl ?_
    refine r_iconst F dL_law_725 ?_
    refine r_iadd F dL_law_726 ?_
    refine r_sld F hX hbl hbA ex2 (by omega) (by omega) hL dL_law_727 ?_
    refine V.cast (self2 (S := S) (by rw [setc_ne _ _ (by decide)]; exact a2)) ?_
    refine r_callV F hC dL_law_728 lkv_L_117 rfl rfl rfl rfl rfl cd_X6_told (by decide) ⟨by omega, by omega⟩ (Nat.le_of_ble_eq_true rfl) ?_
    refine r_istore (lv1 := [_, _, _, _, _, _, _, _, _]) F dL_law_731 (by decide) rfl rfl ?_
    refine r_aload_n (i := 2) F dL_law_733 rfl rfl ?_
    refine r_callV F C_X6_thrown dL_law_734 lkv_L_88 rfl rfl rfl rfl rfl cd_X6_thrown (by decide) ⟨by omega, by omega⟩ (Nat.le_of_ble_eq_true rfl) ?_
    rw [thr_rd]
    refine r_iload F dL_law_737 rfl ?_
    refine r_sameq (tgt := 744) F dL_law_739 (by decide) ?_
    refine r_iload F dL_law_744 rfl ?_
    refine r_if_ne (tgt := 761) F dL_law_746 (by decide) (ir_of (by omega) (by omega)) (fun _ => ?_) (fun h => absurd h h0)
    refine r_goto (tgt := 1495) F dL_law_761 (by decide) ?_
    refine V.kill (lv1 := [_, _, _, _, _, _, _, _, _]) 5 rfl ?_
    refine V.kill (lv1 := [_, _, _, _, _, _, _, _, _]) 6 rfl ?_
    exact hk _ (LI.same hLI (by rw [setc_ne _ _ (by decide), thr_ne _ _ (by decide), setc_at, hS]) (by rw [setc_at, hS]) (by rw [setc_ne _ _ (by decide), thr_ne _ _ (by decide), setc_ne _ _ (by decide)]))
set_option maxHeartbeats 4000000 in
set_option maxRecDepth 100000 in
theorem L_about {p : Program} {l : Launch} {e : Env} {s : State} {m : MethodId} {args : Array Value} {below : List Frame} {meth : Method} {c : Code} {ret : Option FieldType} {cy : Nat → ClassId} {D : va_G} {ad : Nat → Nat → Int → Nat} {A : Nat → Prop} {kc ks : Nat} {Q : State → Prop} {M : Mem} {b L k : Nat} {xs : Nat → Int32} (F : Fx p s m args meth c RL code 9 ret cy D ad A) (G : Gx l s A) (hX : va_X b L xs s s.heap) (hbl : b < s.heap.size) (hbA : ¬ A b) (hL : L ≤ 2048) (hj : 4 * (k : Int) + 4 ≤ L) (hR : kc + 1 ≤ room_1.cells ∧ ks + 6 ≤ room_1.slots) (hLI : LI k M) (hk : ∀ M' : Mem, LI (k + 1) M' → V p l e room_1 s m args below meth c 9 cy D ad A (kc + 1) (ks + 6) Q 1495 (LH b ad k) [] (M')) : V p l e room_1 s m args below meth c 9 cy D ad A kc ks Q 764 (LH b ad k) [] (M) := by
  obtain ⟨S, hS⟩ : ∃ S, S = M 0 := ⟨_, rfl⟩
  obtain ⟨T, hT0⟩ : ∃ T, T = M 1 := ⟨_, rfl⟩
  obtain ⟨a2, hI, hD, hhr, hT, hcn⟩ := id hLI
  rw [← hS] at a2 hI hD hhr hcn
  rw [← hT0] at hT hcn
  have hh : 0 ≤ S 20 0 ∧ S 20 0 < 900000 := by omega
  have ic := hI.pc
  obtain ⟨x, ex1, hx9⟩ : ∃ x, xs (4 * (k : Int) + 1).toNat = i32 x ∧ ir x := ⟨_, (i32_of _).symm, ir_toInt _⟩
  obtain ⟨w, ex2, hw9⟩ : ∃ x, xs (4 * (k : Int) + 2).toNat = i32 x ∧ ir x := ⟨_, (i32_of _).symm, ir_toInt _⟩
  have hH := H_about (l := l) (cy := cy) (D := D) (ad := ad) (M := M) G.1 hI hh hx9 hw9
  by_cases h0 : cRng x 0 (S 20 2 - 1) w 0 4 = 0
  · rw [h0, if_pos rfl] at hH
    have hC := C_X6_about (l := l) (cy := cy) (D := D) (ad := ad) (M := outM (setc M 0 (S)) (aboutF S x w)) hI hh hx9 hw9
    rw [h0, if_pos rfl, if_pos rfl] at hC
    refine V.cast (self0 hS) ?_
    refine r_aload_n (i := 1) F dL_law_764 rfl rfl ?_
    refine r_aload_n (i := 0) F dL_law_765 rfl rfl ?_
    refine r_iload F dL_law_766 rfl ?_
    refine r_iconst F dL_law_768 ?_
    refine r_iadd F dL_law_769 ?_
    refine r_sld F hX hbl hbA ex1 (by omega) (by omega) hL dL_law_770 ?_
    refine r_aload_n (i := 0) F dL_law_771 rfl rfl ?_
    refine r_iload F dL_law_772 rfl ?_
    refine r_iconst F dL_law_774 ?_
    refine r_iadd F dL_law_775 ?_
    refine r_sld F hX hbl hbA ex2 (by omega) (by omega) hL dL_law_776 ?_
    refine r_aload_n (i := 3) F dL_law_777 rfl rfl ?_
    refine r_callH F G hH dL_law_778 lks_L_118 rfl rfl cw_L_about (by decide) ⟨by omega, by omega⟩ (Nat.le_of_ble_eq_true rfl) ?_
    refine r_istore (lv1 := [_, _, _, _, _, _, _, _, _]) F dL_law_781 (by decide) rfl rfl ?_
    refine r_aload_n (i := 2) F dL_law_783 rfl rfl ?_
    refine r_aload_n (i := 0) F dL_law_784 rfl rfl ?_
    refine r_iload F dL_law_785 rfl ?_
    refine r_iconst F dL_law_787 ?_
    refine r_iadd F dL_law_788 ?_
    refine r_sld F hX hbl hbA ex1 (by omega) (by omega) hL dL_law_789 ?_
    refine r_aload_n (i := 0) F dL_law_790 rfl rfl ?_
    refine r_iload F dL_law_791 rfl ?_
    refine r_iconst F dL_law_793 ?_
    refine r_iadd F dL_law_794 ?_
    refine r_sld F hX hbl hbA ex2 (by omega) (by omega) hL dL_law_795 ?_
    refine V.cast (self2 (S := S) (by rw [outM_ne _ _ (by decide), setc_ne _ _ (by decide)]; exact a2)) ?_
    refine r_callV F hC dL_law_796 lkv_L_120 rfl rfl rfl rfl rfl cd_X6_about (by decide) ⟨by omega, by omega⟩ (Nat.le_of_ble_eq_true rfl) ?_
    refine r_istore (lv1 := [_, _, _, _, _, _, _, _, _]) F dL_law_799 (by decide) rfl rfl ?_
    refine r_aload_n (i := 2) F dL_law_801 rfl rfl ?_
    refine r_callV F C_X6_thrown dL_law_802 lkv_L_88 rfl rfl rfl rfl rfl cd_X6_thrown (by decide) ⟨by omega, by omega⟩ (Nat.le_of_ble_eq_true rfl) ?_
    rw [thr_rd]
    refine r_iload F dL_law_805 rfl ?_
    refine r_sameq (tgt := 812) F dL_law_807 (by decide) ?_
    refine r_iload F dL_law_812 rfl ?_
    refine r_if_ne (tgt := 829) F dL_law_814 (by decide) (ir_of (by decide) (by decide)) (fun h => absurd rfl h) (fun _ => ?_)
    refine r_aload_n (i := 3) F dL_law_817 rfl rfl ?_
    refine r_iconst F dL_law_818 ?_
    refine lo_35 F dL_law_819 ?_
    rw [out_rd]
    refine r_iload F dL_law_820 rfl ?_
    refine r_i2l F dL_law_822 ?_
    refine r_lcmpE F dL_law_823 ?_
    refine r_if_eq (tgt := 829) F dL_law_824 (by decide) (ir_of (by decide) (by decide)) (fun _ => ?_) (fun h => absurd rfl h)
    refine r_goto (tgt := 1495) F dL_law_829 (by decide) ?_
    refine V.kill (lv1 := [_, _, _, _, _, _, _, _, _]) 5 rfl ?_
    refine V.kill (lv1 := [_, _, _, _, _, _, _, _, _]) 6 rfl ?_
    refine hk _ (LI.step (S1 := S) hLI (hI) (hD) ?_ ?_ (by rw [setc_ne _ _ (by decide), thr_ne _ _ (by decide), outM_ne _ _ (by decide), setc_at]) (by rw [setc_at]) (by rw [setc_ne _ _ (by decide), thr_ne _ _ (by decide), outM_ne _ _ (by decide), setc_ne _ _ (by decide)]))
    · rw [← hS]; exact ⟨hh.1, by show S 20 0 ≤ S 20 0 + 60; omega⟩
    · rw [← hS]; exact ⟨Int.le_refl _, Int.le_refl _, Int.le_refl _⟩
  · rw [if_neg h0] at hH
    have hb : 0 ≤ cRng x 0 (S 20 2 - 1) w 0 4 ∧ cRng x 0 (S 20 2 - 1) w 0 4 ≤ 3 := by unfold cRng; (repeat' split) <;> omega
    have hC := C_X6_about (l := l) (cy := cy) (D := D) (ad := ad) (M := setc M 0 S) hI hh hx9 hw9
    rw [if_neg h0, if_neg h0] at hC
    refine V.cast (self0 hS) ?_
    refine r_aload_n (i := 1) F dL_law_764 rfl rfl ?_
    refine r_aload_n (i := 0) F dL_law_765 rfl rfl ?_
    refine r_iload F dL_law_766 rfl ?_
    refine r_iconst F dL_law_768 ?_
    refine r_iadd F dL_law_769 ?_
    refine r_sld F hX hbl hbA ex1 (by omega) (by omega) hL dL_law_770 ?_
    refine r_aload_n (i := 0) F dL_law_771 rfl rfl ?_
    refine r_iload F dL_law_772 rfl ?_
    refine r_iconst F dL_law_774 ?_
    refine r_iadd F dL_law_775 ?_
    refine r_sld F hX hbl hbA ex2 (by omega) (by omega) hL dL_law_776 ?_
    refine r_aload_n (i := 3) F dL_law_777 rfl rfl ?_
    refine r_callH F G hH dL_law_778 lks_L_118 rfl rfl cw_L_about (by decide) ⟨by omega, by omega⟩ (Nat.le_of_ble_eq_true rfl) ?_
    refine r_istore (lv1 := [_, _, _, _, _, _, _, _, _]) F dL_law_781 (by decide) rfl rfl ?_
    refine r_aload_n (i := 2) F dL_law_783 rfl rfl ?_
    refine r_aload_n (i := 0) F dL_law_784 rfl rfl ?_
    refine r_iload F dL_law_785 rfl ?_
    refine r_iconst F dL_law_787 ?_
    refine r_iadd F dL_law_788 ?_
    refine r_sld F hX hbl hbA ex1 (by omega) (by omega) hL dL_law_789 ?_
    refine r_aload_n (i := 0) F dL_law_790 rfl rfl ?_
    refine r_iload F dL_law_791 rfl ?_
    refine r_iconst F dL_law_793 ?_
    refine r_iadd F dL_law_794 ?_
    refine r_sld F hX hbl hbA ex2 (by omega) (by omega) hL dL_law_795 ?_
    refine V.cast (self2 (S := S) (by rw [setc_ne _ _ (by decide)]; exact a2)) ?_
    refine r_callV F hC dL_law_796 lkv_L_120 rfl rfl rfl rfl rfl cd_X6_about (by decide) ⟨by omega, by omega⟩ (Nat.le_of_ble_eq_true rfl) ?_
    refine r_istore (lv1 := [_, _, _, _, _, _, _, _, _]) F dL_law_799 (by decide) rfl rfl ?_
    refine r_aload_n (i := 2) F dL_law_801 rfl rfl ?_
    refine r_callV F C_X6_thrown dL_law_802 lkv_L_88 rfl rfl rfl rfl rfl cd_X6_thrown (by decide) ⟨by omega, by omega⟩ (Nat.le_of_ble_eq_true rfl) ?_
    rw [thr_rd]
    refine r_iload F dL_law_805 rfl ?_
    refine r_sameq (tgt := 812) F dL_law_807 (by decide) ?_
    refine r_iload F dL_law_812 rfl ?_
    refine r_if_ne (tgt := 829) F dL_law_814 (by decide) (ir_of (by omega) (by omega)) (fun _ => ?_) (fun h => absurd h h0)
    refine r_goto (tgt := 1495) F dL_law_829 (by decide) ?_
    refine V.kill (lv1 := [_, _, _, _, _, _, _, _, _]) 5 rfl ?_
    refine V.kill (lv1 := [_, _, _, _, _, _, _, _, _]) 6 rfl ?_
    exact hk _ (LI.same hLI (by rw [setc_ne _ _ (by decide), thr_ne _ _ (by decide), setc_at, hS]) (by rw [setc_at, hS]) (by rw [setc_ne _ _ (by decide), thr_ne _ _ (by decide), setc_ne _ _ (by decide)]))
set_option maxHeartbeats 4000000 in
set_option maxRecDepth 100000 in
theorem L_light {p : Program} {l : Launch} {e : Env} {s : State} {m : MethodId} {args : Array Value} {below : List Frame} {meth : Method} {c : Code} {ret : Option FieldType} {cy : Nat → ClassId} {D : va_G} {ad : Nat → Nat → Int → Nat} {A : Nat → Prop} {kc ks : Nat} {Q : State → Prop} {M : Mem} {b L k : Nat} {xs : Nat → Int32} (F : Fx p s m args meth c RL code 9 ret cy D ad A) (G : Gx l s A) (hX : va_X b L xs s s.heap) (hbl : b < s.heap.size) (hbA : ¬ A b) (hL : L ≤ 2048) (hj : 4 * (k : Int) + 4 ≤ L) (hR : kc + 1 ≤ room_1.cells ∧ ks + 6 ≤ room_1.slots) (hLI : LI k M) (hk : ∀ M' : Mem, LI (k + 1) M' → V p l e room_1 s m args below meth c 9 cy D ad A (kc + 1) (ks + 6) Q 1495 (LH b ad k) [] (M')) : V p l e room_1 s m args below meth c 9 cy D ad A kc ks Q 832 (LH b ad k) [] (M) := by
  obtain ⟨S, hS⟩ : ∃ S, S = M 0 := ⟨_, rfl⟩
  obtain ⟨T, hT0⟩ : ∃ T, T = M 1 := ⟨_, rfl⟩
  obtain ⟨a2, hI, hD, hhr, hT, hcn⟩ := id hLI
  rw [← hS] at a2 hI hD hhr hcn
  rw [← hT0] at hT hcn
  have hh : 0 ≤ S 20 0 ∧ S 20 0 < 900000 := by omega
  have ic := hI.pc
  obtain ⟨x, ex1, hx9⟩ : ∃ x, xs (4 * (k : Int) + 1).toNat = i32 x ∧ ir x := ⟨_, (i32_of _).symm, ir_toInt _⟩
  obtain ⟨w, ex2, hw9⟩ : ∃ x, xs (4 * (k : Int) + 2).toNat = i32 x ∧ ir x := ⟨_, (i32_of _).symm, ir_toInt _⟩
  have hH := H_light (l := l) (cy := cy) (D := D) (ad := ad) (M := M) G.1 hI hh hx9 hw9
  by_cases h0 : cRng x 0 (S 20 1 - 1) w 0 3 = 0
  · rw [h0, if_pos rfl] at hH
    have hC := C_X6_light (l := l) (cy := cy) (D := D) (ad := ad) (M := outM (setc M 0 (S)) (lightF S x w)) hI hh hx9 hw9
    rw [h0, if_pos rfl, if_pos rfl] at hC
    refine V.cast (self0 hS) ?_
    refine r_aload_n (i := 1) F dL_law_832 rfl rfl ?_
    refine r_aload_n (i := 0) F dL_law_833 rfl rfl ?_
    refine r_iload F dL_law_834 rfl ?_
    refine r_iconst F dL_law_836 ?_
    refine r_iadd F dL_law_837 ?_
    refine r_sld F hX hbl hbA ex1 (by omega) (by omega) hL dL_law_838 ?_
    refine r_aload_n (i := 0) F dL_law_839 rfl rfl ?_
    refine r_iload F dL_law_840 rfl ?_
    refine r_iconst F dL_law_842 ?_
    refine r_iadd F dL_law_843 ?_
    refine r_sld F hX hbl hbA ex2 (by omega) (by omega) hL dL_law_844 ?_
    refine r_aload_n (i := 3) F dL_law_845 rfl rfl ?_
    refine r_callH F G hH dL_law_846 lks_L_121 rfl rfl cw_L_light (by decide) ⟨by omega, by omega⟩ (Nat.le_of_ble_eq_true rfl) ?_
    refine r_istore (lv1 := [_, _, _, _, _, _, _, _, _]) F dL_law_849 (by decide) rfl rfl ?_
    refine r_aload_n (i := 2) F dL_law_851 rfl rfl ?_
    refine r_aload_n (i := 0) F dL_law_852 rfl rfl ?_
    refine r_iload F dL_law_853 rfl ?_
    refine r_iconst F dL_law_855 ?_
    refine r_iadd F dL_law_856 ?_
    refine r_sld F hX hbl hbA ex1 (by omega) (by omega) hL dL_law_857 ?_
    refine r_aload_n (i := 0) F dL_law_858 rfl rfl ?_
    refine r_iload F dL_law_859 rfl ?_
    refine r_iconst F dL_law_861 ?_
    refine r_iadd F dL_law_862 ?_
    refine r_sld F hX hbl hbA ex2 (by omega) (by omega) hL dL_law_863 ?_
    refine V.cast (self2 (S := S) (by rw [outM_ne _ _ (by decide), setc_ne _ _ (by decide)]; exact a2)) ?_
    refine r_callV F hC dL_law_864 lkv_L_123 rfl rfl rfl rfl rfl cd_X6_light (by decide) ⟨by omega, by omega⟩ (Nat.le_of_ble_eq_true rfl) ?_
    refine r_istore (lv1 := [_, _, _, _, _, _, _, _, _]) F dL_law_867 (by decide) rfl rfl ?_
    refine r_aload_n (i := 2) F dL_law_869 rfl rfl ?_
    refine r_callV F C_X6_thrown dL_law_870 lkv_L_88 rfl rfl rfl rfl rfl cd_X6_thrown (by decide) ⟨by omega, by omega⟩ (Nat.le_of_ble_eq_true rfl) ?_
    rw [thr_rd]
    refine r_iload F dL_law_873 rfl ?_
    refine r_sameq (tgt := 880) F dL_law_875 (by decide) ?_
    refine r_iload F dL_law_880 rfl ?_
    refine r_if_ne (tgt := 897) F dL_law_882 (by decide) (ir_of (by decide) (by decide)) (fun h => absurd rfl h) (fun _ => ?_)
    refine r_aload_n (i := 3) F dL_law_885 rfl rfl ?_
    refine r_iconst F dL_law_886 ?_
    refine lo_35 F dL_law_887 ?_
    rw [out_rd]
    refine r_iload F dL_law_888 rfl ?_
    refine r_i2l F dL_law_890 ?_
    refine r_lcmpE F dL_law_891 ?_
    refine r_if_eq (tgt := 897) F dL_law_892 (by decide) (ir_of (by decide) (by decide)) (fun _ => ?_) (fun h => absurd rfl h)
    refine r_goto (tgt := 1495) F dL_law_897 (by decide) ?_
    refine V.kill (lv1 := [_, _, _, _, _, _, _, _, _]) 5 rfl ?_
    refine V.kill (lv1 := [_, _, _, _, _, _, _, _, _]) 6 rfl ?_
    refine hk _ (LI.step (S1 := S) hLI (hI) (hD) ?_ ?_ (by rw [setc_ne _ _ (by decide), thr_ne _ _ (by decide), outM_ne _ _ (by decide), setc_at]) (by rw [setc_at]) (by rw [setc_ne _ _ (by decide), thr_ne _ _ (by decide), outM_ne _ _ (by decide), setc_ne _ _ (by decide)]))
    · rw [← hS]; exact ⟨hh.1, by show S 20 0 ≤ S 20 0 + 60; omega⟩
    · rw [← hS]; exact ⟨Int.le_refl _, Int.le_refl _, Int.le_refl _⟩
  · rw [if_neg h0] at hH
    have hb : 0 ≤ cRng x 0 (S 20 1 - 1) w 0 3 ∧ cRng x 0 (S 20 1 - 1) w 0 3 ≤ 3 := by unfold cRng; (repeat' split) <;> omega
    have hC := C_X6_light (l := l) (cy := cy) (D := D) (ad := ad) (M := setc M 0 S) hI hh hx9 hw9
    rw [if_neg h0, if_neg h0] at hC
    refine V.cast (self0 hS) ?_
    refine r_aload_n (i := 1) F dL_law_832 rfl rfl ?_
    refine r_aload_n (i := 0) F dL_law_833 rfl rfl ?_
    refine r_iload F dL_law_834 rfl ?_
    refine r_iconst F dL_law_836 ?_
    refine r_iadd F dL_law_837 ?_
    refine r_sld F hX hbl hbA ex1 (by omega) (by omega) hL dL_law_838 ?_
    refine r_aload_n (i := 0) F dL_law_839 rfl rfl ?_
    refine r_iload F dL_law_840 rfl ?_
    refine r_iconst F dL_law_842 ?_
    refine r_iadd F dL_law_843 ?_
    refine r_sld F hX hbl hbA ex2 (by omega) (by omega) hL dL_law_844 ?_
    refine r_aload_n (i := 3) F dL_law_845 rfl rfl ?_
    refine r_callH F G hH dL_law_846 lks_L_121 rfl rfl cw_L_light (by decide) ⟨by omega, by omega⟩ (Nat.le_of_ble_eq_true rfl) ?_
    refine r_istore (lv1 := [_, _, _, _, _, _, _, _, _]) F dL_law_849 (by decide) rfl rfl ?_
    refine r_aload_n (i := 2) F dL_law_851 rfl rfl ?_
    refine r_aload_n (i := 0) F dL_law_852 rfl rfl ?_
    refine r_iload F dL_law_853 rfl ?_
    refine r_iconst F dL_law_855 ?_
    refine r_iadd F dL_law_856 ?_
    refine r_sld F hX hbl hbA ex1 (by omega) (by omega) hL dL_law_857 ?_
    refine r_aload_n (i := 0) F dL_law_858 rfl rfl ?_
    refine r_iload F dL_law_859 rfl ?_
    refine r_iconst F dL_law_861 ?_
    refine r_iadd F dL_law_862 ?_
    refine r_sld F hX hbl hbA ex2 (by omega) (by omega) hL dL_law_863 ?_
    refine V.cast (self2 (S := S) (by rw [setc_ne _ _ (by decide)]; exact a2)) ?_
    refine r_callV F hC dL_law_864 lkv_L_123 rfl rfl rfl rfl rfl cd_X6_light (by decide) ⟨by omega, by omega⟩ (Nat.le_of_ble_eq_true rfl) ?_
    refine r_istore (lv1 := [_, _, _, _, _, _, _, _, _]) F dL_law_867 (by decide) rfl rfl ?_
    refine r_aload_n (i := 2) F dL_law_869 rfl rfl ?_
    refine r_callV F C_X6_thrown dL_law_870 lkv_L_88 rfl rfl rfl rfl rfl cd_X6_thrown (by decide) ⟨by omega, by omega⟩ (Nat.le_of_ble_eq_true rfl) ?_
    rw [thr_rd]
    refine r_iload F dL_law_873 rfl ?_
    refine r_sameq (tgt := 880) F dL_law_875 (by decide) ?_
    refine r_iload F dL_law_880 rfl ?_
    refine r_if_ne (tgt := 897) F dL_law_882 (by decide) (ir_of (by omega) (by omega)) (fun _ => ?_) (fun h => absurd h h0)
    refine r_goto (tgt := 1495) F dL_law_897 (by decide) ?_
    refine V.kill (lv1 := [_, _, _, _, _, _, _, _, _]) 5 rfl ?_
    refine V.kill (lv1 := [_, _, _, _, _, _, _, _, _]) 6 rfl ?_
    exact hk _ (LI.same hLI (by rw [setc_ne _ _ (by decide), thr_ne _ _ (by decide), setc_at, hS]) (by rw [setc_at, hS]) (by rw [setc_ne _ _ (by decide), thr_ne _ _ (by decide), setc_ne _ _ (by decide)]))
set_option maxHeartbeats 4000000 in
set_option maxRecDepth 100000 in
theorem L_code {p : Program} {l : Launch} {e : Env} {s : State} {m : MethodId} {args : Array Value} {below : List Frame} {meth : Method} {c : Code} {ret : Option FieldType} {cy : Nat → ClassId} {D : va_G} {ad : Nat → Nat → Int → Nat} {A : Nat → Prop} {kc ks : Nat} {Q : State → Prop} {M : Mem} {b L k : Nat} {xs : Nat → Int32} (F : Fx p s m args meth c RL code 9 ret cy D ad A) (G : Gx l s A) (hX : va_X b L xs s s.heap) (hbl : b < s.heap.size) (hbA : ¬ A b) (hL : L ≤ 2048) (hj : 4 * (k : Int) + 4 ≤ L) (hR : kc + 1 ≤ room_1.cells ∧ ks + 6 ≤ room_1.slots) (hLI : LI k M) (hk : ∀ M' : Mem, LI (k + 1) M' → V p l e room_1 s m args below meth c 9 cy D ad A (kc + 1) (ks + 6) Q 1495 (LH b ad k) [] (M')) : V p l e room_1 s m args below meth c 9 cy D ad A kc ks Q 900 (LH b ad k) [] (M) := by
  obtain ⟨S, hS⟩ : ∃ S, S = M 0 := ⟨_, rfl⟩
  obtain ⟨T, hT0⟩ : ∃ T, T = M 1 := ⟨_, rfl⟩
  obtain ⟨a2, hI, hD, hhr, hT, hcn⟩ := id hLI
  rw [← hS] at a2 hI hD hhr hcn
  rw [← hT0] at hT hcn
  have hh : 0 ≤ S 20 0 ∧ S 20 0 < 900000 := by omega
  have ic := hI.pc
  obtain ⟨x, ex1, hx9⟩ : ∃ x, xs (4 * (k : Int) + 1).toNat = i32 x ∧ ir x := ⟨_, (i32_of _).symm, ir_toInt _⟩
  obtain ⟨w, ex2, hw9⟩ : ∃ x, xs (4 * (k : Int) + 2).toNat = i32 x ∧ ir x := ⟨_, (i32_of _).symm, ir_toInt _⟩
  have hH := H_code (l := l) (cy := cy) (D := D) (ad := ad) (M := M) G.1 hI hx9 hw9
  by_cases h0 : cRng x 1 7 w 0 3 = 0
  · rw [h0, if_pos rfl] at hH
    have hC := C_X6_code (l := l) (cy := cy) (D := D) (ad := ad) (M := outM (setc M 0 (S)) (codeF S x w)) hI hx9 hw9
    rw [h0, if_pos rfl, if_pos rfl] at hC
    refine V.cast (self0 hS) ?_
    refine r_aload_n (i := 1) F dL_law_900 rfl rfl ?_
    refine r_aload_n (i := 0) F dL_law_901 rfl rfl ?_
    refine r_iload F dL_law_902 rfl ?_
    refine r_iconst F dL_law_904 ?_
    refine r_iadd F dL_law_905 ?_
    refine r_sld F hX hbl hbA ex1 (by omega) (by omega) hL dL_law_906 ?_
    refine r_aload_n (i := 0) F dL_law_907 rfl rfl ?_
    refine r_iload F dL_law_908 rfl ?_
    refine r_iconst F dL_law_910 ?_
    refine r_iadd F dL_law_911 ?_
    refine r_sld F hX hbl hbA ex2 (by omega) (by omega) hL dL_law_912 ?_
    refine r_aload_n (i := 3) F dL_law_913 rfl rfl ?_
    refine r_callH F G hH dL_law_914 lks_L_124 rfl rfl cw_L_code (by decide) ⟨by omega, by omega⟩ (Nat.le_of_ble_eq_true rfl) ?_
    refine r_istore (lv1 := [_, _, _, _, _, _, _, _, _]) F dL_law_917 (by decide) rfl rfl ?_
    refine r_aload_n (i := 2) F dL_law_919 rfl rfl ?_
    refine r_aload_n (i := 0) F dL_law_920 rfl rfl ?_
    refine r_iload F dL_law_921 rfl ?_
    refine r_iconst F dL_law_923 ?_
    refine r_iadd F dL_law_924 ?_
    refine r_sld F hX hbl hbA ex1 (by omega) (by omega) hL dL_law_925 ?_
    refine r_aload_n (i := 0) F dL_law_926 rfl rfl ?_
    refine r_iload F dL_law_927 rfl ?_
    refine r_iconst F dL_law_929 ?_
    refine r_iadd F dL_law_930 ?_
    refine r_sld F hX hbl hbA ex2 (by omega) (by omega) hL dL_law_931 ?_
    refine V.cast (self2 (S := S) (by rw [outM_ne _ _ (by decide), setc_ne _ _ (by decide)]; exact a2)) ?_
    refine r_callV F hC dL_law_932 lkv_L_126 rfl rfl rfl rfl rfl cd_X6_code (by decide) ⟨by omega, by omega⟩ (Nat.le_of_ble_eq_true rfl) ?_
    refine r_istore (lv1 := [_, _, _, _, _, _, _, _, _]) F dL_law_935 (by decide) rfl rfl ?_
    refine r_aload_n (i := 2) F dL_law_937 rfl rfl ?_
    refine r_callV F C_X6_thrown dL_law_938 lkv_L_88 rfl rfl rfl rfl rfl cd_X6_thrown (by decide) ⟨by omega, by omega⟩ (Nat.le_of_ble_eq_true rfl) ?_
    rw [thr_rd]
    refine r_iload F dL_law_941 rfl ?_
    refine r_sameq (tgt := 948) F dL_law_943 (by decide) ?_
    refine r_iload F dL_law_948 rfl ?_
    refine r_if_ne (tgt := 965) F dL_law_950 (by decide) (ir_of (by decide) (by decide)) (fun h => absurd rfl h) (fun _ => ?_)
    refine r_aload_n (i := 3) F dL_law_953 rfl rfl ?_
    refine r_iconst F dL_law_954 ?_
    refine lo_35 F dL_law_955 ?_
    rw [out_rd]
    refine r_iload F dL_law_956 rfl ?_
    refine r_i2l F dL_law_958 ?_
    refine r_lcmpE F dL_law_959 ?_
    refine r_if_eq (tgt := 965) F dL_law_960 (by decide) (ir_of (by decide) (by decide)) (fun _ => ?_) (fun h => absurd rfl h)
    refine r_goto (tgt := 1495) F dL_law_965 (by decide) ?_
    refine V.kill (lv1 := [_, _, _, _, _, _, _, _, _]) 5 rfl ?_
    refine V.kill (lv1 := [_, _, _, _, _, _, _, _, _]) 6 rfl ?_
    refine hk _ (LI.step (S1 := S) hLI (hI) (hD) ?_ ?_ (by rw [setc_ne _ _ (by decide), thr_ne _ _ (by decide), outM_ne _ _ (by decide), setc_at]) (by rw [setc_at]) (by rw [setc_ne _ _ (by decide), thr_ne _ _ (by decide), outM_ne _ _ (by decide), setc_ne _ _ (by decide)]))
    · rw [← hS]; exact ⟨hh.1, by show S 20 0 ≤ S 20 0 + 60; omega⟩
    · rw [← hS]; exact ⟨Int.le_refl _, Int.le_refl _, Int.le_refl _⟩
  · rw [if_neg h0] at hH
    have hb : 0 ≤ cRng x 1 7 w 0 3 ∧ cRng x 1 7 w 0 3 ≤ 3 := by unfold cRng; (repeat' split) <;> omega
    have hC := C_X6_code (l := l) (cy := cy) (D := D) (ad := ad) (M := setc M 0 S) hI hx9 hw9
    rw [if_neg h0, if_neg h0] at hC
    refine V.cast (self0 hS) ?_
    refine r_aload_n (i := 1) F dL_law_900 rfl rfl ?_
    refine r_aload_n (i := 0) F dL_law_901 rfl rfl ?_
    refine r_iload F dL_law_902 rfl ?_
    refine r_iconst F dL_law_904 ?_
    refine r_iadd F dL_law_905 ?_
    refine r_sld F hX hbl hbA ex1 (by omega) (by omega) hL dL_law_906 ?_
    refine r_aload_n (i := 0) F dL_law_907 rfl rfl ?_
    refine r_iload F dL_law_908 rfl ?_
    refine r_iconst F dL_law_910 ?_
    refine r_iadd F dL_law_911 ?_
    refine r_sld F hX hbl hbA ex2 (by omega) (by omega) hL dL_law_912 ?_
    refine r_aload_n (i := 3) F dL_law_913 rfl rfl ?_
    refine r_callH F G hH dL_law_914 lks_L_124 rfl rfl cw_L_code (by decide) ⟨by omega, by omega⟩ (Nat.le_of_ble_eq_true rfl) ?_
    refine r_istore (lv1 := [_, _, _, _, _, _, _, _, _]) F dL_law_917 (by decide) rfl rfl ?_
    refine r_aload_n (i := 2) F dL_law_919 rfl rfl ?_
    refine r_aload_n (i := 0) F dL_law_920 rfl rfl ?_
    refine r_iload F dL_law_921 rfl ?_
    refine r_iconst F dL_law_923 ?_
    refine r_iadd F dL_law_924 ?_
    refine r_sld F hX hbl hbA ex1 (by omega) (by omega) hL dL_law_925 ?_
    refine r_aload_n (i := 0) F dL_law_926 rfl rfl ?_
    refine r_iload F dL_law_927 rfl ?_
    refine r_iconst F dL_law_929 ?_
    refine r_iadd F dL_law_930 ?_
    refine r_sld F hX hbl hbA ex2 (by omega) (by omega) hL dL_law_931 ?_
    refine V.cast (self2 (S := S) (by rw [setc_ne _ _ (by decide)]; exact a2)) ?_
    refine r_callV F hC dL_law_932 lkv_L_126 rfl rfl rfl rfl rfl cd_X6_code (by decide) ⟨by omega, by omega⟩ (Nat.le_of_ble_eq_true rfl) ?_
    refine r_istore (lv1 := [_, _, _, _, _, _, _, _, _]) F dL_law_935 (by decide) rfl rfl ?_
    refine r_aload_n (i := 2) F dL_law_937 rfl rfl ?_
    refine r_callV F C_X6_thrown dL_law_938 lkv_L_88 rfl rfl rfl rfl rfl cd_X6_thrown (by decide) ⟨by omega, by omega⟩ (Nat.le_of_ble_eq_true rfl) ?_
    rw [thr_rd]
    refine r_iload F dL_law_941 rfl ?_
    refine r_sameq (tgt := 948) F dL_law_943 (by decide) ?_
    refine r_iload F dL_law_948 rfl ?_
    refine r_if_ne (tgt := 965) F dL_law_950 (by decide) (ir_of (by omega) (by omega)) (fun _ => ?_) (fun h => absurd h h0)
    refine r_goto (tgt := 1495) F dL_law_965 (by decide) ?_
    refine V.kill (lv1 := [_, _, _, _, _, _, _, _, _]) 5 rfl ?_
    refine V.kill (lv1 := [_, _, _, _, _, _, _, _, _]) 6 rfl ?_
    exact hk _ (LI.same hLI (by rw [setc_ne _ _ (by decide), thr_ne _ _ (by decide), setc_at, hS]) (by rw [setc_at, hS]) (by rw [setc_ne _ _ (by decide), thr_ne _ _ (by decide), setc_ne _ _ (by decide)]))
set_option maxHeartbeats 4000000 in
set_option maxRecDepth 100000 in
theorem L_place {p : Program} {l : Launch} {e : Env} {s : State} {m : MethodId} {args : Array Value} {below : List Frame} {meth : Method} {c : Code} {ret : Option FieldType} {cy : Nat → ClassId} {D : va_G} {ad : Nat → Nat → Int → Nat} {A : Nat → Prop} {kc ks : Nat} {Q : State → Prop} {M : Mem} {b L k : Nat} {xs : Nat → Int32} (F : Fx p s m args meth c RL code 9 ret cy D ad A) (G : Gx l s A) (hX : va_X b L xs s s.heap) (hbl : b < s.heap.size) (hbA : ¬ A b) (hL : L ≤ 2048) (hj : 4 * (k : Int) + 4 ≤ L) (hR : kc + 1 ≤ room_1.cells ∧ ks + 6 ≤ room_1.slots) (hLI : LI k M) (hk : ∀ M' : Mem, LI (k + 1) M' → V p l e room_1 s m args below meth c 9 cy D ad A (kc + 1) (ks + 6) Q 1495 (LH b ad k) [] (M')) : V p l e room_1 s m args below meth c 9 cy D ad A kc ks Q 968 (LH b ad k) [] (M) := by
  obtain ⟨S, hS⟩ : ∃ S, S = M 0 := ⟨_, rfl⟩
  obtain ⟨T, hT0⟩ : ∃ T, T = M 1 := ⟨_, rfl⟩
  obtain ⟨a2, hI, hD, hhr, hT, hcn⟩ := id hLI
  rw [← hS] at a2 hI hD hhr hcn
  rw [← hT0] at hT hcn
  have hh : 0 ≤ S 20 0 ∧ S 20 0 < 900000 := by omega
  have ic := hI.pc
  obtain ⟨x, ex1, hx9⟩ : ∃ x, xs (4 * (k : Int) + 1).toNat = i32 x ∧ ir x := ⟨_, (i32_of _).symm, ir_toInt _⟩
  obtain ⟨w, ex2, hw9⟩ : ∃ x, xs (4 * (k : Int) + 2).toNat = i32 x ∧ ir x := ⟨_, (i32_of _).symm, ir_toInt _⟩
  have hH := H_place (l := l) (cy := cy) (D := D) (ad := ad) (M := M) G.1 hI hh hx9 hw9
  by_cases h0 : cRng x 0 15 w 0 4 = 0
  · rw [h0, if_pos rfl] at hH
    have hC := C_X6_place (l := l) (cy := cy) (D := D) (ad := ad) (M := outM (setc M 0 (S)) (placeF S x w)) hI hh hx9 hw9
    rw [h0, if_pos rfl, if_pos rfl] at hC
    refine V.cast (self0 hS) ?_
    refine r_aload_n (i := 1) F dL_law_968 rfl rfl ?_
    refine r_aload_n (i := 0) F dL_law_969 rfl rfl ?_
    refine r_iload F dL_law_970 rfl ?_
    refine r_iconst F dL_law_972 ?_
    refine r_iadd F dL_law_973 ?_
    refine r_sld F hX hbl hbA ex1 (by omega) (by omega) hL dL_law_974 ?_
    refine r_aload_n (i := 0) F dL_law_975 rfl rfl ?_
    refine r_iload F dL_law_976 rfl ?_
    refine r_iconst F dL_law_978 ?_
    refine r_iadd F dL_law_979 ?_
    refine r_sld F hX hbl hbA ex2 (by omega) (by omega) hL dL_law_980 ?_
    refine r_aload_n (i := 3) F dL_law_981 rfl rfl ?_
    refine r_callH F G hH dL_law_982 lks_L_127 rfl rfl cw_L_place (by decide) ⟨by omega, by omega⟩ (Nat.le_of_ble_eq_true rfl) ?_
    refine r_istore (lv1 := [_, _, _, _, _, _, _, _, _]) F dL_law_985 (by decide) rfl rfl ?_
    refine r_aload_n (i := 2) F dL_law_987 rfl rfl ?_
    refine r_aload_n (i := 0) F dL_law_988 rfl rfl ?_
    refine r_iload F dL_law_989 rfl ?_
    refine r_iconst F dL_law_991 ?_
    refine r_iadd F dL_law_992 ?_
    refine r_sld F hX hbl hbA ex1 (by omega) (by omega) hL dL_law_993 ?_
    refine r_aload_n (i := 0) F dL_law_994 rfl rfl ?_
    refine r_iload F dL_law_995 rfl ?_
    refine r_iconst F dL_law_997 ?_
    refine r_iadd F dL_law_998 ?_
    refine r_sld F hX hbl hbA ex2 (by omega) (by omega) hL dL_law_999 ?_
    refine V.cast (self2 (S := S) (by rw [outM_ne _ _ (by decide), setc_ne _ _ (by decide)]; exact a2)) ?_
    refine r_callV F hC dL_law_1000 lkv_L_129 rfl rfl rfl rfl rfl cd_X6_place (by decide) ⟨by omega, by omega⟩ (Nat.le_of_ble_eq_true rfl) ?_
    refine r_istore (lv1 := [_, _, _, _, _, _, _, _, _]) F dL_law_1003 (by decide) rfl rfl ?_
    refine r_aload_n (i := 2) F dL_law_1005 rfl rfl ?_
    refine r_callV F C_X6_thrown dL_law_1006 lkv_L_88 rfl rfl rfl rfl rfl cd_X6_thrown (by decide) ⟨by omega, by omega⟩ (Nat.le_of_ble_eq_true rfl) ?_
    rw [thr_rd]
    refine r_iload F dL_law_1009 rfl ?_
    refine r_sameq (tgt := 1016) F dL_law_1011 (by decide) ?_
    refine r_iload F dL_law_1016 rfl ?_
    refine r_if_ne (tgt := 1033) F dL_law_1018 (by decide) (ir_of (by decide) (by decide)) (fun h => absurd rfl h) (fun _ => ?_)
    refine r_aload_n (i := 3) F dL_law_1021 rfl rfl ?_
    refine r_iconst F dL_law_1022 ?_
    refine lo_35 F dL_law_1023 ?_
    rw [out_rd]
    refine r_iload F dL_law_1024 rfl ?_
    refine r_i2l F dL_law_1026 ?_
    refine r_lcmpE F dL_law_1027 ?_
    refine r_if_eq (tgt := 1033) F dL_law_1028 (by decide) (ir_of (by decide) (by decide)) (fun _ => ?_) (fun h => absurd rfl h)
    refine r_goto (tgt := 1495) F dL_law_1033 (by decide) ?_
    refine V.kill (lv1 := [_, _, _, _, _, _, _, _, _]) 5 rfl ?_
    refine V.kill (lv1 := [_, _, _, _, _, _, _, _, _]) 6 rfl ?_
    refine hk _ (LI.step (S1 := S) hLI (hI) (hD) ?_ ?_ (by rw [setc_ne _ _ (by decide), thr_ne _ _ (by decide), outM_ne _ _ (by decide), setc_at]) (by rw [setc_at]) (by rw [setc_ne _ _ (by decide), thr_ne _ _ (by decide), outM_ne _ _ (by decide), setc_ne _ _ (by decide)]))
    · rw [← hS]; exact ⟨hh.1, by show S 20 0 ≤ S 20 0 + 60; omega⟩
    · rw [← hS]; exact ⟨Int.le_refl _, Int.le_refl _, Int.le_refl _⟩
  · rw [if_neg h0] at hH
    have hb : 0 ≤ cRng x 0 15 w 0 4 ∧ cRng x 0 15 w 0 4 ≤ 3 := by unfold cRng; (repeat' split) <;> omega
    have hC := C_X6_place (l := l) (cy := cy) (D := D) (ad := ad) (M := setc M 0 S) hI hh hx9 hw9
    rw [if_neg h0, if_neg h0] at hC
    refine V.cast (self0 hS) ?_
    refine r_aload_n (i := 1) F dL_law_968 rfl rfl ?_
    refine r_aload_n (i := 0) F dL_law_969 rfl rfl ?_
    refine r_iload F dL_law_970 rfl ?_
    refine r_iconst F dL_law_972 ?_
    refine r_iadd F dL_law_973 ?_
    refine r_sld F hX hbl hbA ex1 (by omega) (by omega) hL dL_law_974 ?_
    refine r_aload_n (i := 0) F dL_law_975 rfl rfl ?_
    refine r_iload F dL_law_976 rfl ?_
    refine r_iconst F dL_law_978 ?_
    refine r_iadd F dL_law_979 ?_
    refine r_sld F hX hbl hbA ex2 (by omega) (by omega) hL dL_law_980 ?_
    refine r_aload_n (i := 3) F dL_law_981 rfl rfl ?_
    refine r_callH F G hH dL_law_982 lks_L_127 rfl rfl cw_L_place (by decide) ⟨by omega, by omega⟩ (Nat.le_of_ble_eq_true rfl) ?_
    refine r_istore (lv1 := [_, _, _, _, _, _, _, _, _]) F dL_law_985 (by decide) rfl rfl ?_
    refine r_aload_n (i := 2) F dL_law_987 rfl rfl ?_
    refine r_aload_n (i := 0) F dL_law_988 rfl rfl ?_
    refine r_iload F dL_law_989 rfl ?_
    refine r_iconst F dL_law_991 ?_
    refine r_iadd F dL_law_992 ?_
    refine r_sld F hX hbl hbA ex1 (by omega) (by omega) hL dL_law_993 ?_
    refine r_aload_n (i := 0) F dL_law_994 rfl rfl ?_
    refine r_iload F dL_law_995 rfl ?_
    refine r_iconst F dL_law_997 ?_
    refine r_iadd F dL_law_998 ?_
    refine r_sld F hX hbl hbA ex2 (by omega) (by omega) hL dL_law_999 ?_
    refine V.cast (self2 (S := S) (by rw [setc_ne _ _ (by decide)]; exact a2)) ?_
    refine r_callV F hC dL_law_1000 lkv_L_129 rfl rfl rfl rfl rfl cd_X6_place (by decide) ⟨by omega, by omega⟩ (Nat.le_of_ble_eq_true rfl) ?_
    refine r_istore (lv1 := [_, _, _, _, _, _, _, _, _]) F dL_law_1003 (by decide) rfl rfl ?_
    refine r_aload_n (i := 2) F dL_law_1005 rfl rfl ?_
    refine r_callV F C_X6_thrown dL_law_1006 lkv_L_88 rfl rfl rfl rfl rfl cd_X6_thrown (by decide) ⟨by omega, by omega⟩ (Nat.le_of_ble_eq_true rfl) ?_
    rw [thr_rd]
    refine r_iload F dL_law_1009 rfl ?_
    refine r_sameq (tgt := 1016) F dL_law_1011 (by decide) ?_
    refine r_iload F dL_law_1016 rfl ?_
    refine r_if_ne (tgt := 1033) F dL_law_1018 (by decide) (ir_of (by omega) (by omega)) (fun _ => ?_) (fun h => absurd h h0)
    refine r_goto (tgt := 1495) F dL_law_1033 (by decide) ?_
    refine V.kill (lv1 := [_, _, _, _, _, _, _, _, _]) 5 rfl ?_
    refine V.kill (lv1 := [_, _, _, _, _, _, _, _, _]) 6 rfl ?_
    exact hk _ (LI.same hLI (by rw [setc_ne _ _ (by decide), thr_ne _ _ (by decide), setc_at, hS]) (by rw [setc_at, hS]) (by rw [setc_ne _ _ (by decide), thr_ne _ _ (by decide), setc_ne _ _ (by decide)]))
set_option maxHeartbeats 4000000 in
set_option maxRecDepth 100000 in
theorem L_moon {p : Program} {l : Launch} {e : Env} {s : State} {m : MethodId} {args : Array Value} {below : List Frame} {meth : Method} {c : Code} {ret : Option FieldType} {cy : Nat → ClassId} {D : va_G} {ad : Nat → Nat → Int → Nat} {A : Nat → Prop} {kc ks : Nat} {Q : State → Prop} {M : Mem} {b L k : Nat} {xs : Nat → Int32} (F : Fx p s m args meth c RL code 9 ret cy D ad A) (G : Gx l s A) (hX : va_X b L xs s s.heap) (hbl : b < s.heap.size) (hbA : ¬ A b) (hL : L ≤ 2048) (hj : 4 * (k : Int) + 4 ≤ L) (hR : kc + 1 ≤ room_1.cells ∧ ks + 6 ≤ room_1.slots) (hLI : LI k M) (hk : ∀ M' : Mem, LI (k + 1) M' → V p l e room_1 s m args below meth c 9 cy D ad A (kc + 1) (ks + 6) Q 1495 (LH b ad k) [] (M')) : V p l e room_1 s m args below meth c 9 cy D ad A kc ks Q 1036 (LH b ad k) [] (M) := by
  obtain ⟨S, hS⟩ : ∃ S, S = M 0 := ⟨_, rfl⟩
  obtain ⟨T, hT0⟩ : ∃ T, T = M 1 := ⟨_, rfl⟩
  obtain ⟨a2, hI, hD, hhr, hT, hcn⟩ := id hLI
  rw [← hS] at a2 hI hD hhr hcn
  rw [← hT0] at hT hcn
  have hh : 0 ≤ S 20 0 ∧ S 20 0 < 900000 := by omega
  have ic := hI.pc
  obtain ⟨x, ex1, hx9⟩ : ∃ x, xs (4 * (k : Int) + 1).toNat = i32 x ∧ ir x := ⟨_, (i32_of _).symm, ir_toInt _⟩
  have hH := H_moon (l := l) (cy := cy) (D := D) (ad := ad) (M := M) G.1 hI hx9
  by_cases h0 : cRng1 x 0 999 = 0
  · rw [h0, if_pos rfl] at hH
    have hC := C_X6_moon (l := l) (cy := cy) (D := D) (ad := ad) (M := outM (setc M 0 (S)) (moonOf x)) hI hx9
    rw [h0, if_pos rfl, if_pos rfl] at hC
    refine V.cast (self0 hS) ?_
    refine r_aload_n (i := 1) F dL_law_1036 rfl rfl ?_
    refine r_aload_n (i := 0) F dL_law_1037 rfl rfl ?_
    refine r_iload F dL_law_1038 rfl ?_
    refine r_iconst F dL_law_1040 ?_
    refine r_iadd F dL_law_1041 ?_
    refine r_sld F hX hbl hbA ex1 (by omega) (by omega) hL dL_law_1042 ?_
    refine r_aload_n (i := 3) F dL_law_1043 rfl rfl ?_
    refine r_callH F G hH dL_law_1044 lks_L_130 rfl rfl cw_L_moon (by decide) ⟨by omega, by omega⟩ (Nat.le_of_ble_eq_true rfl) ?_
    refine r_istore (lv1 := [_, _, _, _, _, _, _, _, _]) F dL_law_1047 (by decide) rfl rfl ?_
    refine r_aload_n (i := 2) F dL_law_1049 rfl rfl ?_
    refine r_aload_n (i := 0) F dL_law_1050 rfl rfl ?_
    refine r_iload F dL_law_1051 rfl ?_
    refine r_iconst F dL_law_1053 ?_
    refine r_iadd F dL_law_1054 ?_
    refine r_sld F hX hbl hbA ex1 (by omega) (by omega) hL dL_law_1055 ?_
    refine V.cast (self2 (S := S) (by rw [outM_ne _ _ (by decide), setc_ne _ _ (by decide)]; exact a2)) ?_
    refine r_callV F hC dL_law_1056 lkv_L_132 rfl rfl rfl rfl rfl cd_X6_moon (by decide) ⟨by omega, by omega⟩ (Nat.le_of_ble_eq_true rfl) ?_
    refine r_istore (lv1 := [_, _, _, _, _, _, _, _, _]) F dL_law_1059 (by decide) rfl rfl ?_
    refine r_aload_n (i := 2) F dL_law_1061 rfl rfl ?_
    refine r_callV F C_X6_thrown dL_law_1062 lkv_L_88 rfl rfl rfl rfl rfl cd_X6_thrown (by decide) ⟨by omega, by omega⟩ (Nat.le_of_ble_eq_true rfl) ?_
    rw [thr_rd]
    refine r_iload F dL_law_1065 rfl ?_
    refine r_sameq (tgt := 1072) F dL_law_1067 (by decide) ?_
    refine r_iload F dL_law_1072 rfl ?_
    refine r_if_ne (tgt := 1089) F dL_law_1074 (by decide) (ir_of (by decide) (by decide)) (fun h => absurd rfl h) (fun _ => ?_)
    refine r_aload_n (i := 3) F dL_law_1077 rfl rfl ?_
    refine r_iconst F dL_law_1078 ?_
    refine lo_35 F dL_law_1079 ?_
    rw [out_rd]
    refine r_iload F dL_law_1080 rfl ?_
    refine r_i2l F dL_law_1082 ?_
    refine r_lcmpE F dL_law_1083 ?_
    refine r_if_eq (tgt := 1089) F dL_law_1084 (by decide) (ir_of (by decide) (by decide)) (fun _ => ?_) (fun h => absurd rfl h)
    refine r_goto (tgt := 1495) F dL_law_1089 (by decide) ?_
    refine V.kill (lv1 := [_, _, _, _, _, _, _, _, _]) 5 rfl ?_
    refine V.kill (lv1 := [_, _, _, _, _, _, _, _, _]) 6 rfl ?_
    refine hk _ (LI.step (S1 := S) hLI (hI) (hD) ?_ ?_ (by rw [setc_ne _ _ (by decide), thr_ne _ _ (by decide), outM_ne _ _ (by decide), setc_at]) (by rw [setc_at]) (by rw [setc_ne _ _ (by decide), thr_ne _ _ (by decide), outM_ne _ _ (by decide), setc_ne _ _ (by decide)]))
    · rw [← hS]; exact ⟨hh.1, by show S 20 0 ≤ S 20 0 + 60; omega⟩
    · rw [← hS]; exact ⟨Int.le_refl _, Int.le_refl _, Int.le_refl _⟩
  · rw [if_neg h0] at hH
    have hb : 0 ≤ cRng1 x 0 999 ∧ cRng1 x 0 999 ≤ 3 := by unfold cRng1; (repeat' split) <;> omega
    have hC := C_X6_moon (l := l) (cy := cy) (D := D) (ad := ad) (M := setc M 0 S) hI hx9
    rw [if_neg h0, if_neg h0] at hC
    refine V.cast (self0 hS) ?_
    refine r_aload_n (i := 1) F dL_law_1036 rfl rfl ?_
    refine r_aload_n (i := 0) F dL_law_1037 rfl rfl ?_
    refine r_iload F dL_law_1038 rfl ?_
    refine r_iconst F dL_law_1040 ?_
    refine r_iadd F dL_law_1041 ?_
    refine r_sld F hX hbl hbA ex1 (by omega) (by omega) hL dL_law_1042 ?_
    refine r_aload_n (i := 3) F dL_law_1043 rfl rfl ?_
    refine r_callH F G hH dL_law_1044 lks_L_130 rfl rfl cw_L_moon (by decide) ⟨by omega, by omega⟩ (Nat.le_of_ble_eq_true rfl) ?_
    refine r_istore (lv1 := [_, _, _, _, _, _, _, _, _]) F dL_law_1047 (by decide) rfl rfl ?_
    refine r_aload_n (i := 2) F dL_law_1049 rfl rfl ?_
    refine r_aload_n (i := 0) F dL_law_1050 rfl rfl ?_
    refine r_iload F dL_law_1051 rfl ?_
    refine r_iconst F dL_law_1053 ?_
    refine r_iadd F dL_law_1054 ?_
    refine r_sld F hX hbl hbA ex1 (by omega) (by omega) hL dL_law_1055 ?_
    refine V.cast (self2 (S := S) (by rw [setc_ne _ _ (by decide)]; exact a2)) ?_
    refine r_callV F hC dL_law_1056 lkv_L_132 rfl rfl rfl rfl rfl cd_X6_moon (by decide) ⟨by omega, by omega⟩ (Nat.le_of_ble_eq_true rfl) ?_
    refine r_istore (lv1 := [_, _, _, _, _, _, _, _, _]) F dL_law_1059 (by decide) rfl rfl ?_
    refine r_aload_n (i := 2) F dL_law_1061 rfl rfl ?_
    refine r_callV F C_X6_thrown dL_law_1062 lkv_L_88 rfl rfl rfl rfl rfl cd_X6_thrown (by decide) ⟨by omega, by omega⟩ (Nat.le_of_ble_eq_true rfl) ?_
    rw [thr_rd]
    refine r_iload F dL_law_1065 rfl ?_
    refine r_sameq (tgt := 1072) F dL_law_1067 (by decide) ?_
    refine r_iload F dL_law_1072 rfl ?_
    refine r_if_ne (tgt := 1089) F dL_law_1074 (by decide) (ir_of (by omega) (by omega)) (fun _ => ?_) (fun h => absurd h h0)
    refine r_goto (tgt := 1495) F dL_law_1089 (by decide) ?_
    refine V.kill (lv1 := [_, _, _, _, _, _, _, _, _]) 5 rfl ?_
    refine V.kill (lv1 := [_, _, _, _, _, _, _, _, _]) 6 rfl ?_
    exact hk _ (LI.same hLI (by rw [setc_ne _ _ (by decide), thr_ne _ _ (by decide), setc_at, hS]) (by rw [setc_at, hS]) (by rw [setc_ne _ _ (by decide), thr_ne _ _ (by decide), setc_ne _ _ (by decide)]))
set_option maxHeartbeats 4000000 in
set_option maxRecDepth 100000 in
theorem L_count {p : Program} {l : Launch} {e : Env} {s : State} {m : MethodId} {args : Array Value} {below : List Frame} {meth : Method} {c : Code} {ret : Option FieldType} {cy : Nat → ClassId} {D : va_G} {ad : Nat → Nat → Int → Nat} {A : Nat → Prop} {kc ks : Nat} {Q : State → Prop} {M : Mem} {b L k : Nat} {xs : Nat → Int32} (F : Fx p s m args meth c RL code 9 ret cy D ad A) (G : Gx l s A) (hX : va_X b L xs s s.heap) (hbl : b < s.heap.size) (hbA : ¬ A b) (hL : L ≤ 2048) (hj : 4 * (k : Int) + 4 ≤ L) (hR : kc + 1 ≤ room_1.cells ∧ ks + 6 ≤ room_1.slots) (hLI : LI k M) (hk : ∀ M' : Mem, LI (k + 1) M' → V p l e room_1 s m args below meth c 9 cy D ad A (kc + 1) (ks + 6) Q 1495 (LH b ad k) [] (M')) : V p l e room_1 s m args below meth c 9 cy D ad A kc ks Q 1092 (LH b ad k) [] (M) := by
  obtain ⟨S, hS⟩ : ∃ S, S = M 0 := ⟨_, rfl⟩
  obtain ⟨T, hT0⟩ : ∃ T, T = M 1 := ⟨_, rfl⟩
  obtain ⟨a2, hI, hD, hhr, hT, hcn⟩ := id hLI
  rw [← hS] at a2 hI hD hhr hcn
  rw [← hT0] at hT hcn
  have hh : 0 ≤ S 20 0 ∧ S 20 0 < 900000 := by omega
  have ic := hI.pc
  obtain ⟨x, ex1, hx9⟩ : ∃ x, xs (4 * (k : Int) + 1).toNat = i32 x ∧ ir x := ⟨_, (i32_of _).symm, ir_toInt _⟩
  have hH := H_count (l := l) (cy := cy) (D := D) (ad := ad) (M := M) G.1 hI hx9
  by_cases h0 : cRng1 x 0 10 = 0
  · rw [h0, if_pos rfl] at hH
    have hC := C_X6_count (l := l) (cy := cy) (D := D) (ad := ad) (M := outM (setc M 0 (S)) (counted S x)) hI hx9
    rw [h0, if_pos rfl, if_pos rfl] at hC
    refine V.cast (self0 hS) ?_
    refine r_aload_n (i := 1) F dL_law_1092 rfl rfl ?_
    refine r_aload_n (i := 0) F dL_law_1093 rfl rfl ?_
    refine r_iload F dL_law_1094 rfl ?_
    refine r_iconst F dL_law_1096 ?_
    refine r_iadd F dL_law_1097 ?_
    refine r_sld F hX hbl hbA ex1 (by omega) (by omega) hL dL_law_1098 ?_
    refine r_aload_n (i := 3) F dL_law_1099 rfl rfl ?_
    refine r_callH F G hH dL_law_1100 lks_L_133 rfl rfl cw_L_count (by decide) ⟨by omega, by omega⟩ (Nat.le_of_ble_eq_true rfl) ?_
    refine r_istore (lv1 := [_, _, _, _, _, _, _, _, _]) F dL_law_1103 (by decide) rfl rfl ?_
    refine r_aload_n (i := 2) F dL_law_1105 rfl rfl ?_
    refine r_aload_n (i := 0) F dL_law_1106 rfl rfl ?_
    refine r_iload F dL_law_1107 rfl ?_
    refine r_iconst F dL_law_1109 ?_
    refine r_iadd F dL_law_1110 ?_
    refine r_sld F hX hbl hbA ex1 (by omega) (by omega) hL dL_law_1111 ?_
    refine V.cast (self2 (S := S) (by rw [outM_ne _ _ (by decide), setc_ne _ _ (by decide)]; exact a2)) ?_
    refine r_callV F hC dL_law_1112 lkv_L_135 rfl rfl rfl rfl rfl cd_X6_count (by decide) ⟨by omega, by omega⟩ (Nat.le_of_ble_eq_true rfl) ?_
    refine r_istore (lv1 := [_, _, _, _, _, _, _, _, _]) F dL_law_1115 (by decide) rfl rfl ?_
    refine r_aload_n (i := 2) F dL_law_1117 rfl rfl ?_
    refine r_callV F C_X6_thrown dL_law_1118 lkv_L_88 rfl rfl rfl rfl rfl cd_X6_thrown (by decide) ⟨by omega, by omega⟩ (Nat.le_of_ble_eq_true rfl) ?_
    rw [thr_rd]
    refine r_iload F dL_law_1121 rfl ?_
    refine r_sameq (tgt := 1128) F dL_law_1123 (by decide) ?_
    refine r_iload F dL_law_1128 rfl ?_
    refine r_if_ne (tgt := 1145) F dL_law_1130 (by decide) (ir_of (by decide) (by decide)) (fun h => absurd rfl h) (fun _ => ?_)
    refine r_aload_n (i := 3) F dL_law_1133 rfl rfl ?_
    refine r_iconst F dL_law_1134 ?_
    refine lo_35 F dL_law_1135 ?_
    rw [out_rd]
    refine r_iload F dL_law_1136 rfl ?_
    refine r_i2l F dL_law_1138 ?_
    refine r_lcmpE F dL_law_1139 ?_
    refine r_if_eq (tgt := 1145) F dL_law_1140 (by decide) (ir_of (by decide) (by decide)) (fun _ => ?_) (fun h => absurd rfl h)
    refine r_goto (tgt := 1495) F dL_law_1145 (by decide) ?_
    refine V.kill (lv1 := [_, _, _, _, _, _, _, _, _]) 5 rfl ?_
    refine V.kill (lv1 := [_, _, _, _, _, _, _, _, _]) 6 rfl ?_
    refine hk _ (LI.step (S1 := S) hLI (hI) (hD) ?_ ?_ (by rw [setc_ne _ _ (by decide), thr_ne _ _ (by decide), outM_ne _ _ (by decide), setc_at]) (by rw [setc_at]) (by rw [setc_ne _ _ (by decide), thr_ne _ _ (by decide), outM_ne _ _ (by decide), setc_ne _ _ (by decide)]))
    · rw [← hS]; exact ⟨hh.1, by show S 20 0 ≤ S 20 0 + 60; omega⟩
    · rw [← hS]; exact ⟨Int.le_refl _, Int.le_refl _, Int.le_refl _⟩
  · rw [if_neg h0] at hH
    have hb : 0 ≤ cRng1 x 0 10 ∧ cRng1 x 0 10 ≤ 3 := by unfold cRng1; (repeat' split) <;> omega
    have hC := C_X6_count (l := l) (cy := cy) (D := D) (ad := ad) (M := setc M 0 S) hI hx9
    rw [if_neg h0, if_neg h0] at hC
    refine V.cast (self0 hS) ?_
    refine r_aload_n (i := 1) F dL_law_1092 rfl rfl ?_
    refine r_aload_n (i := 0) F dL_law_1093 rfl rfl ?_
    refine r_iload F dL_law_1094 rfl ?_
    refine r_iconst F dL_law_1096 ?_
    refine r_iadd F dL_law_1097 ?_
    refine r_sld F hX hbl hbA ex1 (by omega) (by omega) hL dL_law_1098 ?_
    refine r_aload_n (i := 3) F dL_law_1099 rfl rfl ?_
    refine r_callH F G hH dL_law_1100 lks_L_133 rfl rfl cw_L_count (by decide) ⟨by omega, by omega⟩ (Nat.le_of_ble_eq_true rfl) ?_
    refine r_istore (lv1 := [_, _, _, _, _, _, _, _, _]) F dL_law_1103 (by decide) rfl rfl ?_
    refine r_aload_n (i := 2) F dL_law_1105 rfl rfl ?_
    refine r_aload_n (i := 0) F dL_law_1106 rfl rfl ?_
    refine r_iload F dL_law_1107 rfl ?_
    refine r_iconst F dL_law_1109 ?_
    refine r_iadd F dL_law_1110 ?_
    refine r_sld F hX hbl hbA ex1 (by omega) (by omega) hL dL_law_1111 ?_
    refine V.cast (self2 (S := S) (by rw [setc_ne _ _ (by decide)]; exact a2)) ?_
    refine r_callV F hC dL_law_1112 lkv_L_135 rfl rfl rfl rfl rfl cd_X6_count (by decide) ⟨by omega, by omega⟩ (Nat.le_of_ble_eq_true rfl) ?_
    refine r_istore (lv1 := [_, _, _, _, _, _, _, _, _]) F dL_law_1115 (by decide) rfl rfl ?_
    refine r_aload_n (i := 2) F dL_law_1117 rfl rfl ?_
    refine r_callV F C_X6_thrown dL_law_1118 lkv_L_88 rfl rfl rfl rfl rfl cd_X6_thrown (by decide) ⟨by omega, by omega⟩ (Nat.le_of_ble_eq_true rfl) ?_
    rw [thr_rd]
    refine r_iload F dL_law_1121 rfl ?_
    refine r_sameq (tgt := 1128) F dL_law_1123 (by decide) ?_
    refine r_iload F dL_law_1128 rfl ?_
    refine r_if_ne (tgt := 1145) F dL_law_1130 (by decide) (ir_of (by omega) (by omega)) (fun _ => ?_) (fun h => absurd h h0)
    refine r_goto (tgt := 1495) F dL_law_1145 (by decide) ?_
    refine V.kill (lv1 := [_, _, _, _, _, _, _, _, _]) 5 rfl ?_
    refine V.kill (lv1 := [_, _, _, _, _, _, _, _, _]) 6 rfl ?_
    exact hk _ (LI.same hLI (by rw [setc_ne _ _ (by decide), thr_ne _ _ (by decide), setc_at, hS]) (by rw [setc_at, hS]) (by rw [setc_ne _ _ (by decide), thr_ne _ _ (by decide), setc_ne _ _ (by decide)]))
set_option maxHeartbeats 4000000 in
set_option maxRecDepth 100000 in
theorem L_pass {p : Program} {l : Launch} {e : Env} {s : State} {m : MethodId} {args : Array Value} {below : List Frame} {meth : Method} {c : Code} {ret : Option FieldType} {cy : Nat → ClassId} {D : va_G} {ad : Nat → Nat → Int → Nat} {A : Nat → Prop} {kc ks : Nat} {Q : State → Prop} {M : Mem} {b L k : Nat} {xs : Nat → Int32} (F : Fx p s m args meth c RL code 9 ret cy D ad A) (G : Gx l s A) (hX : va_X b L xs s s.heap) (hbl : b < s.heap.size) (hbA : ¬ A b) (hL : L ≤ 2048) (hj : 4 * (k : Int) + 4 ≤ L) (hR : kc + 1 ≤ room_1.cells ∧ ks + 6 ≤ room_1.slots) (hLI : LI k M) (hk : ∀ M' : Mem, LI (k + 1) M' → V p l e room_1 s m args below meth c 9 cy D ad A (kc + 1) (ks + 6) Q 1495 (LH b ad k) [] (M')) : V p l e room_1 s m args below meth c 9 cy D ad A kc ks Q 1148 (LH b ad k) [] (M) := by
  obtain ⟨S, hS⟩ : ∃ S, S = M 0 := ⟨_, rfl⟩
  obtain ⟨T, hT0⟩ : ∃ T, T = M 1 := ⟨_, rfl⟩
  obtain ⟨a2, hI, hD, hhr, hT, hcn⟩ := id hLI
  rw [← hS] at a2 hI hD hhr hcn
  rw [← hT0] at hT hcn
  have hh : 0 ≤ S 20 0 ∧ S 20 0 < 900000 := by omega
  have ic := hI.pc
  obtain ⟨x, ex1, hx9⟩ : ∃ x, xs (4 * (k : Int) + 1).toNat = i32 x ∧ ir x := ⟨_, (i32_of _).symm, ir_toInt _⟩
  have hH := H_pass (l := l) (cy := cy) (D := D) (ad := ad) (M := M) G.1 hI hh hx9
  by_cases h0 : cRng1 x 1 60 = 0
  · rw [h0, if_pos rfl] at hH
    have hC := C_X6_pass (l := l) (cy := cy) (D := D) (ad := ad) (M := outM (setc M 0 (goN S x.toNat)) (goS S x.toNat)) hI hh hx9
    rw [h0, if_pos rfl, if_pos rfl] at hC
    refine V.cast (self0 hS) ?_
    refine r_aload_n (i := 1) F dL_law_1148 rfl rfl ?_
    refine r_aload_n (i := 0) F dL_law_1149 rfl rfl ?_
    refine r_iload F dL_law_1150 rfl ?_
    refine r_iconst F dL_law_1152 ?_
    refine r_iadd F dL_law_1153 ?_
    refine r_sld F hX hbl hbA ex1 (by omega) (by omega) hL dL_law_1154 ?_
    refine r_aload_n (i := 3) F dL_law_1155 rfl rfl ?_
    refine r_callH F G hH dL_law_1156 lks_L_136 rfl rfl cw_L_pass (by decide) ⟨by omega, by omega⟩ (Nat.le_of_ble_eq_true rfl) ?_
    refine r_istore (lv1 := [_, _, _, _, _, _, _, _, _]) F dL_law_1159 (by decide) rfl rfl ?_
    refine r_aload_n (i := 2) F dL_law_1161 rfl rfl ?_
    refine r_aload_n (i := 0) F dL_law_1162 rfl rfl ?_
    refine r_iload F dL_law_1163 rfl ?_
    refine r_iconst F dL_law_1165 ?_
    refine r_iadd F dL_law_1166 ?_
    refine r_sld F hX hbl hbA ex1 (by omega) (by omega) hL dL_law_1167 ?_
    refine V.cast (self2 (S := S) (by rw [outM_ne _ _ (by decide), setc_ne _ _ (by decide)]; exact a2)) ?_
    refine r_callV F hC dL_law_1168 lkv_L_138 rfl rfl rfl rfl rfl cd_X6_pass (by decide) ⟨by omega, by omega⟩ (Nat.le_of_ble_eq_true rfl) ?_
    refine r_istore (lv1 := [_, _, _, _, _, _, _, _, _]) F dL_law_1171 (by decide) rfl rfl ?_
    refine r_aload_n (i := 2) F dL_law_1173 rfl rfl ?_
    refine r_callV F C_X6_thrown dL_law_1174 lkv_L_88 rfl rfl rfl rfl rfl cd_X6_thrown (by decide) ⟨by omega, by omega⟩ (Nat.le_of_ble_eq_true rfl) ?_
    rw [thr_rd]
    refine r_iload F dL_law_1177 rfl ?_
    refine r_sameq (tgt := 1184) F dL_law_1179 (by decide) ?_
    refine r_iload F dL_law_1184 rfl ?_
    refine r_if_ne (tgt := 1201) F dL_law_1186 (by decide) (ir_of (by decide) (by decide)) (fun h => absurd rfl h) (fun _ => ?_)
    refine r_aload_n (i := 3) F dL_law_1189 rfl rfl ?_
    refine r_iconst F dL_law_1190 ?_
    refine lo_35 F dL_law_1191 ?_
    rw [out_rd]
    refine r_iload F dL_law_1192 rfl ?_
    refine r_i2l F dL_law_1194 ?_
    refine r_lcmpE F dL_law_1195 ?_
    refine r_if_eq (tgt := 1201) F dL_law_1196 (by decide) (ir_of (by decide) (by decide)) (fun _ => ?_) (fun h => absurd rfl h)
    refine r_goto (tgt := 1495) F dL_law_1201 (by decide) ?_
    refine V.kill (lv1 := [_, _, _, _, _, _, _, _, _]) 5 rfl ?_
    refine V.kill (lv1 := [_, _, _, _, _, _, _, _, _]) 6 rfl ?_
    have hok : 1 ≤ x ∧ x ≤ 60 := by unfold cRng1 at h0; (repeat' split at h0) <;> omega
    refine hk _ (LI.step (S1 := goN S x.toNat) hLI (goN_inv hI _) (goN_dead hI hD _) ?_ ?_ (by rw [setc_ne _ _ (by decide), thr_ne _ _ (by decide), outM_ne _ _ (by decide), setc_at]) (by rw [setc_at]) (by rw [setc_ne _ _ (by decide), thr_ne _ _ (by decide), outM_ne _ _ (by decide), setc_ne _ _ (by decide)]))
    · rw [← hS]; exact by have := goN_hour S x.toNat; omega
    · rw [← hS]; exact ⟨by rw [(goN_cnt x.toNat).1]; exact Int.le_refl _, by rw [(goN_cnt x.toNat).2.1]; exact Int.le_refl _, by rw [(goN_cnt x.toNat).2.2]; exact Int.le_refl _⟩
  · rw [if_neg h0] at hH
    have hb : 0 ≤ cRng1 x 1 60 ∧ cRng1 x 1 60 ≤ 3 := by unfold cRng1; (repeat' split) <;> omega
    have hC := C_X6_pass (l := l) (cy := cy) (D := D) (ad := ad) (M := setc M 0 S) hI hh hx9
    rw [if_neg h0, if_neg h0] at hC
    refine V.cast (self0 hS) ?_
    refine r_aload_n (i := 1) F dL_law_1148 rfl rfl ?_
    refine r_aload_n (i := 0) F dL_law_1149 rfl rfl ?_
    refine r_iload F dL_law_1150 rfl ?_
    refine r_iconst F dL_law_1152 ?_
    refine r_iadd F dL_law_1153 ?_
    refine r_sld F hX hbl hbA ex1 (by omega) (by omega) hL dL_law_1154 ?_
    refine r_aload_n (i := 3) F dL_law_1155 rfl rfl ?_
    refine r_callH F G hH dL_law_1156 lks_L_136 rfl rfl cw_L_pass (by decide) ⟨by omega, by omega⟩ (Nat.le_of_ble_eq_true rfl) ?_
    refine r_istore (lv1 := [_, _, _, _, _, _, _, _, _]) F dL_law_1159 (by decide) rfl rfl ?_
    refine r_aload_n (i := 2) F dL_law_1161 rfl rfl ?_
    refine r_aload_n (i := 0) F dL_law_1162 rfl rfl ?_
    refine r_iload F dL_law_1163 rfl ?_
    refine r_iconst F dL_law_1165 ?_
    refine r_iadd F dL_law_1166 ?_
    refine r_sld F hX hbl hbA ex1 (by omega) (by omega) hL dL_law_1167 ?_
    refine V.cast (self2 (S := S) (by rw [setc_ne _ _ (by decide)]; exact a2)) ?_
    refine r_callV F hC dL_law_1168 lkv_L_138 rfl rfl rfl rfl rfl cd_X6_pass (by decide) ⟨by omega, by omega⟩ (Nat.le_of_ble_eq_true rfl) ?_
    refine r_istore (lv1 := [_, _, _, _, _, _, _, _, _]) F dL_law_1171 (by decide) rfl rfl ?_
    refine r_aload_n (i := 2) F dL_law_1173 rfl rfl ?_
    refine r_callV F C_X6_thrown dL_law_1174 lkv_L_88 rfl rfl rfl rfl rfl cd_X6_thrown (by decide) ⟨by omega, by omega⟩ (Nat.le_of_ble_eq_true rfl) ?_
    rw [thr_rd]
    refine r_iload F dL_law_1177 rfl ?_
    refine r_sameq (tgt := 1184) F dL_law_1179 (by decide) ?_
    refine r_iload F dL_law_1184 rfl ?_
    refine r_if_ne (tgt := 1201) F dL_law_1186 (by decide) (ir_of (by omega) (by omega)) (fun _ => ?_) (fun h => absurd h h0)
    refine r_goto (tgt := 1495) F dL_law_1201 (by decide) ?_
    refine V.kill (lv1 := [_, _, _, _, _, _, _, _, _]) 5 rfl ?_
    refine V.kill (lv1 := [_, _, _, _, _, _, _, _, _]) 6 rfl ?_
    exact hk _ (LI.same hLI (by rw [setc_ne _ _ (by decide), thr_ne _ _ (by decide), setc_at, hS]) (by rw [setc_at, hS]) (by rw [setc_ne _ _ (by decide), thr_ne _ _ (by decide), setc_ne _ _ (by decide)]))
set_option maxHeartbeats 4000000 in
set_option maxRecDepth 100000 in
theorem L_until {p : Program} {l : Launch} {e : Env} {s : State} {m : MethodId} {args : Array Value} {below : List Frame} {meth : Method} {c : Code} {ret : Option FieldType} {cy : Nat → ClassId} {D : va_G} {ad : Nat → Nat → Int → Nat} {A : Nat → Prop} {kc ks : Nat} {Q : State → Prop} {M : Mem} {b L k : Nat} {xs : Nat → Int32} (F : Fx p s m args meth c RL code 9 ret cy D ad A) (G : Gx l s A) (hX : va_X b L xs s s.heap) (hbl : b < s.heap.size) (hbA : ¬ A b) (hL : L ≤ 2048) (hj : 4 * (k : Int) + 4 ≤ L) (hR : kc + 1 ≤ room_1.cells ∧ ks + 6 ≤ room_1.slots) (hLI : LI k M) (hk : ∀ M' : Mem, LI (k + 1) M' → V p l e room_1 s m args below meth c 9 cy D ad A (kc + 1) (ks + 6) Q 1495 (LH b ad k) [] (M')) : V p l e room_1 s m args below meth c 9 cy D ad A kc ks Q 1204 (LH b ad k) [] (M) := by
  obtain ⟨S, hS⟩ : ∃ S, S = M 0 := ⟨_, rfl⟩
  obtain ⟨T, hT0⟩ : ∃ T, T = M 1 := ⟨_, rfl⟩
  obtain ⟨a2, hI, hD, hhr, hT, hcn⟩ := id hLI
  rw [← hS] at a2 hI hD hhr hcn
  rw [← hT0] at hT hcn
  have hh : 0 ≤ S 20 0 ∧ S 20 0 < 900000 := by omega
  have ic := hI.pc
  obtain ⟨x, ex1, hx9⟩ : ∃ x, xs (4 * (k : Int) + 1).toNat = i32 x ∧ ir x := ⟨_, (i32_of _).symm, ir_toInt _⟩
  have hH := H_until (l := l) (cy := cy) (D := D) (ad := ad) (M := M) G.1 hI hD hT hcn hh hx9
  by_cases h0 : cRng1 x 0 (S 20 3 - 1) = 0
  · rw [h0, if_pos rfl] at hH
    have hC := C_X6_until (l := l) (cy := cy) (D := D) (ad := ad) (M := outM (setc (setc M 0 S) 1 (goN S (unt S x 120 0))) (untR S x)) hI hh hx9
    rw [if_pos h0, if_pos h0] at hC
    refine V.cast (self10 hS hT0) ?_
    refine r_aload_n (i := 1) F dL_law_1204 rfl rfl ?_
    refine r_aload_n (i := 0) F dL_law_1205 rfl rfl ?_
    refine r_iload F dL_law_1206 rfl ?_
    refine r_iconst F dL_law_1208 ?_
    refine r_iadd F dL_law_1209 ?_
    refine r_sld F hX hbl hbA ex1 (by omega) (by omega) hL dL_law_1210 ?_
    refine r_aload_n (i := 3) F dL_law_1211 rfl rfl ?_
    refine r_callH F G hH dL_law_1212 lks_L_139 rfl rfl cw_L_until (by decide) ⟨by omega, by omega⟩ (Nat.le_of_ble_eq_true rfl) ?_
    refine r_istore (lv1 := [_, _, _, _, _, _, _, _, _]) F dL_law_1215 (by decide) rfl rfl ?_
    refine r_aload_n (i := 2) F dL_law_1217 rfl rfl ?_
    refine r_aload_n (i := 0) F dL_law_1218 rfl rfl ?_
    refine r_iload F dL_law_1219 rfl ?_
    refine r_iconst F dL_law_1221 ?_
    refine r_iadd F dL_law_1222 ?_
    refine r_sld F hX hbl hbA ex1 (by omega) (by omega) hL dL_law_1223 ?_
    refine V.cast (self2 (S := S) (by rw [outM_ne _ _ (by decide), setc_ne _ _ (by decide), setc_ne _ _ (by decide)]; exact a2)) ?_
    refine r_callV F hC dL_law_1224 lkv_L_141 rfl rfl rfl rfl rfl cd_X6_until (by decide) ⟨by omega, by omega⟩ (Nat.le_of_ble_eq_true rfl) ?_
    refine r_istore (lv1 := [_, _, _, _, _, _, _, _, _]) F dL_law_1227 (by decide) rfl rfl ?_
    refine r_aload_n (i := 2) F dL_law_1229 rfl rfl ?_
    refine r_callV F C_X6_thrown dL_law_1230 lkv_L_88 rfl rfl rfl rfl rfl cd_X6_thrown (by decide) ⟨by omega, by omega⟩ (Nat.le_of_ble_eq_true rfl) ?_
    rw [thr_rd3]
    refine r_iload F dL_law_1233 rfl ?_
    refine r_sameq (tgt := 1240) F dL_law_1235 (by decide) ?_
    refine r_iload F dL_law_1240 rfl ?_
    refine r_if_ne (tgt := 1257) F dL_law_1242 (by decide) (ir_of (by decide) (by decide)) (fun h => absurd rfl h) (fun _ => ?_)
    refine r_aload_n (i := 3) F dL_law_1245 rfl rfl ?_
    refine r_iconst F dL_law_1246 ?_
    refine lo_35 F dL_law_1247 ?_
    rw [out_rd3]
    refine r_iload F dL_law_1248 rfl ?_
    refine r_i2l F dL_law_1250 ?_
    refine r_lcmpE F dL_law_1251 ?_
    refine r_if_eq (tgt := 1257) F dL_law_1252 (by decide) (ir_of (by decide) (by decide)) (fun _ => ?_) (fun h => absurd rfl h)
    refine r_goto (tgt := 1495) F dL_law_1257 (by decide) ?_
    refine V.kill (lv1 := [_, _, _, _, _, _, _, _, _]) 5 rfl ?_
    refine V.kill (lv1 := [_, _, _, _, _, _, _, _, _]) 6 rfl ?_
    refine hk _ (LI.trial (T1 := goN S (unt S x 120 0)) hLI (goN_dead hI hD _) ?_ (by rw [setc_ne _ _ (by decide), setc_ne _ _ (by decide), thr_ne _ _ (by decide), outM_ne _ _ (by decide), setc_ne _ _ (by decide), setc_at, hS]) (by rw [setc_ne _ _ (by decide), setc_at, hS]) (by rw [setc_ne _ _ (by decide), setc_ne _ _ (by decide), thr_ne _ _ (by decide), outM_ne _ _ (by decide), setc_at]))
    rw [← hS]
    exact ⟨by rw [(goN_cnt _).1]; exact Int.le_refl _, by rw [(goN_cnt _).2.1]; exact Int.le_refl _, by rw [(goN_cnt _).2.2]; exact Int.le_refl _⟩
  · rw [if_neg h0] at hH
    have hb : 0 ≤ cRng1 x 0 (S 20 3 - 1) ∧ cRng1 x 0 (S 20 3 - 1) ≤ 3 := by unfold cRng1; (repeat' split) <;> omega
    have hC := C_X6_until (l := l) (cy := cy) (D := D) (ad := ad) (M := setc (setc M 1 T) 0 S) hI hh hx9
    rw [if_neg h0, if_neg h0] at hC
    have hc1 : cRng1 x 0 (S 20 3 - 1) = 1 := by unfold cRng1 at h0 ⊢; (repeat' split) <;> first | rfl | (exfalso; apply h0; rw [if_neg (by assumption)])
    rw [hc1] at hH
    refine V.cast (self10 hS hT0) ?_
    refine r_aload_n (i := 1) F dL_law_1204 rfl rfl ?_
    refine r_aload_n (i := 0) F dL_law_1205 rfl rfl ?_
    refine r_iload F dL_law_1206 rfl ?_
    refine r_iconst F dL_law_1208 ?_
    refine r_iadd F dL_law_1209 ?_
    refine r_sld F hX hbl hbA ex1 (by omega) (by omega) hL dL_law_1210 ?_
    refine r_aload_n (i := 3) F dL_law_1211 rfl rfl ?_
    refine r_callH F G hH dL_law_1212 lks_L_139 rfl rfl cw_L_until (by decide) ⟨by omega, by omega⟩ (Nat.le_of_ble_eq_true rfl) ?_
    refine r_istore (lv1 := [_, _, _, _, _, _, _, _, _]) F dL_law_1215 (by decide) rfl rfl ?_
    refine r_aload_n (i := 2) F dL_law_1217 rfl rfl ?_
    refine r_aload_n (i := 0) F dL_law_1218 rfl rfl ?_
    refine r_iload F dL_law_1219 rfl ?_
    refine r_iconst F dL_law_1221 ?_
    refine r_iadd F dL_law_1222 ?_
    refine r_sld F hX hbl hbA ex1 (by omega) (by omega) hL dL_law_1223 ?_
    refine V.cast (self2 (S := S) (by rw [setc_ne _ _ (by decide), setc_ne _ _ (by decide)]; exact a2)) ?_
    refine r_callV F hC dL_law_1224 lkv_L_141 rfl rfl rfl rfl rfl cd_X6_until (by decide) ⟨by omega, by omega⟩ (Nat.le_of_ble_eq_true rfl) ?_
    refine r_istore (lv1 := [_, _, _, _, _, _, _, _, _]) F dL_law_1227 (by decide) rfl rfl ?_
    refine r_aload_n (i := 2) F dL_law_1229 rfl rfl ?_
    refine r_callV F C_X6_thrown dL_law_1230 lkv_L_88 rfl rfl rfl rfl rfl cd_X6_thrown (by decide) ⟨by omega, by omega⟩ (Nat.le_of_ble_eq_true rfl) ?_
    rw [thr_rd]
    refine r_iload F dL_law_1233 rfl ?_
    refine r_sameq (tgt := 1240) F dL_law_1235 (by decide) ?_
    refine r_iload F dL_law_1240 rfl ?_
    refine r_if_ne (tgt := 1257) F dL_law_1242 (by decide) (ir_of (by decide) (by decide)) (fun _ => ?_) (fun h => absurd h (by decide))
    refine r_goto (tgt := 1495) F dL_law_1257 (by decide) ?_
    refine V.kill (lv1 := [_, _, _, _, _, _, _, _, _]) 5 rfl ?_
    refine V.kill (lv1 := [_, _, _, _, _, _, _, _, _]) 6 rfl ?_
    exact hk _ (LI.same hLI (by rw [setc_ne _ _ (by decide), thr_ne _ _ (by decide), setc_at, hS]) (by rw [setc_at, hS]) (by rw [setc_ne _ _ (by decide), thr_ne _ _ (by decide), setc_ne _ _ (by decide), setc_at, hT0]))
set_option maxHeartbeats 4000000 in
set_option maxRecDepth 100000 in
theorem L_foresee {p : Program} {l : Launch} {e : Env} {s : State} {m : MethodId} {args : Array Value} {below : List Frame} {meth : Method} {c : Code} {ret : Option FieldType} {cy : Nat → ClassId} {D : va_G} {ad : Nat → Nat → Int → Nat} {A : Nat → Prop} {kc ks : Nat} {Q : State → Prop} {M : Mem} {b L k : Nat} {xs : Nat → Int32} (F : Fx p s m args meth c RL code 9 ret cy D ad A) (G : Gx l s A) (hX : va_X b L xs s s.heap) (hbl : b < s.heap.size) (hbA : ¬ A b) (hL : L ≤ 2048) (hj : 4 * (k : Int) + 4 ≤ L) (hR : kc + 1 ≤ room_1.cells ∧ ks + 6 ≤ room_1.slots) (hLI : LI k M) (hk : ∀ M' : Mem, LI (k + 1) M' → V p l e room_1 s m args below meth c 9 cy D ad A (kc + 1) (ks + 6) Q 1495 (LH b ad k) [] (M')) : V p l e room_1 s m args below meth c 9 cy D ad A kc ks Q 1260 (LH b ad k) [] (M) := by
  obtain ⟨S, hS⟩ : ∃ S, S = M 0 := ⟨_, rfl⟩
  obtain ⟨T, hT0⟩ : ∃ T, T = M 1 := ⟨_, rfl⟩
  obtain ⟨a2, hI, hD, hhr, hT, hcn⟩ := id hLI
  rw [← hS] at a2 hI hD hhr hcn
  rw [← hT0] at hT hcn
  have hh : 0 ≤ S 20 0 ∧ S 20 0 < 900000 := by omega
  have ic := hI.pc
  obtain ⟨x, ex1, hx9⟩ : ∃ x, xs (4 * (k : Int) + 1).toNat = i32 x ∧ ir x := ⟨_, (i32_of _).symm, ir_toInt _⟩
  obtain ⟨w, ex2, hw9⟩ : ∃ x, xs (4 * (k : Int) + 2).toNat = i32 x ∧ ir x := ⟨_, (i32_of _).symm, ir_toInt _⟩
  have hH := H_foresee (l := l) (cy := cy) (D := D) (ad := ad) (M := M) G.1 hI hD hT hcn hh hx9 hw9
  by_cases h0 : cForesee x w = 0
  · rw [h0, if_pos rfl] at hH
    have hC := C_X6_foresee (l := l) (cy := cy) (D := D) (ad := ad) (M := outM (setc (setc M 0 S) 1 (goN S x.toNat)) (counted (goN S x.toNat) w)) hI hh hx9 hw9
    rw [if_pos h0, if_pos h0] at hC
    refine V.cast (self10 hS hT0) ?_
    refine r_aload_n (i := 1) F dL_law_1260 rfl rfl ?_
    refine r_aload_n (i := 0) F dL_law_1261 rfl rfl ?_
    refine r_iload F dL_law_1262 rfl ?_
    refine r_iconst F dL_law_1264 ?_
    refine r_iadd F dL_law_1265 ?_
    refine r_sld F hX hbl hbA ex1 (by omega) (by omega) hL dL_law_1266 ?_
    refine r_aload_n (i := 0) F dL_law_1267 rfl rfl ?_
    refine r_iload F dL_law_1268 rfl ?_
    refine r_iconst F dL_law_1270 ?_
    refine r_iadd F dL_law_1271 ?_
    refine r_sld F hX hbl hbA ex2 (by omega) (by omega) hL dL_law_1272 ?_
    refine r_aload_n (i := 3) F dL_law_1273 rfl rfl ?_
    refine r_callH F G hH dL_law_1274 lks_L_142 rfl rfl cw_L_foresee (by decide) ⟨by omega, by omega⟩ (Nat.le_of_ble_eq_true rfl) ?_
    refine r_istore (lv1 := [_, _, _, _, _, _, _, _, _]) F dL_law_1277 (by decide) rfl rfl ?_
    refine r_aload_n (i := 2) F dL_law_1279 rfl rfl ?_
    refine r_aload_n (i := 0) F dL_law_1280 rfl rfl ?_
    refine r_iload F dL_law_1281 rfl ?_
    refine r_iconst F dL_law_1283 ?_
    refine r_iadd F dL_law_1284 ?_
    refine r_sld F hX hbl hbA ex1 (by omega) (by omega) hL dL_law_1285 ?_
    refine r_aload_n (i := 0) F dL_law_1286 rfl rfl ?_
    refine r_iload F dL_law_1287 rfl ?_
    refine r_iconst F dL_law_1289 ?_
    refine r_iadd F dL_law_1290 ?_
    refine r_sld F hX hbl hbA ex2 (by omega) (by omega) hL dL_law_1291 ?_
    refine V.cast (self2 (S := S) (by rw [outM_ne _ _ (by decide), setc_ne _ _ (by decide), setc_ne _ _ (by decide)]; exact a2)) ?_
    refine r_callV F hC dL_law_1292 lkv_L_144 rfl rfl rfl rfl rfl cd_X6_foresee (by decide) ⟨by omega, by omega⟩ (Nat.le_of_ble_eq_true rfl) ?_
    refine r_istore (lv1 := [_, _, _, _, _, _, _, _, _]) F dL_law_1295 (by decide) rfl rfl ?_
    refine r_aload_n (i := 2) F dL_law_1297 rfl rfl ?_
    refine r_callV F C_X6_thrown dL_law_1298 lkv_L_88 rfl rfl rfl rfl rfl cd_X6_thrown (by decide) ⟨by omega, by omega⟩ (Nat.le_of_ble_eq_true rfl) ?_
    rw [thr_rd3]
    refine r_iload F dL_law_1301 rfl ?_
    refine r_sameq (tgt := 1308) F dL_law_1303 (by decide) ?_
    refine r_iload F dL_law_1308 rfl ?_
    refine r_if_ne (tgt := 1325) F dL_law_1310 (by decide) (ir_of (by decide) (by decide)) (fun h => absurd rfl h) (fun _ => ?_)
    refine r_aload_n (i := 3) F dL_law_1313 rfl rfl ?_
    refine r_iconst F dL_law_1314 ?_
    refine lo_35 F dL_law_1315 ?_
    rw [out_rd3]
    refine r_iload F dL_law_1316 rfl ?_
    refine r_i2l F dL_law_1318 ?_
    refine r_lcmpE F dL_law_1319 ?_
    refine r_if_eq (tgt := 1325) F dL_law_1320 (by decide) (ir_of (by decide) (by decide)) (fun _ => ?_) (fun h => absurd rfl h)
    refine r_goto (tgt := 1495) F dL_law_1325 (by decide) ?_
    refine V.kill (lv1 := [_, _, _, _, _, _, _, _, _]) 5 rfl ?_
    refine V.kill (lv1 := [_, _, _, _, _, _, _, _, _]) 6 rfl ?_
    refine hk _ (LI.trial (T1 := goN S x.toNat) hLI (goN_dead hI hD _) ?_ (by rw [setc_ne _ _ (by decide), setc_ne _ _ (by decide), thr_ne _ _ (by decide), outM_ne _ _ (by decide), setc_ne _ _ (by decide), setc_at, hS]) (by rw [setc_ne _ _ (by decide), setc_at, hS]) (by rw [setc_ne _ _ (by decide), setc_ne _ _ (by decide), thr_ne _ _ (by decide), outM_ne _ _ (by decide), setc_at]))
    rw [← hS]
    exact ⟨by rw [(goN_cnt _).1]; exact Int.le_refl _, by rw [(goN_cnt _).2.1]; exact Int.le_refl _, by rw [(goN_cnt _).2.2]; exact Int.le_refl _⟩
  · rw [if_neg h0] at hH
    have hb : 0 ≤ cForesee x w ∧ cForesee x w ≤ 3 := by unfold cForesee; (repeat' split) <;> omega
    have hC := C_X6_foresee (l := l) (cy := cy) (D := D) (ad := ad) (M := setc (setc M 1 T) 0 S) hI hh hx9 hw9
    rw [if_neg h0, if_neg h0] at hC
    refine V.cast (self10 hS hT0) ?_
    refine r_aload_n (i := 1) F dL_law_1260 rfl rfl ?_
    refine r_aload_n (i := 0) F dL_law_1261 rfl rfl ?_
    refine r_iload F dL_law_1262 rfl ?_
    refine r_iconst F dL_law_1264 ?_
    refine r_iadd F dL_law_1265 ?_
    refine r_sld F hX hbl hbA ex1 (by omega) (by omega) hL dL_law_1266 ?_
    refine r_aload_n (i := 0) F dL_law_1267 rfl rfl ?_
    refine r_iload F dL_law_1268 rfl ?_
    refine r_iconst F dL_law_1270 ?_
    refine r_iadd F dL_law_1271 ?_
    refine r_sld F hX hbl hbA ex2 (by omega) (by omega) hL dL_law_1272 ?_
    refine r_aload_n (i := 3) F dL_law_1273 rfl rfl ?_
    refine r_callH F G hH dL_law_1274 lks_L_142 rfl rfl cw_L_foresee (by decide) ⟨by omega, by omega⟩ (Nat.le_of_ble_eq_true rfl) ?_
    refine r_istore (lv1 := [_, _, _, _, _, _, _, _, _]) F dL_law_1277 (by decide) rfl rfl ?_
    refine r_aload_n (i := 2) F dL_law_1279 rfl rfl ?_
    refine r_aload_n (i := 0) F dL_law_1280 rfl rfl ?_
    refine r_iload F dL_law_1281 rfl ?_
    refine r_iconst F dL_law_1283 ?_
    refine r_iadd F dL_law_1284 ?_
    refine r_sld F hX hbl hbA ex1 (by omega) (by omega) hL dL_law_1285 ?_
    refine r_aload_n (i := 0) F dL_law_1286 rfl rfl ?_
    refine r_iload F dL_law_1287 rfl ?_
    refine r_iconst F dL_law_1289 ?_
    refine r_iadd F dL_law_1290 ?_
    refine r_sld F hX hbl hbA ex2 (by omega) (by omega) hL dL_law_1291 ?_
    refine V.cast (self2 (S := S) (by rw [setc_ne _ _ (by decide), setc_ne _ _ (by decide)]; exact a2)) ?_
    refine r_callV F hC dL_law_1292 lkv_L_144 rfl rfl rfl rfl rfl cd_X6_foresee (by decide) ⟨by omega, by omega⟩ (Nat.le_of_ble_eq_true rfl) ?_
    refine r_istore (lv1 := [_, _, _, _, _, _, _, _, _]) F dL_law_1295 (by decide) rfl rfl ?_
    refine r_aload_n (i := 2) F dL_law_1297 rfl rfl ?_
    refine r_callV F C_X6_thrown dL_law_1298 lkv_L_88 rfl rfl rfl rfl rfl cd_X6_thrown (by decide) ⟨by omega, by omega⟩ (Nat.le_of_ble_eq_true rfl) ?_
    rw [thr_rd]
    refine r_iload F dL_law_1301 rfl ?_
    refine r_sameq (tgt := 1308) F dL_law_1303 (by decide) ?_
    refine r_iload F dL_law_1308 rfl ?_
    refine r_if_ne (tgt := 1325) F dL_law_1310 (by decide) (ir_of (by omega) (by omega)) (fun _ => ?_) (fun h => absurd h h0)
    refine r_goto (tgt := 1495) F dL_law_1325 (by decide) ?_
    refine V.kill (lv1 := [_, _, _, _, _, _, _, _, _]) 5 rfl ?_
    refine V.kill (lv1 := [_, _, _, _, _, _, _, _, _]) 6 rfl ?_
    exact hk _ (LI.same hLI (by rw [setc_ne _ _ (by decide), thr_ne _ _ (by decide), setc_at, hS]) (by rw [setc_at, hS]) (by rw [setc_ne _ _ (by decide), thr_ne _ _ (by decide), setc_ne _ _ (by decide), setc_at, hT0]))
set_option maxHeartbeats 4000000 in
set_option maxRecDepth 100000 in
theorem L_advise {p : Program} {l : Launch} {e : Env} {s : State} {m : MethodId} {args : Array Value} {below : List Frame} {meth : Method} {c : Code} {ret : Option FieldType} {cy : Nat → ClassId} {D : va_G} {ad : Nat → Nat → Int → Nat} {A : Nat → Prop} {kc ks : Nat} {Q : State → Prop} {M : Mem} {b L k : Nat} {xs : Nat → Int32} (F : Fx p s m args meth c RL code 9 ret cy D ad A) (G : Gx l s A) (hX : va_X b L xs s s.heap) (hbl : b < s.heap.size) (hbA : ¬ A b) (hL : L ≤ 2048) (hj : 4 * (k : Int) + 4 ≤ L) (hR : kc + 1 ≤ room_1.cells ∧ ks + 6 ≤ room_1.slots) (hLI : LI k M) (hk : ∀ M' : Mem, LI (k + 1) M' → V p l e room_1 s m args below meth c 9 cy D ad A (kc + 1) (ks + 6) Q 1495 (LH b ad k) [] (M')) : V p l e room_1 s m args below meth c 9 cy D ad A kc ks Q 1328 (LH b ad k) [] (M) := by
  obtain ⟨S, hS⟩ : ∃ S, S = M 0 := ⟨_, rfl⟩
  obtain ⟨T, hT0⟩ : ∃ T, T = M 1 := ⟨_, rfl⟩
  obtain ⟨a2, hI, hD, hhr, hT, hcn⟩ := id hLI
  rw [← hS] at a2 hI hD hhr hcn
  rw [← hT0] at hT hcn
  have hh : 0 ≤ S 20 0 ∧ S 20 0 < 900000 := by omega
  have ic := hI.pc
  obtain ⟨x, ex1, hx9⟩ : ∃ x, xs (4 * (k : Int) + 1).toNat = i32 x ∧ ir x := ⟨_, (i32_of _).symm, ir_toInt _⟩
  have hH := H_advise (l := l) (cy := cy) (D := D) (ad := ad) (M := M) G.1 hI hD hT hcn hh hx9
  by_cases h0 : cAdvise S x = 0
  · rw [h0, if_pos rfl] at hH
    have hC := C_X6_advise (l := l) (cy := cy) (D := D) (ad := ad) (M := outM (setc (setc M 0 S) 1 (goN (sendS S x 15) 40)) ((adv S x 16).1)) hI hh hx9
    rw [if_pos h0, if_pos h0] at hC
    refine V.cast (self10 hS hT0) ?_
    refine r_aload_n (i := 1) F dL_law_1328 rfl rfl ?_
    refine r_aload_n (i := 0) F dL_law_1329 rfl rfl ?_
    refine r_iload F dL_law_1330 rfl ?_
    refine r_iconst F dL_law_1332 ?_
    refine r_iadd F dL_law_1333 ?_
    refine r_sld F hX hbl hbA ex1 (by omega) (by omega) hL dL_law_1334 ?_
    refine r_aload_n (i := 3) F dL_law_1335 rfl rfl ?_
    refine r_callH F G hH dL_law_1336 lks_L_145 rfl rfl cw_L_advise (by decide) ⟨by omega, by omega⟩ (Nat.le_of_ble_eq_true rfl) ?_
    refine r_istore (lv1 := [_, _, _, _, _, _, _, _, _]) F dL_law_1339 (by decide) rfl rfl ?_
    refine r_aload_n (i := 2) F dL_law_1341 rfl rfl ?_
    refine r_aload_n (i := 0) F dL_law_1342 rfl rfl ?_
    refine r_iload F dL_law_1343 rfl ?_
    refine r_iconst F dL_law_1345 ?_
    refine r_iadd F dL_law_1346 ?_
    refine r_sld F hX hbl hbA ex1 (by omega) (by omega) hL dL_law_1347 ?_
    refine V.cast (self2 (S := S) (by rw [outM_ne _ _ (by decide), setc_ne _ _ (by decide), setc_ne _ _ (by decide)]; exact a2)) ?_
    refine r_callV F hC dL_law_1348 lkv_L_147 rfl rfl rfl rfl rfl cd_X6_advise (by decide) ⟨by omega, by omega⟩ (Nat.le_of_ble_eq_true rfl) ?_
    refine r_istore (lv1 := [_, _, _, _, _, _, _, _, _]) F dL_law_1351 (by decide) rfl rfl ?_
    refine r_aload_n (i := 2) F dL_law_1353 rfl rfl ?_
    refine r_callV F C_X6_thrown dL_law_1354 lkv_L_88 rfl rfl rfl rfl rfl cd_X6_thrown (by decide) ⟨by omega, by omega⟩ (Nat.le_of_ble_eq_true rfl) ?_
    rw [thr_rd3]
    refine r_iload F dL_law_1357 rfl ?_
    refine r_sameq (tgt := 1364) F dL_law_1359 (by decide) ?_
    refine r_iload F dL_law_1364 rfl ?_
    refine r_if_ne (tgt := 1381) F dL_law_1366 (by decide) (ir_of (by decide) (by decide)) (fun h => absurd rfl h) (fun _ => ?_)
    refine r_aload_n (i := 3) F dL_law_1369 rfl rfl ?_
    refine r_iconst F dL_law_1370 ?_
    refine lo_35 F dL_law_1371 ?_
    rw [out_rd3]
    refine r_iload F dL_law_1372 rfl ?_
    refine r_i2l F dL_law_1374 ?_
    refine r_lcmpE F dL_law_1375 ?_
    refine r_if_eq (tgt := 1381) F dL_law_1376 (by decide) (ir_of (by decide) (by decide)) (fun _ => ?_) (fun h => absurd rfl h)
    refine r_goto (tgt := 1495) F dL_law_1381 (by decide) ?_
    refine V.kill (lv1 := [_, _, _, _, _, _, _, _, _]) 5 rfl ?_
    refine V.kill (lv1 := [_, _, _, _, _, _, _, _, _]) 6 rfl ?_
    have hok : (0 ≤ x ∧ x ≤ S 20 3 - 1) ∧ S 18 x = 0 := by unfold cAdvise at h0; (repeat' split at h0) <;> omega
    refine hk _ (LI.trial (T1 := goN (sendS S x 15) 40) hLI (goN_dead (sendS_inv hI (by omega)) (sendS_dead hD (by omega)) _) ?_ (by rw [setc_ne _ _ (by decide), setc_ne _ _ (by decide), thr_ne _ _ (by decide), outM_ne _ _ (by decide), setc_ne _ _ (by decide), setc_at, hS]) (by rw [setc_ne _ _ (by decide), setc_at, hS]) (by rw [setc_ne _ _ (by decide), setc_ne _ _ (by decide), thr_ne _ _ (by decide), outM_ne _ _ (by decide), setc_at]))
    rw [← hS]
    exact ⟨by rw [(goN_cnt _).1]; exact Int.le_refl _, by rw [(goN_cnt _).2.1]; exact Int.le_refl _, by rw [(goN_cnt _).2.2]; exact Int.le_refl _⟩
  · rw [if_neg h0] at hH
    have hb : 0 ≤ cAdvise S x ∧ cAdvise S x ≤ 3 := by unfold cAdvise; (repeat' split) <;> omega
    have hC := C_X6_advise (l := l) (cy := cy) (D := D) (ad := ad) (M := setc (setc M 1 T) 0 S) hI hh hx9
    rw [if_neg h0, if_neg h0] at hC
    refine V.cast (self10 hS hT0) ?_
    refine r_aload_n (i := 1) F dL_law_1328 rfl rfl ?_
    refine r_aload_n (i := 0) F dL_law_1329 rfl rfl ?_
    refine r_iload F dL_law_1330 rfl ?_
    refine r_iconst F dL_law_1332 ?_
    refine r_iadd F dL_law_1333 ?_
    refine r_sld F hX hbl hbA ex1 (by omega) (by omega) hL dL_law_1334 ?_
    refine r_aload_n (i := 3) F dL_law_1335 rfl rfl ?_
    refine r_callH F G hH dL_law_1336 lks_L_145 rfl rfl cw_L_advise (by decide) ⟨by omega, by omega⟩ (Nat.le_of_ble_eq_true rfl) ?_
    refine r_istore (lv1 := [_, _, _, _, _, _, _, _, _]) F dL_law_1339 (by decide) rfl rfl ?_
    refine r_aload_n (i := 2) F dL_law_1341 rfl rfl ?_
    refine r_aload_n (i := 0) F dL_law_1342 rfl rfl ?_
    refine r_iload F dL_law_1343 rfl ?_
    refine r_iconst F dL_law_1345 ?_
    refine r_iadd F dL_law_1346 ?_
    refine r_sld F hX hbl hbA ex1 (by omega) (by omega) hL dL_law_1347 ?_
    refine V.cast (self2 (S := S) (by rw [setc_ne _ _ (by decide), setc_ne _ _ (by decide)]; exact a2)) ?_
    refine r_callV F hC dL_law_1348 lkv_L_147 rfl rfl rfl rfl rfl cd_X6_advise (by decide) ⟨by omega, by omega⟩ (Nat.le_of_ble_eq_true rfl) ?_
    refine r_istore (lv1 := [_, _, _, _, _, _, _, _, _]) F dL_law_1351 (by decide) rfl rfl ?_
    refine r_aload_n (i := 2) F dL_law_1353 rfl rfl ?_
    refine r_callV F C_X6_thrown dL_law_1354 lkv_L_88 rfl rfl rfl rfl rfl cd_X6_thrown (by decide) ⟨by omega, by omega⟩ (Nat.le_of_ble_eq_true rfl) ?_
    rw [thr_rd]
    refine r_iload F dL_law_1357 rfl ?_
    refine r_sameq (tgt := 1364) F dL_law_1359 (by decide) ?_
    refine r_iload F dL_law_1364 rfl ?_
    refine r_if_ne (tgt := 1381) F dL_law_1366 (by decide) (ir_of (by omega) (by omega)) (fun _ => ?_) (fun h => absurd h h0)
    refine r_goto (tgt := 1495) F dL_law_1381 (by decide) ?_
    refine V.kill (lv1 := [_, _, _, _, _, _, _, _, _]) 5 rfl ?_
    refine V.kill (lv1 := [_, _, _, _, _, _, _, _, _]) 6 rfl ?_
    exact hk _ (LI.same hLI (by rw [setc_ne _ _ (by decide), thr_ne _ _ (by decide), setc_at, hS]) (by rw [setc_at, hS]) (by rw [setc_ne _ _ (by decide), thr_ne _ _ (by decide), setc_ne _ _ (by decide), setc_at, hT0]))
set_option maxHeartbeats 4000000 in
set_option maxRecDepth 100000 in
theorem L_quiet {p : Program} {l : Launch} {e : Env} {s : State} {m : MethodId} {args : Array Value} {below : List Frame} {meth : Method} {c : Code} {ret : Option FieldType} {cy : Nat → ClassId} {D : va_G} {ad : Nat → Nat → Int → Nat} {A : Nat → Prop} {kc ks : Nat} {Q : State → Prop} {M : Mem} {b L k : Nat} {xs : Nat → Int32} (F : Fx p s m args meth c RL code 9 ret cy D ad A) (G : Gx l s A) (hX : va_X b L xs s s.heap) (hbl : b < s.heap.size) (hbA : ¬ A b) (hL : L ≤ 2048) (hj : 4 * (k : Int) + 4 ≤ L) (hR : kc + 1 ≤ room_1.cells ∧ ks + 6 ≤ room_1.slots) (hLI : LI k M) (hk : ∀ M' : Mem, LI (k + 1) M' → V p l e room_1 s m args below meth c 9 cy D ad A (kc + 1) (ks + 6) Q 1495 (LH b ad k) [] (M')) : V p l e room_1 s m args below meth c 9 cy D ad A kc ks Q 1384 (LH b ad k) [] (M) := by
  obtain ⟨S, hS⟩ : ∃ S, S = M 0 := ⟨_, rfl⟩
  obtain ⟨T, hT0⟩ : ∃ T, T = M 1 := ⟨_, rfl⟩
  obtain ⟨a2, hI, hD, hhr, hT, hcn⟩ := id hLI
  rw [← hS] at a2 hI hD hhr hcn
  rw [← hT0] at hT hcn
  have hh : 0 ≤ S 20 0 ∧ S 20 0 < 900000 := by omega
  have ic := hI.pc
  obtain ⟨x, ex1, hx9⟩ : ∃ x, xs (4 * (k : Int) + 1).toNat = i32 x ∧ ir x := ⟨_, (i32_of _).symm, ir_toInt _⟩
  have hH := H_quiet (l := l) (cy := cy) (D := D) (ad := ad) (M := M) G.1 hI hD hT hcn hh hx9
  by_cases h0 : cRng1 x 0 15 = 0
  · rw [h0, if_pos rfl] at hH
    have hC := C_X6_quiet (l := l) (cy := cy) (D := D) (ad := ad) (M := outM (setc (setc M 0 S) 1 (goN S (qui S x 40 0))) (quiR S x)) hI hh hx9
    rw [if_pos h0, if_pos h0] at hC
    refine V.cast (self10 hS hT0) ?_
    refine r_aload_n (i := 1) F dL_law_1384 rfl rfl ?_
    refine r_aload_n (i := 0) F dL_law_1385 rfl rfl ?_
    refine r_iload F dL_law_1386 rfl ?_
    refine r_iconst F dL_law_1388 ?_
    refine r_iadd F dL_law_1389 ?_
    refine r_sld F hX hbl hbA ex1 (by omega) (by omega) hL dL_law_1390 ?_
    refine r_aload_n (i := 3) F dL_law_1391 rfl rfl ?_
    refine r_callH F G hH dL_law_1392 lks_L_148 rfl rfl cw_L_quiet (by decide) ⟨by omega, by omega⟩ (Nat.le_of_ble_eq_true rfl) ?_
    refine r_istore (lv1 := [_, _, _, _, _, _, _, _, _]) F dL_law_1395 (by decide) rfl rfl ?_
    refine r_aload_n (i := 2) F dL_law_1397 rfl rfl ?_
    refine r_aload_n (i := 0) F dL_law_1398 rfl rfl ?_
    refine r_iload F dL_law_1399 rfl ?_
    refine r_iconst F dL_law_1401 ?_
    refine r_iadd F dL_law_1402 ?_
    refine r_sld F hX hbl hbA ex1 (by omega) (by omega) hL dL_law_1403 ?_
    refine V.cast (self2 (S := S) (by rw [outM_ne _ _ (by decide), setc_ne _ _ (by decide), setc_ne _ _ (by decide)]; exact a2)) ?_
    refine r_callV F hC dL_law_1404 lkv_L_150 rfl rfl rfl rfl rfl cd_X6_quiet (by decide) ⟨by omega, by omega⟩ (Nat.le_of_ble_eq_true rfl) ?_
    refine r_istore (lv1 := [_, _, _, _, _, _, _, _, _]) F dL_law_1407 (by decide) rfl rfl ?_
    refine r_aload_n (i := 2) F dL_law_1409 rfl rfl ?_
    refine r_callV F C_X6_thrown dL_law_1410 lkv_L_88 rfl rfl rfl rfl rfl cd_X6_thrown (by decide) ⟨by omega, by omega⟩ (Nat.le_of_ble_eq_true rfl) ?_
    rw [thr_rd3]
    refine r_iload F dL_law_1413 rfl ?_
    refine r_sameq (tgt := 1420) F dL_law_1415 (by decide) ?_
    refine r_iload F dL_law_1420 rfl ?_
    refine r_if_ne (tgt := 1437) F dL_law_1422 (by decide) (ir_of (by decide) (by decide)) (fun h => absurd rfl h) (fun _ => ?_)
    refine r_aload_n (i := 3) F dL_law_1425 rfl rfl ?_
    refine r_iconst F dL_law_1426 ?_
    refine lo_35 F dL_law_1427 ?_
    rw [out_rd3]
    refine r_iload F dL_law_1428 rfl ?_
    refine r_i2l F dL_law_1430 ?_
    refine r_lcmpE F dL_law_1431 ?_
    refine r_if_eq (tgt := 1437) F dL_law_1432 (by decide) (ir_of (by decide) (by decide)) (fun _ => ?_) (fun h => absurd rfl h)
    refine r_goto (tgt := 1495) F dL_law_1437 (by decide) ?_
    refine V.kill (lv1 := [_, _, _, _, _, _, _, _, _]) 5 rfl ?_
    refine V.kill (lv1 := [_, _, _, _, _, _, _, _, _]) 6 rfl ?_
    refine hk _ (LI.trial (T1 := goN S (qui S x 40 0)) hLI (goN_dead hI hD _) ?_ (by rw [setc_ne _ _ (by decide), setc_ne _ _ (by decide), thr_ne _ _ (by decide), outM_ne _ _ (by decide), setc_ne _ _ (by decide), setc_at, hS]) (by rw [setc_ne _ _ (by decide), setc_at, hS]) (by rw [setc_ne _ _ (by decide), setc_ne _ _ (by decide), thr_ne _ _ (by decide), outM_ne _ _ (by decide), setc_at]))
    rw [← hS]
    exact ⟨by rw [(goN_cnt _).1]; exact Int.le_refl _, by rw [(goN_cnt _).2.1]; exact Int.le_refl _, by rw [(goN_cnt _).2.2]; exact Int.le_refl _⟩
  · rw [if_neg h0] at hH
    have hb : 0 ≤ cRng1 x 0 15 ∧ cRng1 x 0 15 ≤ 3 := by unfold cRng1; (repeat' split) <;> omega
    have hC := C_X6_quiet (l := l) (cy := cy) (D := D) (ad := ad) (M := setc (setc M 1 T) 0 S) hI hh hx9
    rw [if_neg h0, if_neg h0] at hC
    have hc1 : cRng1 x 0 15 = 1 := by unfold cRng1 at h0 ⊢; (repeat' split) <;> first | rfl | (exfalso; apply h0; rw [if_neg (by assumption)])
    rw [hc1] at hH
    refine V.cast (self10 hS hT0) ?_
    refine r_aload_n (i := 1) F dL_law_1384 rfl rfl ?_
    refine r_aload_n (i := 0) F dL_law_1385 rfl rfl ?_
    refine r_iload F dL_law_1386 rfl ?_
    refine r_iconst F dL_law_1388 ?_
    refine r_iadd F dL_law_1389 ?_
    refine r_sld F hX hbl hbA ex1 (by omega) (by omega) hL dL_law_1390 ?_
    refine r_aload_n (i := 3) F dL_law_1391 rfl rfl ?_
    refine r_callH F G hH dL_law_1392 lks_L_148 rfl rfl cw_L_quiet (by decide) ⟨by omega, by omega⟩ (Nat.le_of_ble_eq_true rfl) ?_
    refine r_istore (lv1 := [_, _, _, _, _, _, _, _, _]) F dL_law_1395 (by decide) rfl rfl ?_
    refine r_aload_n (i := 2) F dL_law_1397 rfl rfl ?_
    refine r_aload_n (i := 0) F dL_law_1398 rfl rfl ?_
    refine r_iload F dL_law_1399 rfl ?_
    refine r_iconst F dL_law_1401 ?_
    refine r_iadd F dL_law_1402 ?_
    refine r_sld F hX hbl hbA ex1 (by omega) (by omega) hL dL_law_1403 ?_
    refine V.cast (self2 (S := S) (by rw [setc_ne _ _ (by decide), setc_ne _ _ (by decide)]; exact a2)) ?_
    refine r_callV F hC dL_law_1404 lkv_L_150 rfl rfl rfl rfl rfl cd_X6_quiet (by decide) ⟨by omega, by omega⟩ (Nat.le_of_ble_eq_true rfl) ?_
    refine r_istore (lv1 := [_, _, _, _, _, _, _, _, _]) F dL_law_1407 (by decide) rfl rfl ?_
    refine r_aload_n (i := 2) F dL_law_1409 rfl rfl ?_
    refine r_callV F C_X6_thrown dL_law_1410 lkv_L_88 rfl rfl rfl rfl rfl cd_X6_thrown (by decide) ⟨by omega, by omega⟩ (Nat.le_of_ble_eq_true rfl) ?_
    rw [thr_rd]
    refine r_iload F dL_law_1413 rfl ?_
    refine r_sameq (tgt := 1420) F dL_law_1415 (by decide) ?_
    refine r_iload F dL_law_1420 rfl ?_
    refine r_if_ne (tgt := 1437) F dL_law_1422 (by decide) (ir_of (by decide) (by decide)) (fun _ => ?_) (fun h => absurd h (by decide))
    refine r_goto (tgt := 1495) F dL_law_1437 (by decide) ?_
    refine V.kill (lv1 := [_, _, _, _, _, _, _, _, _]) 5 rfl ?_
    refine V.kill (lv1 := [_, _, _, _, _, _, _, _, _]) 6 rfl ?_
    exact hk _ (LI.same hLI (by rw [setc_ne _ _ (by decide), thr_ne _ _ (by decide), setc_at, hS]) (by rw [setc_at, hS]) (by rw [setc_ne _ _ (by decide), thr_ne _ _ (by decide), setc_ne _ _ (by decide), setc_at, hT0]))
set_option maxHeartbeats 4000000 in
set_option maxRecDepth 100000 in
theorem L_mean {p : Program} {l : Launch} {e : Env} {s : State} {m : MethodId} {args : Array Value} {below : List Frame} {meth : Method} {c : Code} {ret : Option FieldType} {cy : Nat → ClassId} {D : va_G} {ad : Nat → Nat → Int → Nat} {A : Nat → Prop} {kc ks : Nat} {Q : State → Prop} {M : Mem} {b L k : Nat} {xs : Nat → Int32} (F : Fx p s m args meth c RL code 9 ret cy D ad A) (G : Gx l s A) (hX : va_X b L xs s s.heap) (hbl : b < s.heap.size) (hbA : ¬ A b) (hL : L ≤ 2048) (hj : 4 * (k : Int) + 4 ≤ L) (hR : kc + 1 ≤ room_1.cells ∧ ks + 6 ≤ room_1.slots) (hLI : LI k M) (hk : ∀ M' : Mem, LI (k + 1) M' → V p l e room_1 s m args below meth c 9 cy D ad A (kc + 1) (ks + 6) Q 1495 (LH b ad k) [] (M')) : V p l e room_1 s m args below meth c 9 cy D ad A kc ks Q 1440 (LH b ad k) [] (M) := by
  obtain ⟨S, hS⟩ : ∃ S, S = M 0 := ⟨_, rfl⟩
  obtain ⟨a2, hI, hD, hhr, hT, hcn⟩ := id hLI
  rw [← hS] at a2 hI hD hhr hcn
  have hh : 0 ≤ S 20 0 ∧ S 20 0 < 900000 := by omega
  have ic := hI.pc
  refine V.cast (self0 hS) ?_
  refine r_aload_n (i := 1) F dL_law_1440 rfl rfl ?_
  refine r_callV F (C_X4_mean hI) dL_law_1441 lkv_L_151 rfl rfl rfl rfl rfl cd_X4_mean (by decide) ⟨by omega, by omega⟩ (Nat.le_of_ble_eq_true rfl) ?_
  refine r_dstore (lv1 := [_, _, _, _, _, _, _, _, _]) F dL_law_1444 (by decide) rfl rfl ?_
  refine r_aload_n (i := 2) F dL_law_1446 rfl rfl ?_
  refine V.cast (self2 (S := S) (by rw [setc_ne _ _ (by decide)]; exact a2)) ?_
  refine r_callV F (C_X6_mean hI) dL_law_1447 lkv_L_155 rfl rfl rfl rfl rfl cd_X6_mean (by decide) ⟨by omega, by omega⟩ (Nat.le_of_ble_eq_true rfl) ?_
  refine r_dstore (lv1 := [_, _, _, _, _, _, _, _, _]) F dL_law_1450 (by decide) rfl rfl ?_
  refine r_dload F dL_law_1452 rfl ?_
  refine r_dload F dL_law_1454 rfl ?_
  refine r_dcmpE F dL_law_1456 (mean_cmp hI) ?_
  refine r_if_eq (tgt := 1478) F dL_law_1457 (by decide) (ir_of (by decide) (by decide)) (fun _ => ?_) (fun h => absurd rfl h)
  refine r_goto (tgt := 1495) F dL_law_1478 (by decide) ?_
  refine V.kill (lv1 := [_, _, _, _, _, _, _, _, _]) 5 rfl ?_
  refine V.kill (lv1 := [_, _, _, _, _, _, _, _, _]) 7 rfl ?_
  refine V.wide (kc1 := kc + 1) (ks1 := ks + 6) (by omega) (by omega) ?_
  exact hk _ (LI.same hLI (by rw [setc_ne _ _ (by decide), thr_ne _ _ (by decide), setc_at, hS]) (by rw [setc_at, hS]) (by rw [setc_ne _ _ (by decide), thr_ne _ _ (by decide), setc_ne _ _ (by decide)]))
set_option maxHeartbeats 4000000 in
set_option maxRecDepth 100000 in
theorem L_digest {p : Program} {l : Launch} {e : Env} {s : State} {m : MethodId} {args : Array Value} {below : List Frame} {meth : Method} {c : Code} {ret : Option FieldType} {cy : Nat → ClassId} {D : va_G} {ad : Nat → Nat → Int → Nat} {A : Nat → Prop} {kc ks : Nat} {Q : State → Prop} {M : Mem} {b L k : Nat} {xs : Nat → Int32} (F : Fx p s m args meth c RL code 9 ret cy D ad A) (G : Gx l s A) (hX : va_X b L xs s s.heap) (hbl : b < s.heap.size) (hbA : ¬ A b) (hL : L ≤ 2048) (hj : 4 * (k : Int) + 4 ≤ L) (hR : kc + 1 ≤ room_1.cells ∧ ks + 6 ≤ room_1.slots) (hLI : LI k M) (hk : ∀ M' : Mem, LI (k + 1) M' → V p l e room_1 s m args below meth c 9 cy D ad A (kc + 1) (ks + 6) Q 1495 (LH b ad k) [] (M')) : V p l e room_1 s m args below meth c 9 cy D ad A kc ks Q 1481 (LH b ad k) [] (M) := by
  obtain ⟨S, hS⟩ : ∃ S, S = M 0 := ⟨_, rfl⟩
  obtain ⟨a2, hI, hD, hhr, hT, hcn⟩ := id hLI
  rw [← hS] at a2 hI hD hhr hcn
  have hh : 0 ≤ S 20 0 ∧ S 20 0 < 900000 := by omega
  have ic := hI.pc
  refine V.cast (self0 hS) ?_
  refine r_aload_n (i := 1) F dL_law_1481 rfl rfl ?_
  refine r_callV F (C_X4_digest hI hh) dL_law_1482 lkv_L_156 rfl rfl rfl rfl rfl cd_X4_digest (by decide) ⟨by omega, by omega⟩ (Nat.le_of_ble_eq_true rfl) ?_
  refine r_aload_n (i := 2) F dL_law_1485 rfl rfl ?_
  refine V.cast (self2 (S := S) (by rw [setc_ne _ _ (by decide)]; exact a2)) ?_
  refine r_callV F (C_X6_digest hI hh) dL_law_1486 lkv_L_160 rfl rfl rfl rfl rfl cd_X6_digest (by decide) ⟨by omega, by omega⟩ (Nat.le_of_ble_eq_true rfl) ?_
  refine r_lcmpE F dL_law_1489 ?_
  refine r_if_eq (tgt := 1495) F dL_law_1490 (by decide) (ir_of (by decide) (by decide)) (fun _ => ?_) (fun h => absurd rfl h)
  refine V.wide (kc1 := kc + 1) (ks1 := ks + 6) (by omega) (by omega) ?_
  exact hk _ (LI.same hLI (by rw [setc_ne _ _ (by decide), thr_ne _ _ (by decide), setc_at, hS]) (by rw [setc_at, hS]) (by rw [setc_ne _ _ (by decide), thr_ne _ _ (by decide), setc_ne _ _ (by decide)]))
