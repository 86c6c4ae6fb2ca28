/-! The law's build. -/
def EB (ad : Nat → Nat → Int → Nat) (b L : Nat) (xs : Nat → Int32) (sz : Nat) (U : State) : Prop := ES ad b L xs sz U ∧ EX ad sz U
theorem EB_blind (ad : Nat → Nat → Int → Nat) (b L : Nat) (xs : Nat → Int32) (sz : Nat) : Eb (EB ad b L xs sz) := fun a U g mk h => ⟨ES_blind ad b L xs sz a U g mk h.1, EX_blind ad sz a U g mk h.2⟩
def BuiP (ad : Nat → Nat → Int → Nat) : Option Value → (Nat → Nat → Int → Nat) → Mem → Prop := fun r ad' M' => r = some (.ref (ad' 13 2 0)) ∧ (∀ (t c : Nat) (i : Int), t < 13 → ad' t c i = ad t c i) ∧ Cl ad' ∧ ∃ (S' : St) (M9 : Mem), M' = mm S' S0 S' M9 ∧ OK S' 1760 ∧ Sh ad' S'
theorem SimIn.cl {q : Nat} {g : Nat → Nat} {ad ad' : Nat → Nat → Int → Nat} (h : SimIn q g ad ad') (hz : Cl ad) : Cl ad' := fun t a b => by rw [h.2.2.2.2.1 t (by omega)]; exact hz t a b
theorem SimIn.sh {q : Nat} {g : Nat → Nat} {ad ad' : Nat → Nat → Int → Nat} (h : SimIn q g ad ad') : Sh ad' S0 := ⟨h.2.2.2.1, by rw [h.2.2.2.2.2.1]; rfl, by rw [h.2.2.2.2.2.2.1]; rfl, by rw [h.2.2.2.2.2.2.2]; rfl⟩
set_option maxHeartbeats 4000000 in
set_option maxRecDepth 100000 in
theorem C_L_build {l : Launch} {cy : Nat → ClassId} {D : va_G} {ad : Nat → Nat → Int → Nat} {M : Mem} {b L : Nat} {xs : Nat → Int32} (hl9 : l.stackTraces = false) (hL : L ≤ 260) (h13 : ad 40 13 0 ≠ 1) (hz : Cl ad) : Cg l cy D ad yL_build (wsT yL_build cL_build 6 (some (FieldType.object "CoveSignalsLaw$Sim"))) 9 184 2082 [.ref (ad 0 0 0), .ref b] (mm S0 S0 S0 M) (EB ad b L xs) (BuiP ad) := by
  refine Cg.mk (lv := [some _, some _, none, none, none, none]) 4 (by decide) rfl (Nat.le_of_ble_eq_true rfl) (fun p e s m below meth c F hE9 => ?_)
  obtain ⟨⟨hX, hbl, hbA⟩, hEx⟩ := hE9
  have G : Gx l s (Aw ad s.heap.size) := ⟨hl9, hEx.1, hEx.2⟩
  refine V.ofUV F ?_
  refine k_new (ci := 5) (fs := [.int 0, .int 0, .int 0, .null, .null, .null, .null, .null, .null, .null]) (T := TX5) F.fk dL_build_0 jc_L_16 jt_X5 jn_X5 inT_X5 tyX5 tyX5_ok rfl (fun j hj => by rcases (show j = 0 ∨ j = 1 ∨ j = 2 ∨ j = 3 ∨ j = 4 ∨ j = 5 ∨ j = 6 ∨ j = 7 ∨ j = 8 ∨ j = 9 by omega) with rfl | rfl | rfl | rfl | rfl | rfl | rfl | rfl | rfl | rfl <;> rfl) ⟨by show _ ≤ 184; omega, by show _ ≤ 2082; omega⟩ (fun q => ?_)
  refine k_dup F.fk dL_build_3 rfl ?_
  refine k_callIN (pre := wsOf cy ad (mm S0 S0 S0 M)) F.fk (I_X5_init (cy := cy)) rfl dL_build_4 jm_L_90 ji_X5 jn_X5 cd_X5_init rfl ⟨by decide, by decide, by decide +kernel⟩ (by decide) ⟨by show _ ≤ 184; omega, by show _ ≤ 2082; omega⟩ (Nat.le_of_ble_eq_true rfl) (fun g => ?_)
  refine r_simIn F h13 hz q g (fun ad1 E1 F => ?_)
  rw [mm_set2]
  refine V.cg (lv1 := [some (.ref (ad1 0 0 0)), some (.ref b), none, none, none, none]) (st1 := [.ref (ad1 13 2 0)]) (by rw [E1.1 0 0 0 (by decide)]) (by rw [E1.2.1]) ?_
  have hz1 := E1.cl hz
  have hs := E1.2.2.2.1
  have hF1 := F
  have h2 : ∀ (n : Nat) (j : Int) (adk : Nat → Nat → Int → Nat) (S1 : St) (M1 : Mem), 0 ≤ j → j + (n : Int) = 44 → (∀ (t c : Nat) (i : Int), t < 18 → adk t c i = ad1 t c i) → Cl adk → Fx p s m ([.ref (ad 0 0 0), .ref b] : List Value).toArray meth c yL_build.cls cL_build 6 (some (FieldType.object "CoveSignalsLaw$Sim")) cy D adk (Aw ad s.heap.size) → OK S1 (40 * j) → Sh adk S1 → V p l e (RG 9 184 2082) s m ([.ref (ad 0 0 0), .ref b] : List Value).toArray below meth c 6 cy D adk (Aw ad s.heap.size) (8 + 4 * j.toNat) (58 + 46 * j.toNat) (MQ below (Qa cy D ad s.heap.size (BuiP ad)) ([.ref (ad 0 0 0), .ref b] : List Value).toArray s 184 2082 (Aw ad s.heap.size)) 58 [some (.ref (ad1 0 0 0)), some (.ref b), some (.ref (ad1 13 2 0)), some (.int (i32 j)), none, none] [] (mm S1 S0 S1 M1) := by
    intro n
    induction n with
    | zero =>
      intro j adk S1 M1 h0 h1 lowk clk F okk shk
      have ek0 := lowk 0 0 0 (by decide)
      have ek13 := lowk 13 2 0 (by decide)
      refine r_iload_n (i := 3) F dL_build_58 rfl rfl ?_
      refine r_bipush F dL_build_59 (by decide) ?_
      refine r_icmp_ge (tgt := 243) F dL_build_61 (by decide) (by first | assumption | exact ir_of (by omega) (by omega)) (by first | assumption | exact ir_of (by omega) (by omega)) (fun h61 => ?_) (fun h61 => ?_)
      · refine r_aload_n (x := adk 13 2 0) (i := 2) F dL_build_243 rfl (by rw [ek13]; rfl) ?_
        refine V.wide (kc1 := 184) (ks1 := 2082) (by omega) (by omega) ?_
        exact r_aretG F dL_build_244 rfl (Or.inl ⟨_, rfl⟩) ⟨rfl, fun t c i h => (lowk t c i (by omega)).trans (E1.1 t c i h), clk, S1, M1, rfl, okk.le (by omega), shk⟩
      · exfalso; omega
    | succ n ih =>
      intro j adk S1 M1 h0 h1 lowk clk F okk shk
      have ek0 := lowk 0 0 0 (by decide)
      have ek13 := lowk 13 2 0 (by decide)
      have hz24 := clk 24 (by decide) (by decide)
      have hz32 := clk 32 (by decide) (by decide)
      have hs := shk.1
      have Fk := F
      have hact : ∀ ad9 : Nat → Nat → Int → Nat, Ext adk ad9 24 22 → ∀ T9 : St, (∀ (k : Nat) (i : Int), k ≠ 0 → T9 k i = M1 4 k i) → ∀ z : Int, ir z → V p l e (RG 9 184 2082) s m ([.ref (ad 0 0 0), .ref b] : List Value).toArray below meth c 6 cy D ad9 (Aw ad s.heap.size) (8 + 4 * j.toNat + 1) (58 + 46 * j.toNat + 22) (MQ below (Qa cy D ad s.heap.size (BuiP ad)) ([.ref (ad 0 0 0), .ref b] : List Value).toArray s 184 2082 (Aw ad s.heap.size)) 225 [some (.ref (ad1 0 0 0)), some (.ref b), some (.ref (ad1 13 2 0)), some (.int (i32 j)), some (.int (i32 z)), none] [] (mm S1 S0 S1 (setc M1 4 T9)) := by
        intro ad9 E9 T9 hT z hz9
        refine V.drop (M := mm S1 S0 S1 M1) (E9.less (by decide) hz24 hz32 (w_oth S1 S0 S1 M1 T9 24 (by decide) (fun k9 i9 hk9 => hT k9 i9 hk9))) ?_
        refine r_aload_n (x := adk 0 0 0) (i := 0) F dL_build_225 rfl (by rw [ek0]; rfl) ?_
        refine r_aload_n (x := adk 13 2 0) (i := 2) F dL_build_226 rfl (by rw [ek13]; rfl) ?_
        refine r_iload F dL_build_227 rfl ?_
        refine r_callHG F (C_L_act (x := z) (h := 40 * j) hl9 shk clk okk (by omega) hz9) (fun sz => EX_blind _ sz) (ex_at F G) dL_build_229 lks_L_96 rfl rfl cdw_L_act (by decide) ⟨by show _ ≤ 184; omega, by show _ ≤ 2082; omega⟩ (Nat.le_of_ble_eq_true rfl) (fun r9 ad2 M9 hP9 F => ?_)
        obtain ⟨rfl, low2, cl2, S2, M2, rfl, ok2, sh2, -⟩ := hP9
        refine r_bz_ne (tgt := 237) F dL_build_232 (by decide) (fun h232 => ?_) (fun h232 => ?_)
        · refine r_iinc (lv1 := [_, _, _, _, _, _]) F dL_build_237 rfl (by decide) rfl rfl ?_
          refine r_goto (tgt := 58) F dL_build_240 (by decide) ?_
          refine V.kill (lv1 := [_, _, _, _, _, _]) 4 rfl ?_
          refine V.wide (kc1 := 8 + 4 * (j + 1).toNat) (ks1 := 58 + 46 * (j + 1).toNat) (by omega) (by omega) ?_
          exact ih (j + 1) ad2 S2 M2 (by omega) (by omega) (fun t c i h => (low2 t c i h).trans (lowk t c i h)) cl2 F (ok2.le (by omega)) sh2
        · exact absurd h232 (by decide)
      refine r_iload_n (i := 3) F dL_build_58 rfl rfl ?_
      refine r_bipush F dL_build_59 (by decide) ?_
      refine r_icmp_ge (tgt := 243) F dL_build_61 (by decide) (by first | assumption | exact ir_of (by omega) (by omega)) (by first | assumption | exact ir_of (by omega) (by omega)) (fun h61 => ?_) (fun h61 => ?_)
      · exfalso; omega
      · refine r_aload_n (i := 1) F dL_build_64 rfl rfl ?_
        refine r_iload_n (i := 3) F dL_build_65 rfl rfl ?_
        refine r_bipush F dL_build_66 (by decide) ?_
        refine r_irem F dL_build_68 (by omega) (by omega) (by decide) (by decide) ?_
        refine r_callSG F (C_L_cell (k := j % 16) ⟨by omega, by omega⟩ hL) (fun sz => ES_blind _ _ _ _ sz) (es_at F hX hbl hbA) dL_build_69 lks_L_91 rfl rfl cd_L_cell (by decide) ⟨by show _ ≤ 184; omega, by show _ ≤ 2082; omega⟩ (Nat.le_of_ble_eq_true rfl) (fun r9 ad9 M9 hP9 F9 => ?_)
        obtain ⟨⟨v, hv, rfl⟩, rfl, rfl⟩ := hP9
        refine r_iload_n (i := 3) F dL_build_72 rfl rfl ?_
        refine r_bipush F dL_build_73 (by decide) ?_
        refine r_idiv F dL_build_75 (by omega) (by omega) (by decide) (by decide) ?_
        refine r_iconst F dL_build_76 ?_
        refine r_imul F dL_build_77 ?_
        refine r_shr F dL_build_78 ?_
        refine r_sipush F dL_build_79 (by decide) ?_
        refine r_iload_n (i := 3) F dL_build_82 rfl rfl ?_
        refine r_imul F dL_build_83 ?_
        refine r_iadd F dL_build_84 ?_
        refine V.top (fun x9 hx9 => ?_)
        refine r_istore (lv1 := [_, _, _, _, _, _]) F dL_build_85 (by decide) rfl rfl ?_
        refine r_bipush F dL_build_87 (by decide) ?_
        refine V.cast (w_self S1 S0 S1 M1) ?_
        refine w_newa F 24 (by decide) hz24 hz32 22 dL_build_89 rfl (by decide) ⟨by show _ ≤ 184; omega, by show _ ≤ 2082; omega⟩ (fun ad9 E9 F => ?_)
        have hs24 := E9.1
        have hl24 : (ad9 41 24 0 : Int) = 22 := by rw [E9.2.1]; rfl
        refine r_dup F dL_build_91 rfl ?_
        refine r_iconst F dL_build_92 ?_
        refine r_iconst F dL_build_93 ?_
        refine ws_24 F dL_build_94 hs24 (by omega) (by omega) (by omega) ?_
        refine r_dup F dL_build_95 rfl ?_
        refine r_iconst F dL_build_96 ?_
        refine r_iconst F dL_build_97 ?_
        refine ws_24 F dL_build_98 hs24 (by omega) (by omega) (by omega) ?_
        refine r_dup F dL_build_99 rfl ?_
        refine r_iconst F dL_build_100 ?_
        refine r_iconst F dL_build_101 ?_
        refine ws_24 F dL_build_102 hs24 (by omega) (by omega) (by omega) ?_
        refine r_dup F dL_build_103 rfl ?_
        refine r_iconst F dL_build_104 ?_
        refine r_iconst F dL_build_105 ?_
        refine ws_24 F dL_build_106 hs24 (by omega) (by omega) (by omega) ?_
        refine r_dup F dL_build_107 rfl ?_
        refine r_iconst F dL_build_108 ?_
        refine r_iconst F dL_build_109 ?_
        refine ws_24 F dL_build_110 hs24 (by omega) (by omega) (by omega) ?_
        refine r_dup F dL_build_111 rfl ?_
        refine r_iconst F dL_build_112 ?_
        refine r_iconst F dL_build_113 ?_
        refine ws_24 F dL_build_114 hs24 (by omega) (by omega) (by omega) ?_
        refine r_dup F dL_build_115 rfl ?_
        refine r_bipush F dL_build_116 (by decide) ?_
        refine r_iconst F dL_build_118 ?_
        refine ws_24 F dL_build_119 hs24 (by omega) (by omega) (by omega) ?_
        refine r_dup F dL_build_120 rfl ?_
        refine r_bipush F dL_build_121 (by decide) ?_
        refine r_iconst F dL_build_123 ?_
        refine ws_24 F dL_build_124 hs24 (by omega) (by omega) (by omega) ?_
        refine r_dup F dL_build_125 rfl ?_
        refine r_bipush F dL_build_126 (by decide) ?_
        refine r_iconst F dL_build_128 ?_
        refine ws_24 F dL_build_129 hs24 (by omega) (by omega) (by omega) ?_
        refine r_dup F dL_build_130 rfl ?_
        refine r_bipush F dL_build_131 (by decide) ?_
        refine r_iconst F dL_build_133 ?_
        refine ws_24 F dL_build_134 hs24 (by omega) (by omega) (by omega) ?_
        refine r_dup F dL_build_135 rfl ?_
        refine r_bipush F dL_build_136 (by decide) ?_
        refine r_iconst F dL_build_138 ?_
        refine ws_24 F dL_build_139 hs24 (by omega) (by omega) (by omega) ?_
        refine r_dup F dL_build_140 rfl ?_
        refine r_bipush F dL_build_141 (by decide) ?_
        refine r_iconst F dL_build_143 ?_
        refine ws_24 F dL_build_144 hs24 (by omega) (by omega) (by omega) ?_
        refine r_dup F dL_build_145 rfl ?_
        refine r_bipush F dL_build_146 (by decide) ?_
        refine r_iconst F dL_build_148 ?_
        refine ws_24 F dL_build_149 hs24 (by omega) (by omega) (by omega) ?_
        refine r_dup F dL_build_150 rfl ?_
        refine r_bipush F dL_build_151 (by decide) ?_
        refine r_iconst F dL_build_153 ?_
        refine ws_24 F dL_build_154 hs24 (by omega) (by omega) (by omega) ?_
        refine r_dup F dL_build_155 rfl ?_
        refine r_bipush F dL_build_156 (by decide) ?_
        refine r_iconst F dL_build_158 ?_
        refine ws_24 F dL_build_159 hs24 (by omega) (by omega) (by omega) ?_
        refine r_dup F dL_build_160 rfl ?_
        refine r_bipush F dL_build_161 (by decide) ?_
        refine r_iconst F dL_build_163 ?_
        refine ws_24 F dL_build_164 hs24 (by omega) (by omega) (by omega) ?_
        refine r_dup F dL_build_165 rfl ?_
        refine r_bipush F dL_build_166 (by decide) ?_
        refine r_iconst F dL_build_168 ?_
        refine ws_24 F dL_build_169 hs24 (by omega) (by omega) (by omega) ?_
        refine r_dup F dL_build_170 rfl ?_
        refine r_bipush F dL_build_171 (by decide) ?_
        refine r_bipush F dL_build_173 (by decide) ?_
        refine ws_24 F dL_build_175 hs24 (by omega) (by omega) (by omega) ?_
        refine r_dup F dL_build_176 rfl ?_
        refine r_bipush F dL_build_177 (by decide) ?_
        refine r_bipush F dL_build_179 (by decide) ?_
        refine ws_24 F dL_build_181 hs24 (by omega) (by omega) (by omega) ?_
        refine r_dup F dL_build_182 rfl ?_
        refine r_bipush F dL_build_183 (by decide) ?_
        refine r_bipush F dL_build_185 (by decide) ?_
        refine ws_24 F dL_build_187 hs24 (by omega) (by omega) (by omega) ?_
        refine r_dup F dL_build_188 rfl ?_
        refine r_bipush F dL_build_189 (by decide) ?_
        refine r_bipush F dL_build_191 (by decide) ?_
        refine ws_24 F dL_build_193 hs24 (by omega) (by omega) (by omega) ?_
        refine r_dup F dL_build_194 rfl ?_
        refine r_bipush F dL_build_195 (by decide) ?_
        refine r_bipush F dL_build_197 (by decide) ?_
        refine ws_24 F dL_build_199 hs24 (by omega) (by omega) (by omega) ?_
        refine r_astore (lv1 := [_, _, _, _, _, _]) F dL_build_200 (by decide) rfl rfl ?_
        refine r_iload_n (i := 3) F dL_build_202 rfl rfl ?_
        refine r_bipush F dL_build_203 (by decide) ?_
        refine r_icmp_ge (tgt := 225) F dL_build_205 (by decide) (by first | assumption | exact ir_of (by omega) (by omega)) (by first | assumption | exact ir_of (by omega) (by omega)) (fun h205 => ?_) (fun h205 => ?_)
        · refine V.kill (lv1 := [_, _, _, _, _, _]) 5 rfl ?_
          first | exact hact ad9 E9 _ (fun k9 i9 hk9 => by simp [u2, zk, hk9]) _ hy9 | exact hact ad9 E9 _ (fun k9 i9 hk9 => by simp [u2, zk, hk9]) _ hx9
        · refine r_bipush F dL_build_208 (by decide) ?_
          refine r_iload F dL_build_210 rfl ?_
          refine r_ldc F dL_build_212 lc_L_95 ?_
          rw [show (1000000 : Int32) = i32 1000000 from rfl]
          refine r_callS F (C_L_below ⟨by omega, by omega⟩) dL_build_214 lks_L_9 rfl rfl cd_L_below (by decide) ⟨by show _ ≤ 184; omega, by show _ ≤ 2082; omega⟩ (Nat.le_of_ble_eq_true rfl) ?_
          refine r_imul F dL_build_217 ?_
          refine r_aload F dL_build_218 rfl ?_
          refine r_iload_n (i := 3) F dL_build_220 rfl rfl ?_
          refine wg_24 F dL_build_221 hs24 (by omega) (by omega) (by omega) ?_
          refine r_iadd F dL_build_222 ?_
          refine V.top (fun y9 hy9 => ?_)
          refine r_istore (lv1 := [_, _, _, _, _, _]) F dL_build_223 (by decide) rfl rfl ?_
          refine V.kill (lv1 := [_, _, _, _, _, _]) 5 rfl ?_
          first | exact hact ad9 E9 _ (fun k9 i9 hk9 => by simp [u2, zk, hk9]) _ hy9 | exact hact ad9 E9 _ (fun k9 i9 hk9 => by simp [u2, zk, hk9]) _ hx9
  have h1 : ∀ (n : Nat) (j : Int) (S1 : St), 0 ≤ j → j + (n : Int) = 16 → OK S1 0 → Sh ad1 S1 → (∀ i, j ≤ i → S1 0 i = 0) → V p l e (RG 9 184 2082) s m ([.ref (ad 0 0 0), .ref b] : List Value).toArray below meth c 6 cy D ad1 (Aw ad s.heap.size) (0 + 1 + 7) (0 + 10 + 48) (MQ below (Qa cy D ad s.heap.size (BuiP ad)) ([.ref (ad 0 0 0), .ref b] : List Value).toArray s 184 2082 (Aw ad s.heap.size)) 10 [some (.ref (ad1 0 0 0)), some (.ref b), some (.ref (ad1 13 2 0)), some (.int (i32 j)), none, none] [] (mm S1 S0 S1 M) := by
    intro n
    induction n with
    | zero =>
      intro j S1 h0 h1 ok1 sh1 hz0
      refine r_iload_n (i := 3) F dL_build_10 rfl rfl ?_
      refine r_bipush F dL_build_11 (by decide) ?_
      refine r_icmp_ge (tgt := 56) F dL_build_13 (by decide) (by first | assumption | exact ir_of (by omega) (by omega)) (by first | assumption | exact ir_of (by omega) (by omega)) (fun h13 => ?_) (fun h13 => ?_)
      · refine r_iconst F dL_build_56 ?_
        refine r_istore_n (i := 3) (lv1 := [_, _, _, _, _, _]) F dL_build_57 rfl (by decide) rfl rfl ?_
        refine V.wide (kc1 := 8 + 4 * (0 : Int).toNat) (ks1 := 58 + 46 * (0 : Int).toNat) (by decide) (by decide) ?_
        exact h2 44 0 ad1 S1 M (by decide) (by decide) (fun _ _ _ _ => rfl) hz1 F ok1 sh1
      · exfalso; omega
    | succ n ih =>
      intro j S1 h0 h1 ok1 sh1 hz0
      have hI := ok1.1
      have b01 := hI.p01 j
      have z0 := hz0 j (Int.le_refl _)
      refine r_iload_n (i := 3) F dL_build_10 rfl rfl ?_
      refine r_bipush F dL_build_11 (by decide) ?_
      refine r_icmp_ge (tgt := 56) F dL_build_13 (by decide) (by first | assumption | exact ir_of (by omega) (by omega)) (by first | assumption | exact ir_of (by omega) (by omega)) (fun h13 => ?_) (fun h13 => ?_)
      · exfalso; omega
      · refine r_aload_n (i := 1) F dL_build_16 rfl rfl ?_
        refine r_iload_n (i := 3) F dL_build_17 rfl rfl ?_
        refine r_callSG F (C_L_cell (k := j) ⟨by omega, by omega⟩ hL) (fun sz => ES_blind _ _ _ _ sz) (es_at F hX hbl hbA) dL_build_18 lks_L_91 rfl rfl cd_L_cell (by decide) ⟨by show _ ≤ 184; omega, by show _ ≤ 2082; omega⟩ (Nat.le_of_ble_eq_true rfl) (fun r9 ad9 M9 hP9 F9 => ?_)
        obtain ⟨⟨v, hv, rfl⟩, rfl, rfl⟩ := hP9
        refine r_iconst F dL_build_21 ?_
        refine r_shr F dL_build_22 ?_
        refine r_bipush F dL_build_23 (by decide) ?_
        refine r_callS F (C_L_below ⟨by omega, by omega⟩) dL_build_25 lks_L_9 rfl rfl cd_L_below (by decide) ⟨by show _ ≤ 184; omega, by show _ ≤ 2082; omega⟩ (Nat.le_of_ble_eq_true rfl) ?_
        obtain ⟨y, hy, ey⟩ : ∃ z : Int, (0 ≤ z ∧ z < 31) ∧ blw (i32 (shr v 3)) 31 = z := ⟨_, blw_bd _ (by decide), rfl⟩
        rw [ey]
        refine r_istore (lv1 := [_, _, _, _, _, _]) F dL_build_28 (by decide) rfl rfl ?_
        refine V.cast (mm_self2 S1 S0 S1 M) ?_
        refine r_aload_n (i := 2) F dL_build_30 rfl rfl ?_
        refine gf_L_28 F dL_build_31 hs ?_
        refine r_iload_n (i := 3) F dL_build_34 rfl rfl ?_
        refine r_iload F dL_build_35 rfl ?_
        refine is_14 F dL_build_37 hs (by omega) (by omega) ?_
        refine r_aload_n (i := 0) F dL_build_38 rfl rfl ?_
        refine r_iload_n (i := 3) F dL_build_39 rfl rfl ?_
        refine r_iload F dL_build_40 rfl ?_
        refine V.cast (mm_set2 S1 S0 S1 (u2 S1 0 j y) M) ?_
        refine r_callV F (Ct.mm0 (a := S1) (C_X4_setRoom (x := j) (q := y) hI (ir_of (by omega) (by omega)) (ir_of (by omega) (by omega)) (by unfold cSetRoom; rw [if_neg (by omega), if_neg (by omega), if_neg (by omega)]))) dL_build_42 lkv_L_31 rfl rfl rfl rfl rfl cd_X4_setRoom (by decide) ⟨by show _ ≤ 184; omega, by show _ ≤ 2082; omega⟩ (Nat.le_of_ble_eq_true rfl) ?_
        refine r_if_eq (tgt := 50) F dL_build_45 (by decide) (ir_of (by omega) (by omega)) (fun h45 => ?_) (fun h45 => ?_)
        · refine r_iinc (lv1 := [_, _, _, _, _, _]) F dL_build_50 rfl (by decide) rfl rfl ?_
          refine r_goto (tgt := 10) F dL_build_53 (by decide) ?_
          refine V.kill (lv1 := [_, _, _, _, _, _]) 4 rfl ?_
          exact ih (j + 1) _ (by omega) (by omega) (ok_setRoom ok1 ⟨by omega, by omega⟩) (sh1.same rfl rfl rfl) (fun i hi => by rw [u2_i (by omega)]; exact hz0 i (by omega))
        · exact absurd z0 h45
  refine r_astore_n (i := 2) (lv1 := [_, _, _, _, _, _]) F dL_build_7 rfl (by decide) rfl rfl ?_
  refine r_iconst F dL_build_8 ?_
  refine r_istore_n (i := 3) (lv1 := [_, _, _, _, _, _]) F dL_build_9 rfl (by decide) rfl rfl ?_
  exact h1 16 0 S0 (by decide) (by decide) ok_S0 E1.sh (fun i _ => rfl)
