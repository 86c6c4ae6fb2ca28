/-! The law's act: something done to both. -/
set_option maxRecDepth 100000 in
theorem cdw_L_act : Cond.codeWith yL_act cL_act 11 (some FieldType.boolean) [(365, 389, 390, 53), (674, 702, 703, 53)] ∈ TB := tb_of 599 rfl rfl
def mm (a b c : St) (M : Mem) : Mem := fun k => if k = 0 then a else if k = 1 then b else if k = 2 then c else M k
theorem mm_set0 (a b c x : St) (M : Mem) : setc (mm a b c M) 0 x = mm x b c M := by
  funext k
  unfold setc mm
  by_cases h : k = 0
  · rw [if_pos h, if_pos h]
  · rw [if_neg h, if_neg h, if_neg h]
theorem mm_set1 (a b c x : St) (M : Mem) : setc (mm a b c M) 1 x = mm a x c M := by
  funext k
  unfold setc mm
  by_cases h : k = 1
  · rw [if_pos h, if_neg (by omega), if_pos h]
  · rw [if_neg h, if_neg h, if_neg h]
theorem mm_set2 (a b c x : St) (M : Mem) : setc (mm a b c M) 2 x = mm a b x M := by
  funext k
  unfold setc mm
  by_cases h : k = 2
  · rw [if_pos h, if_neg (by omega), if_neg (by omega), if_pos h]
  · rw [if_neg h, if_neg h, if_neg h]
theorem mm_set4 (a b c x : St) (M : Mem) : setc (mm a b c M) 4 x = mm a b c (setc M 4 x) := by
  funext k
  by_cases h : k = 4
  · subst h; simp [setc, mm]
  · simp [setc, mm, h]
theorem mm_self2 (a b c : St) (M : Mem) : mm a b c M = setc (mm a b c M) 2 c := (mm_set2 a b c c M).symm
theorem mm_j (a b c x y : St) (M : Mem) : setc (setc (mm a b c M) 4 y) 2 x = mm a b x (setc M 4 y) := by rw [mm_set4, mm_set2]
theorem Ct.mm0 {l : Launch} {cy : Nat → ClassId} {D : va_G} {ad : Nat → Nat → Int → Nat} {y : MethodName} {bytes : ByteArray} {maxL : Nat} {ret : Option FieldType} {lev : Nat} {As : List Value} {r : Option Value} {a b c S S1 : St} {M : Mem} (h : Ct l cy D ad y bytes maxL ret lev As (setc (mm a b c M) 0 S) r (setc (mm a b c M) 0 S1)) : Ct l cy D ad y bytes maxL ret lev As (mm S b c M) r (mm S1 b c M) := by
  rw [mm_set0, mm_set0] at h
  exact h
theorem Tx.mm0 {l : Launch} {cy : Nat → ClassId} {D : va_G} {ad : Nat → Nat → Int → Nat} {y : MethodName} {bytes : ByteArray} {maxL : Nat} {ret : Option FieldType} {lev : Nat} {As : List Value} {E : String} {a b c S : St} {M : Mem} (h : Tx l cy D ad y bytes maxL ret lev As (setc (mm a b c M) 0 S) E) : Tx l cy D ad y bytes maxL ret lev As (mm S b c M) E := by
  rw [mm_set0] at h
  exact h
def shr (v k : Int) : Int := ((i32 v) >>> (i32 k &&& 31)).toInt
theorem shr_ir (v k : Int) : ir (shr v k) := ir_toInt _
theorem iand_bi (a b : Bool) : i32 (bi a) &&& i32 (bi b) = i32 (bi (a && b)) := by cases a <;> cases b <;> decide
/-- no array of the law's own is there -/
def Cl (ad : Nat → Nat → Int → Nat) : Prop := ∀ t : Nat, 24 ≤ t → t < 33 → ad 40 t 0 ≠ 1
theorem Gh.cl {ad ad' : Nat → Nat → Int → Nat} {k : Nat} (h : Gh k ad ad') (hz : Cl ad) : Cl ad' := fun t a b => by rw [h.2 40 t 0 (by decide)]; exact hz t a b
def ActP (ad : Nat → Nat → Int → Nat) (S T : St) (h : Int) : Option Value → (Nat → Nat → Int → Nat) → Mem → Prop := fun r ad' M' => r = some (.int (i32 (bi true))) ∧ (∀ (t c : Nat) (i : Int), t < 18 → ad' t c i = ad t c i) ∧ Cl ad' ∧ ∃ (S' : St) (M9 : Mem), M' = mm S' T S' M9 ∧ OK S' (h + 40) ∧ Sh ad' S' ∧ S 20 1 ≤ S' 20 1 ∧ S 20 2 ≤ S' 20 2 ∧ S 20 3 ≤ S' 20 3
def EX (ad : Nat → Nat → Int → Nat) (sz : Nat) (U : State) : Prop := Lx U ∧ ZqOK (Aw ad sz) U U.heap
theorem EX_blind (ad : Nat → Nat → Int → Nat) (sz : Nat) : Eb (EX ad sz) := fun a U g mm h => ⟨Lx.same (s := U) (U := U.calling g mm a) rfl h.1, ZqOK.moved (u := U) (U := U.calling g mm a) (Vm.Alike.refl U.vm) h.2⟩
/-- a row made, put behind the others and taken in -/
theorem chain {ad ad0 ad1 ad2 ad3 : Nat → Nat → Int → Nat} {k n len : Nat} (hk : k < 3) (hz : Cl ad) (h0 : Gh k ad ad0) (h1 : Ext ad0 ad1 31 len) (h2 : Ext ad1 ad2 32 (n + 1)) (h3 : Adp k n ad2 ad3) : (∀ (t c : Nat) (i : Int), t < 18 → ad3 t c i = ad t c i) ∧ Cl ad3 ∧ ad3 40 13 0 = ad 40 13 0 ∧ ad3 41 (18 + k) 0 = n + 1 ∧ ∀ c : Nat, 18 ≤ c → c < 21 → c ≠ 18 + k → ad3 41 c 0 = ad 41 c 0 := by
  obtain ⟨a1, a2, a3, a4, a5, a6⟩ := h3
  refine ⟨fun t c i ht => ?_, fun t t1 t2 => ?_, ?_, a3, fun c c1 c2 c3 => ?_⟩
  · rw [a6 t c i (by omega) (by omega) (by omega) (by omega), h2.lo (by decide) (by omega), h1.lo (by decide) (by omega), h0.2 t c i (by omega)]
  · by_cases e1 : t = 31
    · subst e1; rw [a4]; decide
    · by_cases e2 : t = 32
      · subst e2; rw [a5]; decide
      · rw [a6 40 t 0 (by omega) (by omega) (by omega) (by omega), h2.fl (by decide) (Or.inl rfl) e2, h1.fl (by decide) (Or.inl rfl) e1, h0.2 40 t 0 (by decide)]
        exact hz t t1 t2
  · rw [a6 40 13 0 (by omega) (by omega) (by omega) (by omega), h2.fl (by decide) (Or.inl rfl) (by decide), h1.fl (by decide) (Or.inl rfl) (by decide), h0.2 40 13 0 (by decide)]
  · rw [a6 41 c 0 (by omega) (by omega) (by omega) (by omega), h2.fl (by decide) (Or.inr rfl) (by omega), h1.fl (by decide) (Or.inr rfl) (by omega), h0.2 41 c 0 (by decide)]
section SHR
variable {p : Program} {l : Launch} {e : Env} {R : Room} {s : State} {m : MethodId} {args : Array Value} {below : List Frame} {meth : Method} {c : Code} {nL : Nat} {cy : Nat → ClassId} {D : va_G} {ad : Nat → Nat → Int → Nat} {A : Nat → Prop} {kc ks : Nat} {Q : State → Prop} {pc : Nat} {lv : List (Option Value)} {st : List Value} {M : Mem} {own : String} {cc : ByteArray} {ret : Option FieldType}
theorem r_shr (F : Fx p s m args meth c own cc nL ret cy D ad A) {a b : Int} (d : decode cc pc = .ok (.ishr, 1)) (kk : V p l e R s m args below meth c nL cy D ad A kc ks Q (pc + 1) lv (.int (i32 (shr a b)) :: st) M) : V p l e R s m args below meth c nL cy D ad A kc ks Q pc lv (.int (i32 b) :: .int (i32 a) :: st) M := by
  obtain ⟨hx, hb, -⟩ := F
  intro H locs ls hP hS hl
  refine lv_ishr hx hb d ?_
  rw [← i32_of (i32 a >>> (i32 b &&& 31))]
  exact kk H locs ls hP hS hl
end SHR
theorem lanQ_S (S : St) (q : Int) {j : Int} (h : 0 ≤ j) : lanQ S q (j + 1).toNat = (lanQ S q j.toNat || decide (S 4 j = q)) := by
  rw [tn_S h]
  show (lanQ S q j.toNat || decide (S 4 ((j.toNat : Nat) : Int) = q)) = _
  rw [tn_c h]
theorem and_t (a : Bool) : i32 (bi a) &&& i32 1 = i32 (bi a) := by cases a <;> decide
theorem and_f (a : Bool) : i32 (bi a) &&& i32 0 = i32 (bi false) := by cases a <;> decide
theorem same_lan {S : St} {q : Int} {kd : Nat} {i : Int} (h : ¬ ((kd = 4 ∧ i = S 20 1) ∨ (kd = 20 ∧ i = 1))) : sLantern S q kd i = S kd i := by
  unfold sLantern u2
  rw [if_neg (fun z => h (Or.inr z)), if_neg (fun z => h (Or.inl z))]
theorem same_wat {S : St} {f t g : Int} {kd : Nat} {i : Int} (h : ¬ ((7 ≤ kd ∧ kd ≤ 12 ∧ i = S 20 2) ∨ (kd = 20 ∧ i = 2))) : sWatch S f t g kd i = S kd i := by
  unfold sWatch wat0 u2
  rw [if_neg (fun z => h (Or.inr z)), if_neg (fun z => h (Or.inl ⟨by omega, by omega, z.2⟩)), if_neg (fun z => h (Or.inl ⟨by omega, by omega, z.2⟩)), if_neg (fun z => h (Or.inl ⟨by omega, by omega, z.2⟩)), if_neg (fun z => h (Or.inl ⟨by omega, by omega, z.2⟩)), if_neg (fun z => h (Or.inl ⟨by omega, by omega, z.2⟩)), if_neg (fun z => h (Or.inl ⟨by omega, by omega, z.2⟩))]
theorem same_boa {S : St} {p b : Int} {kd : Nat} {i : Int} (h : ¬ ((13 ≤ kd ∧ kd ≤ 19 ∧ i = S 20 3) ∨ (kd = 20 ∧ i = 3))) : sBoat S p b kd i = S kd i := by
  unfold sBoat boat0 u2
  rw [if_neg (fun z => h (Or.inr z)), if_neg (fun z => h (Or.inl ⟨by omega, by omega, z.2⟩)), if_neg (fun z => h (Or.inl ⟨by omega, by omega, z.2⟩)), if_neg (fun z => h (Or.inl ⟨by omega, by omega, z.2⟩)), if_neg (fun z => h (Or.inl ⟨by omega, by omega, z.2⟩)), if_neg (fun z => h (Or.inl ⟨by omega, by omega, z.2⟩)), if_neg (fun z => h (Or.inl ⟨by omega, by omega, z.2⟩)), if_neg (fun z => h (Or.inl ⟨by omega, by omega, z.2⟩))]
set_option maxHeartbeats 4000000 in
set_option maxRecDepth 100000 in
theorem C_L_act {l : Launch} {cy : Nat → ClassId} {D : va_G} {ad : Nat → Nat → Int → Nat} {M : Mem} {S : St} {T : St} {x h : Int} (hl9 : l.stackTraces = false) (hsh : Sh ad S) (hz : Cl ad) (hOK : OK S h) (hhb : h < 800000) (hx9 : ir x) : Cg l cy D ad yL_act (Cond.codeWith yL_act cL_act 11 (some FieldType.boolean) [(365, 389, 390, 53), (674, 702, 703, 53)] :: TB) 8 3 24 [.ref (ad 0 0 0), .ref (ad 13 2 0), .int (i32 x)] (mm S T S M) (EX ad) (ActP ad S T h) := by
  refine Cg.mkH (lv := [some _, some _, some _, none, none, none, none, none, none, none, none]) 8 (by decide) rfl (Nat.le_of_ble_eq_true rfl) (fun p e s m below meth c F hE9 htab => ?_)
  have hsh9 := hsh
  obtain ⟨hs, hn1, hn2, hn3⟩ := hsh
  have hI := hOK.1
  have ic := hI.pc
  have hh : 0 ≤ S 20 0 ∧ S 20 0 < 1000000 := ⟨hOK.2.2.2.1, by have := hOK.2.2.2.2; omega⟩
  have hhc : 0 ≤ S 20 0 ∧ S 20 0 < 900000 := ⟨hOK.2.2.2.1, by have := hOK.2.2.2.2; omega⟩
  have hz32 := hz 32 (by decide) (by decide)
  have hz31 := hz 31 (by decide) (by decide)
  have hOK4 : OK S (h + 40) := hOK.le (by omega)
  have G : Gx l s (Aw ad s.heap.size) := ⟨hl9, hE9.1, hE9.2⟩
  obtain ⟨q, hq, eq9⟩ : ∃ q : Int, (0 ≤ q ∧ q < 16) ∧ blw (i32 (shr x 4)) 16 = q := ⟨_, blw_bd _ (by decide), rfl⟩
  have k0 : V p l e (RG 8 3 24) s m ([.ref (ad 0 0 0), .ref (ad 13 2 0), .int (i32 x)] : List Value).toArray below meth c 11 cy D ad (Aw ad s.heap.size) 0 0 (MQ below (Qa cy D ad s.heap.size (ActP ad S T h)) ([.ref (ad 0 0 0), .ref (ad 13 2 0), .int (i32 x)] : List Value).toArray s 3 24 (Aw ad s.heap.size)) 92 [some (.ref (ad 0 0 0)), some (.ref (ad 13 2 0)), some (.int (i32 x)), some (.int (i32 q)), some (.int (i32 (S 20 1))), some (.int (i32 (S 20 3))), none, none, none, none, none] [] (setc (mm S T S M) 2 S) := by
    have b01 := hI.p01 q
    refine r_iload_n (i := 2) F dL_act_92 rfl rfl ?_
    refine r_bipush F dL_act_93 (by decide) ?_
    refine r_shr F dL_act_95 ?_
    refine r_bipush F dL_act_96 (by decide) ?_
    refine r_callS F (C_L_below ⟨by omega, by omega⟩) dL_act_98 lks_L_9 rfl rfl cd_L_below (by decide) ⟨by show _ ≤ 3; omega, by show _ ≤ 24; omega⟩ (Nat.le_of_ble_eq_true rfl) ?_
    obtain ⟨y, hy, ey⟩ : ∃ z : Int, (0 ≤ z ∧ z < 31) ∧ blw (i32 (shr x 8)) 31 = z := ⟨_, blw_bd _ (by decide), rfl⟩
    rw [ey]
    refine r_istore (lv1 := [_, _, _, _, _, _, _, _, _, _, _]) F dL_act_101 (by decide) rfl rfl ?_
    refine r_aload_n (i := 1) F dL_act_103 rfl rfl ?_
    refine gf_L_24 F dL_act_104 hs ?_
    refine r_iload_n (i := 3) F dL_act_107 rfl rfl ?_
    refine ia_15 F dL_act_108 hs (by omega) (by omega) ?_
    refine r_iload F dL_act_109 rfl ?_
    refine r_icmp_le (tgt := 116) F dL_act_111 (by decide) (by first | assumption | exact ir_of (by omega) (by omega)) (by first | assumption | exact ir_of (by omega) (by omega)) (fun h111 => ?_) (fun h111 => ?_)
    · refine r_aload_n (i := 1) F dL_act_116 rfl rfl ?_
      refine gf_L_28 F dL_act_117 hs ?_
      refine r_iload_n (i := 3) F dL_act_120 rfl rfl ?_
      refine ia_14 F dL_act_121 hs (by omega) (by omega) ?_
      refine r_istore (lv1 := [_, _, _, _, _, _, _, _, _, _, _]) F dL_act_122 (by decide) rfl rfl ?_
      refine r_aload_n (i := 1) F dL_act_124 rfl rfl ?_
      refine gf_L_28 F dL_act_125 hs ?_
      refine r_iload_n (i := 3) F dL_act_128 rfl rfl ?_
      refine r_iload F dL_act_129 rfl ?_
      refine is_14 F dL_act_131 hs (by omega) (by omega) ?_
      refine r_aload_n (i := 0) F dL_act_132 rfl rfl ?_
      refine r_iload_n (i := 3) F dL_act_133 rfl rfl ?_
      refine r_iload F dL_act_134 rfl ?_
      refine V.cast (mm_set2 S T S (u2 S 0 q y) M) ?_
      refine r_callV F (Ct.mm0 (a := S) (C_X4_setRoom (M := mm S T (u2 S 0 q y) M) (x := q) (q := y) hI (ir_of (by omega) (by omega)) (ir_of (by omega) (by omega)) (by unfold cSetRoom; rw [if_neg (by omega), if_neg (by omega), if_neg (by omega)]))) dL_act_136 lkv_L_31 rfl rfl rfl rfl rfl cd_X4_setRoom (by decide) ⟨by show _ ≤ 3; omega, by show _ ≤ 24; omega⟩ (Nat.le_of_ble_eq_true rfl) ?_
      refine r_iload F dL_act_139 rfl ?_
      refine r_cne (tgt := 148) F dL_act_141 (by decide) rfl ?_
      refine r_iconst F dL_act_144 ?_
      refine r_goto (tgt := 149) F dL_act_145 (by decide) ?_
      refine V.wide (kc1 := 3) (ks1 := 24) (by omega) (by omega) ?_
      exact r_zretG F dL_act_149 rfl (b := true) (by rfl) ⟨rfl, (fun _ _ _ _ => rfl), hz, (u2 S 0 q y), M, rfl, (ok_setRoom hOK4 ⟨by omega, by omega⟩), (hsh9.same rfl rfl rfl), ⟨Int.le_refl _, Int.le_refl _, Int.le_refl _⟩⟩
    · refine r_iconst F dL_act_114 ?_
      refine V.cast ((mm_set2 S T S S M)) ?_
      refine V.wide (kc1 := 3) (ks1 := 24) (by omega) (by omega) ?_
      exact r_zretG F dL_act_115 rfl (b := true) (by rfl) ⟨rfl, (fun _ _ _ _ => rfl), hz, S, M, rfl, hOK4, hsh9, ⟨Int.le_refl _, Int.le_refl _, Int.le_refl _⟩⟩
  have k1 : V p l e (RG 8 3 24) s m ([.ref (ad 0 0 0), .ref (ad 13 2 0), .int (i32 x)] : List Value).toArray below meth c 11 cy D ad (Aw ad s.heap.size) 0 0 (MQ below (Qa cy D ad s.heap.size (ActP ad S T h)) ([.ref (ad 0 0 0), .ref (ad 13 2 0), .int (i32 x)] : List Value).toArray s 3 24 (Aw ad s.heap.size)) 150 [some (.ref (ad 0 0 0)), some (.ref (ad 13 2 0)), some (.int (i32 x)), some (.int (i32 q)), some (.int (i32 (S 20 1))), some (.int (i32 (S 20 3))), none, none, none, none, none] [] (setc (mm S T S M) 2 S) := by
    have j : ∀ y z : Int, (0 ≤ y ∧ y < 7) → (-1 ≤ z ∧ z ≤ 15) → V p l e (RG 8 3 24) s m ([.ref (ad 0 0 0), .ref (ad 13 2 0), .int (i32 x)] : List Value).toArray below meth c 11 cy D ad (Aw ad s.heap.size) 0 0 (MQ below (Qa cy D ad s.heap.size (ActP ad S T h)) ([.ref (ad 0 0 0), .ref (ad 13 2 0), .int (i32 x)] : List Value).toArray s 3 24 (Aw ad s.heap.size)) 179 [some (.ref (ad 0 0 0)), some (.ref (ad 13 2 0)), some (.int (i32 x)), some (.int (i32 q)), some (.int (i32 (S 20 1))), some (.int (i32 (S 20 3))), some (.int (i32 (1 + y))), none, none, none, none] [.int (i32 z)] (setc (mm S T S M) 2 S) := by
      intro y z hy hz9
      refine r_istore (lv1 := [_, _, _, _, _, _, _, _, _, _, _]) F dL_act_179 (by decide) rfl rfl ?_
      refine r_aload_n (i := 1) F dL_act_181 rfl rfl ?_
      refine gf_L_36 F dL_act_182 hs ?_
      refine r_iload F dL_act_185 rfl ?_
      refine ia_16 F dL_act_187 hs (by omega) (by omega) ?_
      refine r_istore (lv1 := [_, _, _, _, _, _, _, _, _, _, _]) F dL_act_188 (by decide) rfl rfl ?_
      refine r_aload_n (i := 1) F dL_act_190 rfl rfl ?_
      refine gf_L_36 F dL_act_191 hs ?_
      refine r_iload F dL_act_194 rfl ?_
      refine r_iload F dL_act_196 rfl ?_
      refine is_16 F dL_act_198 hs (by omega) (by omega) ?_
      refine r_aload_n (i := 1) F dL_act_199 rfl rfl ?_
      refine gf_L_39 F dL_act_200 hs ?_
      refine r_iload F dL_act_203 rfl ?_
      refine r_iconst F dL_act_205 ?_
      refine is_17 F dL_act_206 hs (by omega) (by omega) ?_
      refine r_aload_n (i := 0) F dL_act_207 rfl rfl ?_
      refine r_iload F dL_act_208 rfl ?_
      refine r_iload F dL_act_210 rfl ?_
      refine V.cast (mm_set2 S T S (u2 (u2 S 2 (1 + y) z) 3 (1 + y) 0) M) ?_
      refine r_callV F (Ct.mm0 (a := S) (C_X4_setCode (x := 1 + y) hI (ir_of (by omega) (by omega)) (ir_of (by omega) (by omega)) (by unfold cSetCode; rw [if_neg (by omega), if_neg (by omega)]))) dL_act_212 lkv_L_42 rfl rfl rfl rfl rfl cd_X4_setCode (by decide) ⟨by show _ ≤ 3; omega, by show _ ≤ 24; omega⟩ (Nat.le_of_ble_eq_true rfl) ?_
      refine r_iload F dL_act_215 rfl ?_
      refine r_cne (tgt := 224) F dL_act_217 (by decide) rfl ?_
      refine r_iconst F dL_act_220 ?_
      refine r_goto (tgt := 225) F dL_act_221 (by decide) ?_
      refine V.wide (kc1 := 3) (ks1 := 24) (by omega) (by omega) ?_
      exact r_zretG F dL_act_225 rfl (b := true) (by rfl) ⟨rfl, (fun _ _ _ _ => rfl), hz, _, M, rfl, (ok_setCode hOK4 (by omega) hz9), (hsh9.same rfl rfl rfl), ⟨Int.le_refl _, Int.le_refl _, Int.le_refl _⟩⟩
    refine r_iconst F dL_act_150 ?_
    refine r_iload_n (i := 2) F dL_act_151 rfl rfl ?_
    refine r_bipush F dL_act_152 (by decide) ?_
    refine r_shr F dL_act_154 ?_
    refine r_bipush F dL_act_155 (by decide) ?_
    refine r_callS F (C_L_below ⟨by omega, by omega⟩) dL_act_157 lks_L_9 rfl rfl cd_L_below (by decide) ⟨by show _ ≤ 3; omega, by show _ ≤ 24; omega⟩ (Nat.le_of_ble_eq_true rfl) ?_
    obtain ⟨y, hy, ey⟩ : ∃ z : Int, (0 ≤ z ∧ z < 7) ∧ blw (i32 (shr x 8)) 7 = z := ⟨_, blw_bd _ (by decide), rfl⟩
    rw [ey]
    refine r_iadd F dL_act_160 ?_
    refine r_istore (lv1 := [_, _, _, _, _, _, _, _, _, _, _]) F dL_act_161 (by decide) rfl rfl ?_
    refine r_iload_n (i := 2) F dL_act_163 rfl rfl ?_
    refine r_bipush F dL_act_164 (by decide) ?_
    refine r_shr F dL_act_166 ?_
    refine r_iconst F dL_act_167 ?_
    refine r_callS F (C_L_below ⟨by omega, by omega⟩) dL_act_168 lks_L_9 rfl rfl cd_L_below (by decide) ⟨by show _ ≤ 3; omega, by show _ ≤ 24; omega⟩ (Nat.le_of_ble_eq_true rfl) ?_
    obtain ⟨y5, hy5, ey5⟩ : ∃ z : Int, (0 ≤ z ∧ z < 5) ∧ blw (i32 (shr x 11)) 5 = z := ⟨_, blw_bd _ (by decide), rfl⟩
    rw [ey5]
    refine r_if_ne (tgt := 178) F dL_act_171 (by decide) (by first | assumption | exact ir_of (by omega) (by omega)) (fun h171 => ?_) (fun h171 => ?_)
    · refine r_iload_n (i := 3) F dL_act_178 rfl rfl ?_
      exact j y _ hy ⟨by omega, by omega⟩
    · refine r_iconst F dL_act_174 ?_
      refine r_goto (tgt := 179) F dL_act_175 (by decide) ?_
      exact j y _ hy ⟨by omega, by omega⟩
  have k4 : V p l e (RG 8 3 24) s m ([.ref (ad 0 0 0), .ref (ad 13 2 0), .int (i32 x)] : List Value).toArray below meth c 11 cy D ad (Aw ad s.heap.size) 0 0 (MQ below (Qa cy D ad s.heap.size (ActP ad S T h)) ([.ref (ad 0 0 0), .ref (ad 13 2 0), .int (i32 x)] : List Value).toArray s 3 24 (Aw ad s.heap.size)) 403 [some (.ref (ad 0 0 0)), some (.ref (ad 13 2 0)), some (.int (i32 x)), some (.int (i32 q)), some (.int (i32 (S 20 1))), some (.int (i32 (S 20 3))), none, none, none, none, none] [] (setc (mm S T S M) 2 S) := by
    refine r_iload F dL_act_403 rfl ?_
    refine r_if_ne (tgt := 410) F dL_act_405 (by decide) (by first | assumption | exact ir_of (by omega) (by omega)) (fun h405 => ?_) (fun h405 => ?_)
    · refine r_aload_n (i := 1) F dL_act_410 rfl rfl ?_
      refine gf_L_15 F dL_act_411 hs ?_
      refine r_iload_n (i := 2) F dL_act_414 rfl rfl ?_
      refine r_iconst F dL_act_415 ?_
      refine r_shr F dL_act_416 ?_
      refine r_iload F dL_act_417 rfl ?_
      refine r_callS F (C_L_below ⟨by omega, by omega⟩) dL_act_419 lks_L_9 rfl rfl cd_L_below (by decide) ⟨by show _ ≤ 3; omega, by show _ ≤ 24; omega⟩ (Nat.le_of_ble_eq_true rfl) ?_
      obtain ⟨y, hy, ey⟩ : ∃ z : Int, (0 ≤ z ∧ z < (S 20 1)) ∧ blw (i32 (shr x 4)) (S 20 1) = z := ⟨_, blw_bd _ (by omega), rfl⟩
      rw [ey]
      refine aa_18 F dL_act_422 hs (by omega) (by omega) (by omega) ?_
      refine r_astore (lv1 := [_, _, _, _, _, _, _, _, _, _, _]) F dL_act_423 (by decide) rfl rfl ?_
      refine r_iload_n (i := 2) F dL_act_425 rfl rfl ?_
      refine r_bipush F dL_act_426 (by decide) ?_
      refine r_shr F dL_act_428 ?_
      refine r_bipush F dL_act_429 (by decide) ?_
      refine r_callS F (C_L_below ⟨by omega, by omega⟩) dL_act_431 lks_L_9 rfl rfl cd_L_below (by decide) ⟨by show _ ≤ 3; omega, by show _ ≤ 24; omega⟩ (Nat.le_of_ble_eq_true rfl) ?_
      obtain ⟨y7, hy7, ey7⟩ : ∃ z : Int, (0 ≤ z ∧ z < 10) ∧ blw (i32 (shr x 7)) 10 = z := ⟨_, blw_bd _ (by decide), rfl⟩
      rw [ey7]
      refine r_istore (lv1 := [_, _, _, _, _, _, _, _, _, _, _]) F dL_act_434 (by decide) rfl rfl ?_
      refine r_aload F dL_act_436 rfl ?_
      refine r_iconst F dL_act_438 ?_
      refine r_iload F dL_act_439 rfl ?_
      refine r_iadd F dL_act_441 ?_
      refine ia_21_t F ⟨by omega, by omega⟩ dL_act_442 hs (by omega) (by omega) (by omega) ?_
      refine r_istore (lv1 := [_, _, _, _, _, _, _, _, _, _, _]) F dL_act_443 (by decide) rfl rfl ?_
      refine r_aload F dL_act_445 rfl ?_
      refine r_iconst F dL_act_447 ?_
      refine r_iload F dL_act_448 rfl ?_
      refine r_iadd F dL_act_450 ?_
      refine r_iload_n (i := 2) F dL_act_451 rfl rfl ?_
      refine r_bipush F dL_act_452 (by decide) ?_
      refine r_shr F dL_act_454 ?_
      refine r_bipush F dL_act_455 (by decide) ?_
      refine r_callS F (C_L_below ⟨by omega, by omega⟩) dL_act_457 lks_L_9 rfl rfl cd_L_below (by decide) ⟨by show _ ≤ 3; omega, by show _ ≤ 24; omega⟩ (Nat.le_of_ble_eq_true rfl) ?_
      obtain ⟨y8, hy8, ey8⟩ : ∃ z : Int, (0 ≤ z ∧ z < 8) ∧ blw (i32 (shr x 10)) 8 = z := ⟨_, blw_bd _ (by decide), rfl⟩
      rw [ey8]
      refine is_21_t F ⟨by omega, by omega⟩ dL_act_460 hs (by omega) (by omega) (by omega) ?_
      refine r_aload_n (i := 0) F dL_act_461 rfl rfl ?_
      refine r_iload_n (i := 2) F dL_act_462 rfl rfl ?_
      refine r_iconst F dL_act_463 ?_
      refine r_shr F dL_act_464 ?_
      refine r_iload F dL_act_465 rfl ?_
      refine r_callS F (C_L_below ⟨by omega, by omega⟩) dL_act_467 lks_L_9 rfl rfl cd_L_below (by decide) ⟨by show _ ≤ 3; omega, by show _ ≤ 24; omega⟩ (Nat.le_of_ble_eq_true rfl) ?_
      rw [ey]
      refine r_iload F dL_act_470 rfl ?_
      refine r_aload F dL_act_472 rfl ?_
      refine r_iconst F dL_act_474 ?_
      refine r_iload F dL_act_475 rfl ?_
      refine r_iadd F dL_act_477 ?_
      refine ia_21_t F ⟨by omega, by omega⟩ dL_act_478 hs (by omega) (by omega) (by omega) ?_
      rw [u2_at]
      refine V.cast (mm_set2 S T S (u2 S 5 (10 * y + y7) y8) M) ?_
      refine r_callV F (Ct.mm0 (a := S) (C_X4_setShow hI (ir_of (by omega) (by omega)) (ir_of (by omega) (by omega)) (ir_of (by omega) (by omega)) (by unfold cSetShow; rw [if_neg (by omega), if_neg (by omega), if_neg (by omega)]))) dL_act_479 lkv_L_55 rfl rfl rfl rfl rfl cd_X4_setShow (by decide) ⟨by show _ ≤ 3; omega, by show _ ≤ 24; omega⟩ (Nat.le_of_ble_eq_true rfl) ?_
      refine r_iload F dL_act_482 rfl ?_
      refine r_cne (tgt := 491) F dL_act_484 (by decide) rfl ?_
      refine r_iconst F dL_act_487 ?_
      refine r_goto (tgt := 492) F dL_act_488 (by decide) ?_
      refine V.wide (kc1 := 3) (ks1 := 24) (by omega) (by omega) ?_
      exact r_zretG F dL_act_492 rfl (b := true) (by rfl) ⟨rfl, (fun _ _ _ _ => rfl), hz, _, M, rfl, (ok_setShow hOK4 hy hy7 ⟨by omega, by omega⟩), (hsh9.same rfl rfl rfl), ⟨Int.le_refl _, Int.le_refl _, Int.le_refl _⟩⟩
    · refine r_iconst F dL_act_408 ?_
      refine V.cast ((mm_set2 S T S S M)) ?_
      refine V.wide (kc1 := 3) (ks1 := 24) (by omega) (by omega) ?_
      exact r_zretG F dL_act_409 rfl (b := true) (by rfl) ⟨rfl, (fun _ _ _ _ => rfl), hz, S, M, rfl, hOK4, hsh9, ⟨Int.le_refl _, Int.le_refl _, Int.le_refl _⟩⟩
  have k10 : V p l e (RG 8 3 24) s m ([.ref (ad 0 0 0), .ref (ad 13 2 0), .int (i32 x)] : List Value).toArray below meth c 11 cy D ad (Aw ad s.heap.size) 0 0 (MQ below (Qa cy D ad s.heap.size (ActP ad S T h)) ([.ref (ad 0 0 0), .ref (ad 13 2 0), .int (i32 x)] : List Value).toArray s 3 24 (Aw ad s.heap.size)) 718 [some (.ref (ad 0 0 0)), some (.ref (ad 13 2 0)), some (.int (i32 x)), some (.int (i32 q)), some (.int (i32 (S 20 1))), some (.int (i32 (S 20 3))), none, none, none, none, none] [] (setc (mm S T S M) 2 S) := by
    have j : ∀ y z to9 : Int, (0 ≤ y ∧ y < S 20 3) → (-1 ≤ to9 ∧ to9 ≤ 15) → z = (if to9 = -1 then 1 else 0) → S 18 y = 0 → blw (i32 (shr x 8)) (S 20 3) = y → V p l e (RG 8 3 24) s m ([.ref (ad 0 0 0), .ref (ad 13 2 0), .int (i32 x)] : List Value).toArray below meth c 11 cy D ad (Aw ad s.heap.size) 0 0 (MQ below (Qa cy D ad s.heap.size (ActP ad S T h)) ([.ref (ad 0 0 0), .ref (ad 13 2 0), .int (i32 x)] : List Value).toArray s 3 24 (Aw ad s.heap.size)) 799 [some (.ref (ad 0 0 0)), some (.ref (ad 13 2 0)), some (.int (i32 x)), some (.int (i32 q)), some (.int (i32 (S 20 1))), some (.int (i32 (S 20 3))), some (.ref (ad 23 2 y)), some (.int (i32 to9)), some (.int (i32 (S 15 y))), none, none] [.int (i32 z), .int (i32 6), .ref (ad 23 2 y)] (setc (mm S T S M) 2 (u2 (u2 S 15 y to9) 16 y 0)) := by
      intro y z to9 hy ht hz9 h18 ey
      refine is_23_6 F dL_act_799 hs (by omega) (by omega) (by omega) ?_
      refine r_aload_n (i := 0) F dL_act_800 rfl rfl ?_
      refine r_iload_n (i := 2) F dL_act_801 rfl rfl ?_
      refine r_bipush F dL_act_802 (by decide) ?_
      refine r_shr F dL_act_804 ?_
      refine r_iload F dL_act_805 rfl ?_
      refine r_callS F (C_L_below ⟨by omega, by omega⟩) dL_act_807 lks_L_9 rfl rfl cd_L_below (by decide) ⟨by show _ ≤ 3; omega, by show _ ≤ 24; omega⟩ (Nat.le_of_ble_eq_true rfl) ?_
      rw [ey]
      refine r_iload F dL_act_810 rfl ?_
      rw [hz9, u2_comm (u2 S 15 y to9) (k := 16) (k2 := 17) (Or.inl (by decide))]
      refine V.cast (mm_set2 S T S (sendS S y to9) M) ?_
      refine r_callV F (Ct.mm0 (a := S) (C_X4_send (x := y) (q := to9) hI (ir_of (by omega) (by omega)) (ir_of (by omega) (by omega)) (by unfold cSend; rw [if_neg (by omega), if_neg (by omega), if_neg (by omega)]))) dL_act_812 lkv_L_73 rfl rfl rfl rfl rfl cd_X4_send (by decide) ⟨by show _ ≤ 3; omega, by show _ ≤ 24; omega⟩ (Nat.le_of_ble_eq_true rfl) ?_
      refine r_iload F dL_act_815 rfl ?_
      refine r_cne (tgt := 824) F dL_act_817 (by decide) rfl ?_
      refine r_iconst F dL_act_820 ?_
      refine r_goto (tgt := 825) F dL_act_821 (by decide) ?_
      refine V.wide (kc1 := 3) (ks1 := 24) (by omega) (by omega) ?_
      exact r_zretG F dL_act_825 rfl (b := true) (by rfl) ⟨rfl, (fun _ _ _ _ => rfl), hz, _, M, rfl, (ok_send hOK4 hy.2 ht), (hsh9.same rfl rfl rfl), ⟨Int.le_refl _, Int.le_refl _, Int.le_refl _⟩⟩
    refine r_iload F dL_act_718 rfl ?_
    refine r_if_ne (tgt := 725) F dL_act_720 (by decide) (by first | assumption | exact ir_of (by omega) (by omega)) (fun h720 => ?_) (fun h720 => ?_)
    · refine r_aload_n (i := 1) F dL_act_725 rfl rfl ?_
      refine gf_L_21 F dL_act_726 hs ?_
      refine r_iload_n (i := 2) F dL_act_729 rfl rfl ?_
      refine r_bipush F dL_act_730 (by decide) ?_
      refine r_shr F dL_act_732 ?_
      refine r_iload F dL_act_733 rfl ?_
      refine r_callS F (C_L_below ⟨by omega, by omega⟩) dL_act_735 lks_L_9 rfl rfl cd_L_below (by decide) ⟨by show _ ≤ 3; omega, by show _ ≤ 24; omega⟩ (Nat.le_of_ble_eq_true rfl) ?_
      obtain ⟨y, hy, ey⟩ : ∃ z : Int, (0 ≤ z ∧ z < (S 20 3)) ∧ blw (i32 (shr x 8)) (S 20 3) = z := ⟨_, blw_bd _ (by omega), rfl⟩
      rw [ey]
      refine aa_20 F dL_act_738 hs (by omega) (by omega) (by omega) ?_
      refine r_astore (lv1 := [_, _, _, _, _, _, _, _, _, _, _]) F dL_act_739 (by decide) rfl rfl ?_
      refine r_iload_n (i := 2) F dL_act_741 rfl rfl ?_
      refine r_bipush F dL_act_742 (by decide) ?_
      refine r_shr F dL_act_744 ?_
      refine r_iconst F dL_act_745 ?_
      refine r_callS F (C_L_below ⟨by omega, by omega⟩) dL_act_746 lks_L_9 rfl rfl cd_L_below (by decide) ⟨by show _ ≤ 3; omega, by show _ ≤ 24; omega⟩ (Nat.le_of_ble_eq_true rfl) ?_
      obtain ⟨y4, hy4, ey4⟩ : ∃ z : Int, (0 ≤ z ∧ z < 4) ∧ blw (i32 (shr x 11)) 4 = z := ⟨_, blw_bd _ (by decide), rfl⟩
      rw [ey4]
      have b18 := hI.p18 y
      have f0 := fm_0 (a := S 18 y) (by omega)
      have f1 := fm_bd (a := S 18 y) (by omega)
      have b15 := hI.p15 y
      refine r_if_ne (tgt := 756) F dL_act_749 (by decide) (by first | assumption | exact ir_of (by omega) (by omega)) (fun h749 => ?_) (fun h749 => ?_)
      · refine r_iload_n (i := 3) F dL_act_756 rfl rfl ?_
        refine r_istore (lv1 := [_, _, _, _, _, _, _, _, _, _, _]) F dL_act_757 (by decide) rfl rfl ?_
        refine r_aload F dL_act_759 rfl ?_
        refine r_iconst F dL_act_761 ?_
        refine ia_23_2 F dL_act_762 hs (by omega) (by omega) (by omega) ?_
        refine r_istore (lv1 := [_, _, _, _, _, _, _, _, _, _, _]) F dL_act_763 (by decide) rfl rfl ?_
        refine r_aload F dL_act_765 rfl ?_
        refine r_iconst F dL_act_767 ?_
        refine ia_23_3 F dL_act_768 hs (by omega) (by omega) (by omega) ?_
        refine r_if_le (tgt := 774) F dL_act_769 (by decide) (by first | assumption | exact ir_of (by omega) (by omega)) (fun h769 => ?_) (fun h769 => ?_)
        · refine r_aload F dL_act_774 rfl ?_
          refine r_iconst F dL_act_776 ?_
          refine r_iload F dL_act_777 rfl ?_
          refine is_23_2 F dL_act_779 hs (by omega) (by omega) (by omega) ?_
          refine r_aload F dL_act_780 rfl ?_
          refine r_iconst F dL_act_782 ?_
          refine r_iconst F dL_act_783 ?_
          refine is_23_5 F dL_act_784 hs (by omega) (by omega) (by omega) ?_
          refine r_aload F dL_act_785 rfl ?_
          refine r_bipush F dL_act_787 (by decide) ?_
          refine r_iload F dL_act_789 rfl ?_
          refine r_if_ge (tgt := 798) F dL_act_791 (by decide) (by first | assumption | exact ir_of (by omega) (by omega)) (fun h791 => ?_) (fun h791 => ?_)
          · refine r_iconst F dL_act_798 ?_
            exact j y _ _ hy ⟨by omega, by omega⟩ (by first | (rw [if_pos (by omega)]; done) | (rw [if_neg (by omega)]; done)) (by omega) ey
          · refine r_iconst F dL_act_794 ?_
            refine r_goto (tgt := 799) F dL_act_795 (by decide) ?_
            exact j y _ _ hy ⟨by omega, by omega⟩ (by first | (rw [if_pos (by omega)]; done) | (rw [if_neg (by omega)]; done)) (by omega) ey
        · refine r_iconst F dL_act_772 ?_
          refine V.cast ((mm_set2 S T S S M)) ?_
          refine V.wide (kc1 := 3) (ks1 := 24) (by omega) (by omega) ?_
          exact r_zretG F dL_act_773 rfl (b := true) (by rfl) ⟨rfl, (fun _ _ _ _ => rfl), hz, S, M, rfl, hOK4, hsh9, ⟨Int.le_refl _, Int.le_refl _, Int.le_refl _⟩⟩
      · refine r_iconst F dL_act_752 ?_
        refine r_goto (tgt := 757) F dL_act_753 (by decide) ?_
        refine r_istore (lv1 := [_, _, _, _, _, _, _, _, _, _, _]) F dL_act_757 (by decide) rfl rfl ?_
        refine r_aload F dL_act_759 rfl ?_
        refine r_iconst F dL_act_761 ?_
        refine ia_23_2 F dL_act_762 hs (by omega) (by omega) (by omega) ?_
        refine r_istore (lv1 := [_, _, _, _, _, _, _, _, _, _, _]) F dL_act_763 (by decide) rfl rfl ?_
        refine r_aload F dL_act_765 rfl ?_
        refine r_iconst F dL_act_767 ?_
        refine ia_23_3 F dL_act_768 hs (by omega) (by omega) (by omega) ?_
        refine r_if_le (tgt := 774) F dL_act_769 (by decide) (by first | assumption | exact ir_of (by omega) (by omega)) (fun h769 => ?_) (fun h769 => ?_)
        · refine r_aload F dL_act_774 rfl ?_
          refine r_iconst F dL_act_776 ?_
          refine r_iload F dL_act_777 rfl ?_
          refine is_23_2 F dL_act_779 hs (by omega) (by omega) (by omega) ?_
          refine r_aload F dL_act_780 rfl ?_
          refine r_iconst F dL_act_782 ?_
          refine r_iconst F dL_act_783 ?_
          refine is_23_5 F dL_act_784 hs (by omega) (by omega) (by omega) ?_
          refine r_aload F dL_act_785 rfl ?_
          refine r_bipush F dL_act_787 (by decide) ?_
          refine r_iload F dL_act_789 rfl ?_
          refine r_if_ge (tgt := 798) F dL_act_791 (by decide) (by first | assumption | exact ir_of (by omega) (by omega)) (fun h791 => ?_) (fun h791 => ?_)
          · refine r_iconst F dL_act_798 ?_
            exact j y _ _ hy ⟨by omega, by omega⟩ (by first | (rw [if_pos (by omega)]; done) | (rw [if_neg (by omega)]; done)) (by omega) ey
          · refine r_iconst F dL_act_794 ?_
            refine r_goto (tgt := 799) F dL_act_795 (by decide) ?_
            exact j y _ _ hy ⟨by omega, by omega⟩ (by first | (rw [if_pos (by omega)]; done) | (rw [if_neg (by omega)]; done)) (by omega) ey
        · refine r_iconst F dL_act_772 ?_
          refine V.cast ((mm_set2 S T S S M)) ?_
          refine V.wide (kc1 := 3) (ks1 := 24) (by omega) (by omega) ?_
          exact r_zretG F dL_act_773 rfl (b := true) (by rfl) ⟨rfl, (fun _ _ _ _ => rfl), hz, S, M, rfl, hOK4, hsh9, ⟨Int.le_refl _, Int.le_refl _, Int.le_refl _⟩⟩
    · refine r_iconst F dL_act_723 ?_
      refine V.cast ((mm_set2 S T S S M)) ?_
      refine V.wide (kc1 := 3) (ks1 := 24) (by omega) (by omega) ?_
      exact r_zretG F dL_act_724 rfl (b := true) (by rfl) ⟨rfl, (fun _ _ _ _ => rfl), hz, S, M, rfl, hOK4, hsh9, ⟨Int.le_refl _, Int.le_refl _, Int.le_refl _⟩⟩
  have k11 : V p l e (RG 8 3 24) s m ([.ref (ad 0 0 0), .ref (ad 13 2 0), .int (i32 x)] : List Value).toArray below meth c 11 cy D ad (Aw ad s.heap.size) 0 0 (MQ below (Qa cy D ad s.heap.size (ActP ad S T h)) ([.ref (ad 0 0 0), .ref (ad 13 2 0), .int (i32 x)] : List Value).toArray s 3 24 (Aw ad s.heap.size)) 826 [some (.ref (ad 0 0 0)), some (.ref (ad 13 2 0)), some (.int (i32 x)), some (.int (i32 q)), some (.int (i32 (S 20 1))), some (.int (i32 (S 20 3))), none, none, none, none, none] [] (setc (mm S T S M) 2 S) := by
    have b01 := hI.p01 q
    refine r_aload_n (i := 1) F dL_act_826 rfl rfl ?_
    refine gf_L_24 F dL_act_827 hs ?_
    refine r_iload_n (i := 3) F dL_act_830 rfl rfl ?_
    refine ia_15 F dL_act_831 hs (by omega) (by omega) ?_
    refine r_if_ne (tgt := 837) F dL_act_832 (by decide) (by first | assumption | exact ir_of (by omega) (by omega)) (fun h832 => ?_) (fun h832 => ?_)
    · refine r_iconst F dL_act_837 ?_
      refine r_iload_n (i := 2) F dL_act_838 rfl rfl ?_
      refine r_bipush F dL_act_839 (by decide) ?_
      refine r_shr F dL_act_841 ?_
      refine r_aload_n (i := 1) F dL_act_842 rfl rfl ?_
      refine gf_L_24 F dL_act_843 hs ?_
      refine r_iload_n (i := 3) F dL_act_846 rfl rfl ?_
      refine ia_15 F dL_act_847 hs (by omega) (by omega) ?_
      refine r_callS F (C_L_below ⟨by omega, by omega⟩) dL_act_848 lks_L_9 rfl rfl cd_L_below (by decide) ⟨by show _ ≤ 3; omega, by show _ ≤ 24; omega⟩ (Nat.le_of_ble_eq_true rfl) ?_
      obtain ⟨y, hy, ey⟩ : ∃ z : Int, (0 ≤ z ∧ z < (S 1 q)) ∧ blw (i32 (shr x 8)) (S 1 q) = z := ⟨_, blw_bd _ (by omega), rfl⟩
      rw [ey]
      refine r_iadd F dL_act_851 ?_
      refine r_istore (lv1 := [_, _, _, _, _, _, _, _, _, _, _]) F dL_act_852 (by decide) rfl rfl ?_
      refine r_aload_n (i := 1) F dL_act_854 rfl rfl ?_
      refine gf_L_24 F dL_act_855 hs ?_
      refine r_iload_n (i := 3) F dL_act_858 rfl rfl ?_
      refine r_dup2 F dL_act_859 rfl rfl ?_
      refine ia_15 F dL_act_860 hs (by omega) (by omega) ?_
      refine r_iload F dL_act_861 rfl ?_
      refine r_isub F dL_act_863 ?_
      refine is_15 F dL_act_864 hs (by omega) (by omega) ?_
      refine r_aload_n (i := 1) F dL_act_865 rfl rfl ?_
      refine r_dup F dL_act_866 rfl ?_
      refine gf_L_76 F dL_act_867 hs ?_
      refine r_iload F dL_act_870 rfl ?_
      refine r_iadd F dL_act_872 ?_
      refine pf_L_76 F dL_act_873 hs ?_
      refine r_aload_n (i := 0) F dL_act_876 rfl rfl ?_
      refine r_iload_n (i := 3) F dL_act_877 rfl rfl ?_
      refine r_iload F dL_act_878 rfl ?_
      refine V.cast (mm_set2 S T S (sCarry S q (1 + y)) M) ?_
      refine r_callV F (Ct.mm0 (a := S) (C_X4_carry (x := q) (q := 1 + y) hI (ir_of (by omega) (by omega)) (ir_of (by omega) (by omega)) (by unfold cCarry; rw [if_neg (by omega), if_neg (by omega), if_neg (by omega)]))) dL_act_880 lkv_L_80 rfl rfl rfl rfl rfl cd_X4_carry (by decide) ⟨by show _ ≤ 3; omega, by show _ ≤ 24; omega⟩ (Nat.le_of_ble_eq_true rfl) ?_
      refine V.cast (mm_self2 (sCarry S q (1 + y)) T (sCarry S q (1 + y)) M) ?_
      refine r_aload_n (i := 1) F dL_act_883 rfl rfl ?_
      refine gf_L_24 F dL_act_884 hs ?_
      refine r_iload_n (i := 3) F dL_act_887 rfl rfl ?_
      refine ia_15 F dL_act_888 hs (by omega) (by omega) ?_
      refine r_cne (tgt := 896) F dL_act_889 (by decide) (by unfold sCarry; rw [u2_k (by decide), u2_at]) ?_
      refine r_iconst F dL_act_892 ?_
      refine r_goto (tgt := 897) F dL_act_893 (by decide) ?_
      refine V.cast ((mm_set2 _ T _ _ M)) ?_
      refine V.wide (kc1 := 3) (ks1 := 24) (by omega) (by omega) ?_
      exact r_zretG F dL_act_897 rfl (b := true) (by rfl) ⟨rfl, (fun _ _ _ _ => rfl), hz, (sCarry S q (1 + y)), M, rfl, (ok_carry hOK4 ⟨by omega, by omega⟩ ⟨by omega, by omega⟩), (hsh9.same rfl rfl rfl), ⟨Int.le_refl _, Int.le_refl _, Int.le_refl _⟩⟩
    · refine r_iconst F dL_act_835 ?_
      refine V.cast ((mm_set2 S T S S M)) ?_
      refine V.wide (kc1 := 3) (ks1 := 24) (by omega) (by omega) ?_
      exact r_zretG F dL_act_836 rfl (b := true) (by rfl) ⟨rfl, (fun _ _ _ _ => rfl), hz, S, M, rfl, hOK4, hsh9, ⟨Int.le_refl _, Int.le_refl _, Int.le_refl _⟩⟩
  have kd : V p l e (RG 8 3 24) s m ([.ref (ad 0 0 0), .ref (ad 13 2 0), .int (i32 x)] : List Value).toArray below meth c 11 cy D ad (Aw ad s.heap.size) 0 0 (MQ below (Qa cy D ad s.heap.size (ActP ad S T h)) ([.ref (ad 0 0 0), .ref (ad 13 2 0), .int (i32 x)] : List Value).toArray s 3 24 (Aw ad s.heap.size)) 898 [some (.ref (ad 0 0 0)), some (.ref (ad 13 2 0)), some (.int (i32 x)), some (.int (i32 q)), some (.int (i32 (S 20 1))), some (.int (i32 (S 20 3))), none, none, none, none, none] [] (setc (mm S T S M) 2 S) := by
    have jl : ∀ hs9 : Int, (1 ≤ hs9 ∧ hs9 ≤ 40) → ∀ (n : Nat) (i : Int), 0 ≤ i → i + (n : Int) = hs9 → V p l e (RG 8 3 24) s m ([.ref (ad 0 0 0), .ref (ad 13 2 0), .int (i32 x)] : List Value).toArray below meth c 11 cy D ad (Aw ad s.heap.size) 0 0 (MQ below (Qa cy D ad s.heap.size (ActP ad S T h)) ([.ref (ad 0 0 0), .ref (ad 13 2 0), .int (i32 x)] : List Value).toArray s 3 24 (Aw ad s.heap.size)) 931 [some (.ref (ad 0 0 0)), some (.ref (ad 13 2 0)), some (.int (i32 x)), some (.int (i32 q)), some (.int (i32 (S 20 1))), some (.int (i32 (S 20 3))), some (.int (i32 hs9)), some (.int (i32 (goS S i.toNat))), some (.int (i32 i)), none, none] [] (setc (mm S T S M) 2 (goN S i.toNat)) := by
      intro hs9 hh9 n
      induction n with
      | zero =>
        intro i h0 h1
        refine r_iload F dL_act_931 rfl ?_
        refine r_iload F dL_act_933 rfl ?_
        refine r_icmp_ge (tgt := 953) F dL_act_935 (by decide) (by first | assumption | exact ir_of (by omega) (by omega)) (by first | assumption | exact ir_of (by omega) (by omega)) (fun h935 => ?_) (fun h935 => ?_)
        · refine r_aload_n (i := 0) F dL_act_953 rfl rfl ?_
          refine r_iload F dL_act_954 rfl ?_
          obtain rfl : i = hs9 := by omega
          refine V.cast (mm_set2 S T S (goN S i.toNat) M) ?_
          refine r_callV F (Ct.mm0 (a := S) (C_X4_pass (x := i) hI hhc (ir_of (by omega) (by omega)) (by unfold cRng1; rw [if_neg (by omega)]))) dL_act_956 lkv_L_87 rfl rfl rfl rfl rfl cd_X4_pass (by decide) ⟨by show _ ≤ 3; omega, by show _ ≤ 24; omega⟩ (Nat.le_of_ble_eq_true rfl) ?_
          refine r_iload F dL_act_959 rfl ?_
          refine r_cne (tgt := 968) F dL_act_961 (by decide) rfl ?_
          refine r_iconst F dL_act_964 ?_
          refine r_goto (tgt := 969) F dL_act_965 (by decide) ?_
          have e1 := goN_cnt (S := S) i.toNat
          refine V.wide (kc1 := 3) (ks1 := 24) (by omega) (by omega) ?_
          exact r_zretG F dL_act_969 rfl (b := true) (by rfl) ⟨rfl, (fun _ _ _ _ => rfl), hz, (goN S i.toNat), M, rfl, ((ok_go hOK i.toNat).le (by omega)), (hsh9.same e1.1 e1.2.1 e1.2.2), (by rw [e1.1, e1.2.1, e1.2.2]; exact ⟨Int.le_refl _, Int.le_refl _, Int.le_refl _⟩)⟩
        · exfalso; omega
      | succ n ih =>
        intro i h0 h1
        have e1 := goN_cnt (S := S) i.toNat
        have e0 := goN_hour S i.toNat
        refine r_iload F dL_act_931 rfl ?_
        refine r_iload F dL_act_933 rfl ?_
        refine r_icmp_ge (tgt := 953) F dL_act_935 (by decide) (by first | assumption | exact ir_of (by omega) (by omega)) (by first | assumption | exact ir_of (by omega) (by omega)) (fun h935 => ?_) (fun h935 => ?_)
        · exfalso; omega
        · refine r_iload F dL_act_938 rfl ?_
          refine r_aload_n (i := 1) F dL_act_940 rfl rfl ?_
          refine r_callV F (C_X5_go (hsh9.same e1.1 e1.2.1 e1.2.2) ⟨by omega, by omega⟩ (goN_inv hI _)) dL_act_941 lkv_L_83 rfl rfl (dm13 hs) rfl rfl cd_X5_go (by decide) ⟨by show _ ≤ 3; omega, by show _ ≤ 24; omega⟩ (Nat.le_of_ble_eq_true rfl) ?_
          refine r_iadd F dL_act_944 ?_
          refine r_istore (lv1 := [_, _, _, _, _, _, _, _, _, _, _]) F dL_act_945 (by decide) rfl rfl ?_
          refine r_iinc (lv1 := [_, _, _, _, _, _, _, _, _, _, _]) F dL_act_947 rfl (by decide) rfl rfl ?_
          refine r_goto (tgt := 931) F dL_act_950 (by decide) ?_
          have t := ih (i + 1) (by omega) (by omega)
          rw [goS_S S h0, goN_S S h0] at t
          exact t
    refine r_iconst F dL_act_898 ?_
    refine r_iload_n (i := 2) F dL_act_899 rfl rfl ?_
    refine r_iconst F dL_act_900 ?_
    refine r_shr F dL_act_901 ?_
    refine r_iload_n (i := 2) F dL_act_902 rfl rfl ?_
    refine r_bipush F dL_act_903 (by decide) ?_
    refine r_shr F dL_act_905 ?_
    refine r_iconst F dL_act_906 ?_
    refine r_callS F (C_L_below ⟨by omega, by omega⟩) dL_act_907 lks_L_9 rfl rfl cd_L_below (by decide) ⟨by show _ ≤ 3; omega, by show _ ≤ 24; omega⟩ (Nat.le_of_ble_eq_true rfl) ?_
    obtain ⟨y5, hy5, ey5⟩ : ∃ z : Int, (0 ≤ z ∧ z < 5) ∧ blw (i32 (shr x 9)) 5 = z := ⟨_, blw_bd _ (by decide), rfl⟩
    rw [ey5]
    refine r_if_ne (tgt := 918) F dL_act_910 (by decide) (by first | assumption | exact ir_of (by omega) (by omega)) (fun h910 => ?_) (fun h910 => ?_)
    · refine r_iconst F dL_act_918 ?_
      refine r_callS F (C_L_below ⟨by omega, by omega⟩) dL_act_919 lks_L_9 rfl rfl cd_L_below (by decide) ⟨by show _ ≤ 3; omega, by show _ ≤ 24; omega⟩ (Nat.le_of_ble_eq_true rfl) ?_
      first | (have b9 := blw_bd (i32 (shr x 5)) (n := 40) (by decide); have b8 : 0 ≤ blw (i32 (shr x 5)) 40 ∧ blw (i32 (shr x 5)) 40 < 40 := b9; skip) | skip
      have b10 := blw_bd (i32 (shr x 5)) (n := 5) (by decide)
      refine r_iadd F dL_act_922 ?_
      refine r_istore (lv1 := [_, _, _, _, _, _, _, _, _, _, _]) F dL_act_923 (by decide) rfl rfl ?_
      refine r_iconst F dL_act_925 ?_
      refine r_istore (lv1 := [_, _, _, _, _, _, _, _, _, _, _]) F dL_act_926 (by decide) rfl rfl ?_
      refine r_iconst F dL_act_928 ?_
      refine r_istore (lv1 := [_, _, _, _, _, _, _, _, _, _, _]) F dL_act_929 (by decide) rfl rfl ?_
      first | exact jl (1 + blw (i32 (shr x 5)) 40) ⟨by omega, by omega⟩ (1 + blw (i32 (shr x 5)) 40).toNat 0 (by decide) (by omega) | exact jl (1 + blw (i32 (shr x 5)) 5) ⟨by omega, by omega⟩ (1 + blw (i32 (shr x 5)) 5).toNat 0 (by decide) (by omega)
    · refine r_bipush F dL_act_913 (by decide) ?_
      refine r_goto (tgt := 919) F dL_act_915 (by decide) ?_
      refine r_callS F (C_L_below ⟨by omega, by omega⟩) dL_act_919 lks_L_9 rfl rfl cd_L_below (by decide) ⟨by show _ ≤ 3; omega, by show _ ≤ 24; omega⟩ (Nat.le_of_ble_eq_true rfl) ?_
      first | (have b9 := blw_bd (i32 (shr x 5)) (n := 40) (by decide); have b8 : 0 ≤ blw (i32 (shr x 5)) 40 ∧ blw (i32 (shr x 5)) 40 < 40 := b9; skip) | skip
      have b10 := blw_bd (i32 (shr x 5)) (n := 5) (by decide)
      refine r_iadd F dL_act_922 ?_
      refine r_istore (lv1 := [_, _, _, _, _, _, _, _, _, _, _]) F dL_act_923 (by decide) rfl rfl ?_
      refine r_iconst F dL_act_925 ?_
      refine r_istore (lv1 := [_, _, _, _, _, _, _, _, _, _, _]) F dL_act_926 (by decide) rfl rfl ?_
      refine r_iconst F dL_act_928 ?_
      refine r_istore (lv1 := [_, _, _, _, _, _, _, _, _, _, _]) F dL_act_929 (by decide) rfl rfl ?_
      first | exact jl (1 + blw (i32 (shr x 5)) 40) ⟨by omega, by omega⟩ (1 + blw (i32 (shr x 5)) 40).toNat 0 (by decide) (by omega) | exact jl (1 + blw (i32 (shr x 5)) 5) ⟨by omega, by omega⟩ (1 + blw (i32 (shr x 5)) 5).toNat 0 (by decide) (by omega)
  have hD := hOK.2.1
  have k7b : ∀ to9 y4 : Int, q ≤ to9 → to9 ≤ 15 → (0 ≤ y4 ∧ y4 < 4) → S 20 2 ≠ 4 → ∀ ad0 : Nat → Nat → Int → Nat, Gh 1 ad ad0 → Fx p s m ([.ref (ad 0 0 0), .ref (ad 13 2 0), .int (i32 x)] : List Value).toArray meth c yL_act.cls cL_act 11 (some FieldType.boolean) cy D ad0 (Aw ad s.heap.size) → V p l e (RG 8 3 24) s m ([.ref (ad 0 0 0), .ref (ad 13 2 0), .int (i32 x)] : List Value).toArray below meth c 11 cy D ad0 (Aw ad s.heap.size) 0 0 (MQ below (Qa cy D ad s.heap.size (ActP ad S T h)) ([.ref (ad 0 0 0), .ref (ad 13 2 0), .int (i32 x)] : List Value).toArray s 3 24 (Aw ad s.heap.size)) 543 [some (.ref (ad0 0 0 0)), some (.ref (ad0 13 2 0)), some (.int (i32 x)), some (.int (i32 q)), some (.int (i32 (S 20 1))), some (.int (i32 (S 20 3))), some (.int (i32 to9)), some (.int (i32 y4)), none, none, none] [] (setc (mm S T S M) 2 S) := by
    intro to9 y4 hto1 hto2 hy4 hw4 ad0 G0 F
    have hz0 := G0.cl hz
    have hz031 := hz0 31 (by decide) (by decide)
    have hz032 := hz0 32 (by decide) (by decide)
    have hs00 : ad0 40 13 0 = 1 := (G0.2 40 13 0 (by decide)).trans hs
    have hs := hs00
    have hn10 : (ad0 41 18 0 : Int) = S 20 1 := by rw [G0.2 41 18 0 (by decide)]; exact hn1
    have hn20 : (ad0 41 19 0 : Int) = S 20 2 := by rw [G0.2 41 19 0 (by decide)]; exact hn2
    have hn30 : (ad0 41 20 0 : Int) = S 20 3 := by rw [G0.2 41 20 0 (by decide)]; exact hn3
    have hnn : (((S 20 2).toNat : Nat) : Int) = S 20 2 := Int.toNat_of_nonneg (by omega)
    refine r_aload_n (i := 1) F dL_act_543 rfl rfl ?_
    refine r_aload_n (i := 1) F dL_act_544 rfl rfl ?_
    refine gf_L_64 F dL_act_545 hs ?_
    refine r_bipush F dL_act_548 (by decide) ?_
    refine V.cast (j_self (mm S T S M) S) ?_
    refine j_newa F 31 (by decide) hz031 hz032 6 dL_act_550 rfl (by decide) ⟨by show _ ≤ 3; omega, by show _ ≤ 24; omega⟩ (fun ad1 E1 F => ?_)
    have hs31 := E1.1
    have hl31 : (ad1 41 31 0 : Int) = 6 := by rw [E1.2.1]; rfl
    refine V.cg (st1 := [.ref (ad1 31 2 0), .ref (ad1 19 2 0), .ref (ad1 13 2 0)]) rfl (by rw [show ad1 19 2 0 = ad0 19 2 0 from E1.lo (by decide) (by decide), show ad1 13 2 0 = ad0 13 2 0 from E1.lo (by decide) (by decide)] <;> rfl) ?_
    have hs1 : ad1 40 13 0 = 1 := (E1.fl (by decide) (Or.inl rfl) (by decide)).trans hs
    have hz132 : ad1 40 32 0 ≠ 1 := by rw [E1.fl (by decide) (Or.inl rfl) (by decide)]; exact hz032
    have hgh1 : ad1 42 0 0 = 1 := (E1.2.2 42 0 0 (by decide) (by decide) (by decide)).trans G0.1
    have hnk1 : ad1 41 19 0 = (S 20 2).toNat := by rw [E1.fl (by decide) (Or.inr rfl) (by decide)]; omega
    refine r_dup F dL_act_552 rfl ?_
    refine r_iconst F dL_act_553 ?_
    refine r_iload_n (i := 3) F dL_act_554 rfl rfl ?_
    refine js_31 F dL_act_555 hs31 (by omega) (by omega) (by omega) ?_
    refine r_dup F dL_act_556 rfl ?_
    refine r_iconst F dL_act_557 ?_
    refine r_iload F dL_act_558 rfl ?_
    refine js_31 F dL_act_560 hs31 (by omega) (by omega) (by omega) ?_
    refine r_dup F dL_act_561 rfl ?_
    refine r_iconst F dL_act_562 ?_
    refine r_iload F dL_act_563 rfl ?_
    refine js_31 F dL_act_565 hs31 (by omega) (by omega) (by omega) ?_
    refine r_dup F dL_act_566 rfl ?_
    refine r_iconst F dL_act_567 ?_
    refine r_iload_n (i := 3) F dL_act_568 rfl rfl ?_
    refine js_31 F dL_act_569 hs31 (by omega) (by omega) (by omega) ?_
    refine r_dup F dL_act_570 rfl ?_
    refine r_iconst F dL_act_571 ?_
    refine r_iconst F dL_act_572 ?_
    refine js_31 F dL_act_573 hs31 (by omega) (by omega) (by omega) ?_
    refine r_dup F dL_act_574 rfl ?_
    refine r_iconst F dL_act_575 ?_
    refine r_iconst F dL_act_576 ?_
    refine js_31 F dL_act_577 hs31 (by omega) (by omega) (by omega) ?_
    refine r_callSG F (C_X5_with1 (n := (S 20 2).toNat) hs1 hs31 hz132 hgh1 hnk1 (by omega)) (fun sz => E0_blind sz) (fun _ _ _ _ _ _ => trivial) dL_act_578 lks_L_45 rfl rfl cd_X5_with (by decide) ⟨by show _ ≤ 3; omega, by show _ ≤ 24; omega⟩ (Nat.le_of_ble_eq_true rfl) (fun r9 ad2 M9 hP9 F => ?_)
    obtain ⟨rfl, E2, rfl⟩ := hP9
    refine V.cg (st1 := [.ref (ad2 32 2 0), .ref (ad2 13 2 0)]) rfl (by rw [show ad2 13 2 0 = ad1 13 2 0 from E2.lo (by decide) (by decide)] <;> rfl) ?_
    refine r_putO1 F (S 20 2).toNat dL_act_581 ((E2.fl (by decide) (Or.inl rfl) (by decide)).trans hs1) ((E2.fl (by decide) (Or.inl rfl) (by decide)).trans hs31) E2.1 ((E2.2.2 42 0 0 (by decide) (by decide) (by decide)).trans hgh1) ((E2.fl (by decide) (Or.inr rfl) (by decide)).trans hnk1) (by omega) E2.2.1 (by rw [setc_at, u2_i (by decide), u2_at]) (by rw [setc_at, u2_at]) ((E2.fl (by decide) (Or.inr rfl) (by decide)).trans E1.2.1) (S2 := sWatch S q to9 y4) ?hrow ?hsame (fun ad3 A3 F => ?hk)
    case hrow =>
      intro j hj
      rw [hnn, setc_at (M := setc (setc (mm S T S M) 4 _) 2 S), u2_k (by decide), u2_k (by decide), setc_ne _ _ (by decide), setc_at]
      have : j = 0 ∨ j = 1 ∨ j = 2 ∨ j = 3 ∨ j = 4 ∨ j = 5 := by omega
      rcases this with rfl | rfl | rfl | rfl | rfl | rfl <;> first | (simp [watV, setc, sWatch, wat0, u2, zk]; done)
    case hsame =>
      intro kd i
      rw [hnn]
      by_cases h9 : (7 ≤ kd ∧ kd ≤ 12 ∧ i = S 20 2) ∨ (kd = 20 ∧ i = 2)
      · rcases h9 with h9 | h9
        · exact Or.inl h9
        · exact Or.inr (Or.inl h9)
      · refine Or.inr (Or.inr ?_)
        rw [setc_ne _ _ (by decide), setc_at]
        exact same_wat h9
    case hk =>
      refine V.cast (M1 := mm S T (sWatch S q to9 y4) (setc (setc M 4 _) 4 _)) (by rw [mm_set4, mm_set2, mm_set4, mm_set2]) ?_
      have ch := chain (by decide) hz G0 E1 E2 A3
      have e0 : ad3 0 0 0 = ad0 0 0 0 := (ch.1 0 0 0 (by decide)).trans (G0.2 0 0 0 (by decide)).symm
      have e13 : ad3 13 2 0 = ad0 13 2 0 := (ch.1 13 2 0 (by decide)).trans (G0.2 13 2 0 (by decide)).symm
      have hc3 := ch.2.2.2.1
      have hsh3 : Sh ad3 (sWatch S q to9 y4) := ⟨ch.2.2.1.trans (hsh9.1), by rw [ch.2.2.2.2 18 (by decide) (by decide) (by decide)]; exact hsh9.2.1, by rw [ch.2.2.2.1]; show (((S 20 2).toNat + 1 : Nat) : Int) = S 20 2 + 1; omega, by rw [ch.2.2.2.2 20 (by decide) (by decide) (by decide)]; exact hsh9.2.2.2⟩
      have hs := ch.2.2.1.trans hsh9.1
      have hn2 : (ad3 41 19 0 : Int) = S 20 2 + 1 := by rw [hc3]; show (((S 20 2).toNat + 1 : Nat) : Int) = _; omega
      refine r_aload_n (x := ad3 0 0 0) (i := 0) F dL_act_584 rfl (by rw [e0]; rfl) ?_
      refine r_iload_n (i := 3) F dL_act_585 rfl rfl ?_
      refine r_iload F dL_act_586 rfl ?_
      refine r_iload F dL_act_588 rfl ?_
      refine r_callV F (Ct.mm0 (a := S) (C_X4_watchman (f := q) (t := to9) (g := y4) hI (ir_of (by omega) (by omega)) (ir_of (by omega) (by omega)) (ir_of (by omega) (by omega)) (by unfold cWatch; rw [if_neg (by omega), if_neg (by omega), if_neg (by omega), if_neg (by omega), if_neg (by omega)]))) dL_act_590 lkv_L_67 rfl rfl rfl rfl rfl cd_X4_watchman (by decide) ⟨by show _ ≤ 3; omega, by show _ ≤ 24; omega⟩ (Nat.le_of_ble_eq_true rfl) ?_
      refine r_aload_n (x := ad3 13 2 0) (i := 1) F dL_act_593 rfl (by rw [e13]; rfl) ?_
      refine gf_L_64 F dL_act_594 hs ?_
      refine al_19 F dL_act_597 hs hn2 ?_
      refine r_iconst F dL_act_598 ?_
      refine r_isub F dL_act_599 ?_
      refine r_cne (tgt := 607) F dL_act_600 (by decide) (by omega) ?_
      refine r_iconst F dL_act_603 ?_
      refine r_goto (tgt := 608) F dL_act_604 (by decide) ?_
      refine V.wide (kc1 := 3) (ks1 := 24) (by omega) (by omega) ?_
      exact r_zretG F dL_act_608 rfl (b := true) (by rfl) ⟨rfl, ch.1, ch.2.1, (sWatch S q to9 y4), _, rfl, (ok_watch hOK4 hq.1 hto1 hto2 ⟨by omega, by omega⟩ (by omega)), hsh3, ⟨Int.le_refl _, by show S 20 2 ≤ S 20 2 + 1; omega, Int.le_refl _⟩⟩
  have k7 : V p l e (RG 8 3 24) s m ([.ref (ad 0 0 0), .ref (ad 13 2 0), .int (i32 x)] : List Value).toArray below meth c 11 cy D ad (Aw ad s.heap.size) 0 0 (MQ below (Qa cy D ad s.heap.size (ActP ad S T h)) ([.ref (ad 0 0 0), .ref (ad 13 2 0), .int (i32 x)] : List Value).toArray s 3 24 (Aw ad s.heap.size)) 493 [some (.ref (ad 0 0 0)), some (.ref (ad 13 2 0)), some (.int (i32 x)), some (.int (i32 q)), some (.int (i32 (S 20 1))), some (.int (i32 (S 20 3))), none, none, none, none, none] [] (setc (mm S T S M) 2 S) := by
    refine r_bipush F dL_act_493 (by decide) ?_
    refine r_iload_n (i := 3) F dL_act_495 rfl rfl ?_
    refine r_iload_n (i := 2) F dL_act_496 rfl rfl ?_
    refine r_bipush F dL_act_497 (by decide) ?_
    refine r_shr F dL_act_499 ?_
    refine r_bipush F dL_act_500 (by decide) ?_
    refine r_callS F (C_L_below ⟨by omega, by omega⟩) dL_act_502 lks_L_9 rfl rfl cd_L_below (by decide) ⟨by show _ ≤ 3; omega, by show _ ≤ 24; omega⟩ (Nat.le_of_ble_eq_true rfl) ?_
    obtain ⟨y6, hy6, ey6⟩ : ∃ z : Int, (0 ≤ z ∧ z < 6) ∧ blw (i32 (shr x 8)) 6 = z := ⟨_, blw_bd _ (by decide), rfl⟩
    rw [ey6]
    refine r_iadd F dL_act_505 ?_
    refine r_mmin F dL_act_506 lks_L_59.1.1 lks_L_59.1.2.1 lks_L_59.1.2.2 cd_J9_min_7cf53 (by decide) (Nat.le_of_ble_eq_true rfl) ⟨by show _ ≤ 3; omega, by show _ ≤ 24; omega⟩ (by first | assumption | exact ir_of (by omega) (by omega)) (by first | assumption | exact ir_of (by omega) (by omega)) ?_
    obtain ⟨to9, hto, eto⟩ : ∃ z : Int, (q ≤ z ∧ z ≤ 15) ∧ min 15 (q + y6) = z := ⟨_, ⟨by omega, by omega⟩, rfl⟩
    rw [eto]
    refine r_istore (lv1 := [_, _, _, _, _, _, _, _, _, _, _]) F dL_act_509 (by decide) rfl rfl ?_
    refine r_iload_n (i := 2) F dL_act_511 rfl rfl ?_
    refine r_bipush F dL_act_512 (by decide) ?_
    refine r_shr F dL_act_514 ?_
    refine r_iconst F dL_act_515 ?_
    refine r_callS F (C_L_below ⟨by omega, by omega⟩) dL_act_516 lks_L_9 rfl rfl cd_L_below (by decide) ⟨by show _ ≤ 3; omega, by show _ ≤ 24; omega⟩ (Nat.le_of_ble_eq_true rfl) ?_
    obtain ⟨y4, hy4, ey4⟩ : ∃ z : Int, (0 ≤ z ∧ z < 4) ∧ blw (i32 (shr x 10)) 4 = z := ⟨_, blw_bd _ (by decide), rfl⟩
    rw [ey4]
    refine r_istore (lv1 := [_, _, _, _, _, _, _, _, _, _, _]) F dL_act_519 (by decide) rfl rfl ?_
    refine r_aload_n (i := 1) F dL_act_521 rfl rfl ?_
    refine gf_L_64 F dL_act_522 hs ?_
    refine al_19 F dL_act_525 hs hn2 ?_
    refine r_iconst F dL_act_526 ?_
    refine r_icmp_eq (tgt := 541) F dL_act_527 (by decide) (by first | assumption | exact ir_of (by omega) (by omega)) (by first | assumption | exact ir_of (by omega) (by omega)) (fun h527 => ?_) (fun h527 => ?_)
    · refine r_iconst F dL_act_541 ?_
      refine V.cast ((mm_set2 S T S S M)) ?_
      refine V.wide (kc1 := 3) (ks1 := 24) (by omega) (by omega) ?_
      exact r_zretG F dL_act_542 rfl (b := true) (by rfl) ⟨rfl, (fun _ _ _ _ => rfl), hz, S, M, rfl, hOK4, hsh9, ⟨Int.le_refl _, Int.le_refl _, Int.le_refl _⟩⟩
    · refine r_iload_n (i := 2) F dL_act_530 rfl rfl ?_
      refine r_bipush F dL_act_531 (by decide) ?_
      refine r_shr F dL_act_533 ?_
      refine r_iconst F dL_act_534 ?_
      refine r_callS F (C_L_below ⟨by omega, by omega⟩) dL_act_535 lks_L_9 rfl rfl cd_L_below (by decide) ⟨by show _ ≤ 3; omega, by show _ ≤ 24; omega⟩ (Nat.le_of_ble_eq_true rfl) ?_
      obtain ⟨y2, hy2, ey2⟩ : ∃ z : Int, (0 ≤ z ∧ z < 2) ∧ blw (i32 (shr x 12)) 2 = z := ⟨_, blw_bd _ (by decide), rfl⟩
      rw [ey2]
      refine r_if_ne (tgt := 543) F dL_act_538 (by decide) (by first | assumption | exact ir_of (by omega) (by omega)) (fun h538 => ?_) (fun h538 => ?_)
      · refine V.ghost F 1 hz32 (fun ad0 G0 F => ?_)
        refine V.cg (lv1 := [some (.ref (ad0 0 0 0)), some (.ref (ad0 13 2 0)), some (.int (i32 x)), some (.int (i32 q)), some (.int (i32 (S 20 1))), some (.int (i32 (S 20 3))), some (.int (i32 to9)), some (.int (i32 y4)), none, none, none]) (by rw [G0.2 0 0 0 (by decide), G0.2 13 2 0 (by decide)]) rfl ?_
        exact k7b to9 y4 hto.1 hto.2 hy4 (by omega) ad0 G0 F
      · refine r_iconst F dL_act_541 ?_
        refine V.cast ((mm_set2 S T S S M)) ?_
        refine V.wide (kc1 := 3) (ks1 := 24) (by omega) (by omega) ?_
        exact r_zretG F dL_act_542 rfl (b := true) (by rfl) ⟨rfl, (fun _ _ _ _ => rfl), hz, S, M, rfl, hOK4, hsh9, ⟨Int.le_refl _, Int.le_refl _, Int.le_refl _⟩⟩
  have k8b : ∀ y : Int, (0 ≤ y ∧ y < 20) → S 20 3 < 6 → ∀ ad0 : Nat → Nat → Int → Nat, Gh 2 ad ad0 → Fx p s m ([.ref (ad 0 0 0), .ref (ad 13 2 0), .int (i32 x)] : List Value).toArray meth c yL_act.cls cL_act 11 (some FieldType.boolean) cy D ad0 (Aw ad s.heap.size) → V p l e (RG 8 3 24) s m ([.ref (ad 0 0 0), .ref (ad 13 2 0), .int (i32 x)] : List Value).toArray below meth c 11 cy D ad0 (Aw ad s.heap.size) 0 0 (MQ below (Qa cy D ad s.heap.size (ActP ad S T h)) ([.ref (ad 0 0 0), .ref (ad 13 2 0), .int (i32 x)] : List Value).toArray s 3 24 (Aw ad s.heap.size)) 629 [some (.ref (ad0 0 0 0)), some (.ref (ad0 13 2 0)), some (.int (i32 x)), some (.int (i32 q)), some (.int (i32 (S 20 1))), some (.int (i32 (S 20 3))), some (.int (i32 (1 + y))), none, none, none, none] [] (setc (mm S T S M) 2 S) := by
    intro y hy hb4 ad0 G0 F
    have hz0 := G0.cl hz
    have hz031 := hz0 31 (by decide) (by decide)
    have hz032 := hz0 32 (by decide) (by decide)
    have hs00 : ad0 40 13 0 = 1 := (G0.2 40 13 0 (by decide)).trans hs
    have hs := hs00
    have hn10 : (ad0 41 18 0 : Int) = S 20 1 := by rw [G0.2 41 18 0 (by decide)]; exact hn1
    have hn20 : (ad0 41 19 0 : Int) = S 20 2 := by rw [G0.2 41 19 0 (by decide)]; exact hn2
    have hn30 : (ad0 41 20 0 : Int) = S 20 3 := by rw [G0.2 41 20 0 (by decide)]; exact hn3
    have hnn : (((S 20 3).toNat : Nat) : Int) = S 20 3 := Int.toNat_of_nonneg (by omega)
    refine r_aload_n (i := 1) F dL_act_629 rfl rfl ?_
    refine r_aload_n (i := 1) F dL_act_630 rfl rfl ?_
    refine gf_L_21 F dL_act_631 hs ?_
    refine r_bipush F dL_act_634 (by decide) ?_
    refine V.cast (j_self (mm S T S M) S) ?_
    refine j_newa F 31 (by decide) hz031 hz032 7 dL_act_636 rfl (by decide) ⟨by show _ ≤ 3; omega, by show _ ≤ 24; omega⟩ (fun ad1 E1 F => ?_)
    have hs31 := E1.1
    have hl31 : (ad1 41 31 0 : Int) = 7 := by rw [E1.2.1]; rfl
    refine V.cg (st1 := [.ref (ad1 31 2 0), .ref (ad1 20 2 0), .ref (ad1 13 2 0)]) rfl (by rw [show ad1 20 2 0 = ad0 20 2 0 from E1.lo (by decide) (by decide), show ad1 13 2 0 = ad0 13 2 0 from E1.lo (by decide) (by decide)] <;> rfl) ?_
    have hs1 : ad1 40 13 0 = 1 := (E1.fl (by decide) (Or.inl rfl) (by decide)).trans hs
    have hz132 : ad1 40 32 0 ≠ 1 := by rw [E1.fl (by decide) (Or.inl rfl) (by decide)]; exact hz032
    have hgh1 : ad1 42 0 0 = 2 := (E1.2.2 42 0 0 (by decide) (by decide) (by decide)).trans G0.1
    have hnk1 : ad1 41 20 0 = (S 20 3).toNat := by rw [E1.fl (by decide) (Or.inr rfl) (by decide)]; omega
    refine r_dup F dL_act_638 rfl ?_
    refine r_iconst F dL_act_639 ?_
    refine r_iload_n (i := 3) F dL_act_640 rfl rfl ?_
    refine js_31 F dL_act_641 hs31 (by omega) (by omega) (by omega) ?_
    refine r_dup F dL_act_642 rfl ?_
    refine r_iconst F dL_act_643 ?_
    refine r_iload F dL_act_644 rfl ?_
    refine js_31 F dL_act_646 hs31 (by omega) (by omega) (by omega) ?_
    refine r_dup F dL_act_647 rfl ?_
    refine r_iconst F dL_act_648 ?_
    refine r_iconst F dL_act_649 ?_
    refine js_31 F dL_act_650 hs31 (by omega) (by omega) (by omega) ?_
    refine r_dup F dL_act_651 rfl ?_
    refine r_iconst F dL_act_652 ?_
    refine r_iconst F dL_act_653 ?_
    refine js_31 F dL_act_654 hs31 (by omega) (by omega) (by omega) ?_
    refine r_dup F dL_act_655 rfl ?_
    refine r_iconst F dL_act_656 ?_
    refine r_iconst F dL_act_657 ?_
    refine js_31 F dL_act_658 hs31 (by omega) (by omega) (by omega) ?_
    refine r_dup F dL_act_659 rfl ?_
    refine r_iconst F dL_act_660 ?_
    refine r_iconst F dL_act_661 ?_
    refine js_31 F dL_act_662 hs31 (by omega) (by omega) (by omega) ?_
    refine r_dup F dL_act_663 rfl ?_
    refine r_bipush F dL_act_664 (by decide) ?_
    refine r_iconst F dL_act_666 ?_
    refine js_31 F dL_act_667 hs31 (by omega) (by omega) (by omega) ?_
    refine r_callSG F (C_X5_with2 (n := (S 20 3).toNat) hs1 hs31 hz132 hgh1 hnk1 (by omega)) (fun sz => E0_blind sz) (fun _ _ _ _ _ _ => trivial) dL_act_668 lks_L_45 rfl rfl cd_X5_with (by decide) ⟨by show _ ≤ 3; omega, by show _ ≤ 24; omega⟩ (Nat.le_of_ble_eq_true rfl) (fun r9 ad2 M9 hP9 F => ?_)
    obtain ⟨rfl, E2, rfl⟩ := hP9
    refine V.cg (st1 := [.ref (ad2 32 2 0), .ref (ad2 13 2 0)]) rfl (by rw [show ad2 13 2 0 = ad1 13 2 0 from E2.lo (by decide) (by decide)] <;> rfl) ?_
    refine r_putO2 F (S 20 3).toNat dL_act_671 ((E2.fl (by decide) (Or.inl rfl) (by decide)).trans hs1) ((E2.fl (by decide) (Or.inl rfl) (by decide)).trans hs31) E2.1 ((E2.2.2 42 0 0 (by decide) (by decide) (by decide)).trans hgh1) ((E2.fl (by decide) (Or.inr rfl) (by decide)).trans hnk1) (by omega) E2.2.1 (by rw [setc_at, u2_i (by decide), u2_at]) (by rw [setc_at, u2_at]) ((E2.fl (by decide) (Or.inr rfl) (by decide)).trans E1.2.1) (S2 := sBoat S q (1 + y)) ?hrow ?hsame (fun ad3 A3 F => ?hk)
    case hrow =>
      intro j hj
      rw [hnn, setc_at (M := setc (setc (mm S T S M) 4 _) 2 S), u2_k (by decide), u2_k (by decide), setc_ne _ _ (by decide), setc_at]
      have : j = 0 ∨ j = 1 ∨ j = 2 ∨ j = 3 ∨ j = 4 ∨ j = 5 ∨ j = 6 := by omega
      rcases this with rfl | rfl | rfl | rfl | rfl | rfl | rfl <;> first | (simp [boaV, bk, bv, fm, setc, sBoat, boat0, u2, zk]; done)
    case hsame =>
      intro kd i
      rw [hnn]
      by_cases h9 : (13 ≤ kd ∧ kd ≤ 19 ∧ i = S 20 3) ∨ (kd = 20 ∧ i = 3)
      · rcases h9 with h9 | h9
        · exact Or.inl h9
        · exact Or.inr (Or.inl h9)
      · refine Or.inr (Or.inr ?_)
        rw [setc_ne _ _ (by decide), setc_at]
        exact same_boa h9
    case hk =>
      refine V.cast (M1 := mm S T (sBoat S q (1 + y)) (setc (setc M 4 _) 4 _)) (by rw [mm_set4, mm_set2, mm_set4, mm_set2]) ?_
      have ch := chain (by decide) hz G0 E1 E2 A3
      have e0 : ad3 0 0 0 = ad0 0 0 0 := (ch.1 0 0 0 (by decide)).trans (G0.2 0 0 0 (by decide)).symm
      have e13 : ad3 13 2 0 = ad0 13 2 0 := (ch.1 13 2 0 (by decide)).trans (G0.2 13 2 0 (by decide)).symm
      have hc3 := ch.2.2.2.1
      have hsh3 : Sh ad3 (sBoat S q (1 + y)) := ⟨ch.2.2.1.trans (hsh9.1), by rw [ch.2.2.2.2 18 (by decide) (by decide) (by decide)]; exact hsh9.2.1, by rw [ch.2.2.2.2 19 (by decide) (by decide) (by decide)]; exact hsh9.2.2.1, by rw [ch.2.2.2.1]; show (((S 20 3).toNat + 1 : Nat) : Int) = S 20 3 + 1; omega⟩
      refine r_aload_n (x := ad3 0 0 0) (i := 0) F dL_act_674 rfl (by rw [e0]; rfl) ?_
      refine r_iload_n (i := 3) F dL_act_675 rfl rfl ?_
      refine r_iload F dL_act_676 rfl ?_
      refine r_callV F (Ct.mm0 (a := S) (C_X4_boat (x := q) (q := 1 + y) hI (ir_of (by omega) (by omega)) (ir_of (by omega) (by omega)) (by unfold cBoat; rw [if_neg (by omega), if_neg (by omega), if_neg (by omega)]))) dL_act_678 lkv_L_70 rfl rfl rfl rfl rfl cd_X4_boat (by decide) ⟨by show _ ≤ 3; omega, by show _ ≤ 24; omega⟩ (Nat.le_of_ble_eq_true rfl) ?_
      refine r_istore (lv1 := [_, _, _, _, _, _, _, _, _, _, _]) F dL_act_681 (by decide) rfl rfl ?_
      refine r_iload F dL_act_683 rfl ?_
      refine r_bipush F dL_act_685 (by decide) ?_
      refine r_icmp_ge (tgt := 701) F dL_act_687 (by decide) (by first | assumption | exact ir_of (by omega) (by omega)) (by first | assumption | exact ir_of (by omega) (by omega)) (fun h687 => ?_) (fun h687 => ?_)
      · exfalso; omega
      · refine r_iload F dL_act_690 rfl ?_
        refine r_iload F dL_act_692 rfl ?_
        refine r_cne (tgt := 701) F dL_act_694 (by decide) rfl ?_
        refine r_iconst F dL_act_697 ?_
        refine r_goto (tgt := 702) F dL_act_698 (by decide) ?_
        refine V.wide (kc1 := 3) (ks1 := 24) (by omega) (by omega) ?_
        exact r_zretG F dL_act_702 rfl (b := true) (by rfl) ⟨rfl, ch.1, ch.2.1, (sBoat S q (1 + y)), _, rfl, (ok_boat hOK4 ⟨by omega, by omega⟩ ⟨by omega, by omega⟩ hb4), hsh3, ⟨Int.le_refl _, Int.le_refl _, by show S 20 3 ≤ S 20 3 + 1; omega⟩⟩
  have k8 : V p l e (RG 8 3 24) s m ([.ref (ad 0 0 0), .ref (ad 13 2 0), .int (i32 x)] : List Value).toArray below meth c 11 cy D ad (Aw ad s.heap.size) 0 0 (MQ below (Qa cy D ad s.heap.size (ActP ad S T h)) ([.ref (ad 0 0 0), .ref (ad 13 2 0), .int (i32 x)] : List Value).toArray s 3 24 (Aw ad s.heap.size)) 609 [some (.ref (ad 0 0 0)), some (.ref (ad 13 2 0)), some (.int (i32 x)), some (.int (i32 q)), some (.int (i32 (S 20 1))), some (.int (i32 (S 20 3))), none, none, none, none, none] [] (setc (mm S T S M) 2 S) := by
    refine r_iconst F dL_act_609 ?_
    refine r_iload_n (i := 2) F dL_act_610 rfl rfl ?_
    refine r_bipush F dL_act_611 (by decide) ?_
    refine r_shr F dL_act_613 ?_
    refine r_bipush F dL_act_614 (by decide) ?_
    refine r_callS F (C_L_below ⟨by omega, by omega⟩) dL_act_616 lks_L_9 rfl rfl cd_L_below (by decide) ⟨by show _ ≤ 3; omega, by show _ ≤ 24; omega⟩ (Nat.le_of_ble_eq_true rfl) ?_
    obtain ⟨y, hy, ey⟩ : ∃ z : Int, (0 ≤ z ∧ z < 20) ∧ blw (i32 (shr x 8)) 20 = z := ⟨_, blw_bd _ (by decide), rfl⟩
    rw [ey]
    refine r_iadd F dL_act_619 ?_
    refine r_istore (lv1 := [_, _, _, _, _, _, _, _, _, _, _]) F dL_act_620 (by decide) rfl rfl ?_
    refine r_iload F dL_act_622 rfl ?_
    refine r_bipush F dL_act_624 (by decide) ?_
    refine r_icmp_ge (tgt := 674) F dL_act_626 (by decide) (by first | assumption | exact ir_of (by omega) (by omega)) (by first | assumption | exact ir_of (by omega) (by omega)) (fun h626 => ?_) (fun h626 => ?_)
    · refine V.cast (mm_set2 S T S S M) ?_
      refine r_aload_n (i := 0) F dL_act_674 rfl rfl ?_
      refine r_iload_n (i := 3) F dL_act_675 rfl rfl ?_
      refine r_iload F dL_act_676 rfl ?_
      refine r_catchV (tgt := 703) F G htab [⟨365, 389, 390, 53⟩] ⟨674, 702, 703, 53⟩ [] rfl (fun z h => by rcases List.mem_singleton.mp h with rfl; rfl) rfl rfl (by decide) tk_L_53 tc_eS (Tx.mm0 (a := S) (T_X4_boat (x := q) (q := 1 + y) hl9 hI (ir_of (by omega) (by omega)) (ir_of (by omega) (by omega)) (by rw [show cBoat S q (1 + y) = 3 from by unfold cBoat; rw [if_neg (by omega), if_neg (by omega), if_pos (by omega)]]; decide) (show eS = exIAS (cBoat S q (1 + y)) by rw [show cBoat S q (1 + y) = 3 from by unfold cBoat; rw [if_neg (by omega), if_neg (by omega), if_pos (by omega)]] <;> rfl))) dL_act_678 lkv_L_70 rfl rfl rfl rfl rfl cd_X4_boat (by decide) ⟨by show _ ≤ 3; omega, by show _ ≤ 24; omega⟩ (Nat.le_of_ble_eq_true rfl) (fun q9 => ?_)
      refine r_astore (lv1 := [_, _, _, _, _, _, _, _, _, _, _]) F dL_act_703 (by decide) rfl rfl ?_
      refine r_iload F dL_act_705 rfl ?_
      refine r_bipush F dL_act_707 (by decide) ?_
      refine r_icmp_ne (tgt := 716) F dL_act_709 (by decide) (by first | assumption | exact ir_of (by omega) (by omega)) (by first | assumption | exact ir_of (by omega) (by omega)) (fun h709 => ?_) (fun h709 => ?_)
      · exfalso; omega
      · refine r_iconst F dL_act_712 ?_
        refine r_goto (tgt := 717) F dL_act_713 (by decide) ?_
        refine V.wide (kc1 := 3) (ks1 := 24) (by omega) (by omega) ?_
        exact r_zretG F dL_act_717 rfl (b := true) (by rfl) ⟨rfl, (fun _ _ _ _ => rfl), hz, S, M, rfl, hOK4, hsh9, ⟨Int.le_refl _, Int.le_refl _, Int.le_refl _⟩⟩
    · refine V.ghost F 2 hz32 (fun ad0 G0 F => ?_)
      refine V.cg (lv1 := [some (.ref (ad0 0 0 0)), some (.ref (ad0 13 2 0)), some (.int (i32 x)), some (.int (i32 q)), some (.int (i32 (S 20 1))), some (.int (i32 (S 20 3))), some (.int (i32 (1 + y))), none, none, none, none]) (by rw [G0.2 0 0 0 (by decide), G0.2 13 2 0 (by decide)]) rfl ?_
      exact k8b y hy (by omega) ad0 G0 F
  have k3b : S 20 1 < 5 → lanQ S q (S 20 1).toNat = false → ∀ ad0 : Nat → Nat → Int → Nat, Gh 0 ad ad0 → Fx p s m ([.ref (ad 0 0 0), .ref (ad 13 2 0), .int (i32 x)] : List Value).toArray meth c yL_act.cls cL_act 11 (some FieldType.boolean) cy D ad0 (Aw ad s.heap.size) → V p l e (RG 8 3 24) s m ([.ref (ad 0 0 0), .ref (ad 13 2 0), .int (i32 x)] : List Value).toArray below meth c 11 cy D ad0 (Aw ad s.heap.size) 0 0 (MQ below (Qa cy D ad s.heap.size (ActP ad S T h)) ([.ref (ad 0 0 0), .ref (ad 13 2 0), .int (i32 x)] : List Value).toArray s 3 24 (Aw ad s.heap.size)) 296 [some (.ref (ad0 0 0 0)), some (.ref (ad0 13 2 0)), some (.int (i32 x)), some (.int (i32 q)), some (.int (i32 (S 20 1))), some (.int (i32 (S 20 3))), some (.int (i32 (bi true))), none, none, none, none] [] (setc (mm S T S M) 2 S) := by
    intro hl5 hlq ad0 G0 F
    have hz0 := G0.cl hz
    have hz031 := hz0 31 (by decide) (by decide)
    have hz032 := hz0 32 (by decide) (by decide)
    have hs00 : ad0 40 13 0 = 1 := (G0.2 40 13 0 (by decide)).trans hs
    have hs := hs00
    have hn10 : (ad0 41 18 0 : Int) = S 20 1 := by rw [G0.2 41 18 0 (by decide)]; exact hn1
    have hn20 : (ad0 41 19 0 : Int) = S 20 2 := by rw [G0.2 41 19 0 (by decide)]; exact hn2
    have hn30 : (ad0 41 20 0 : Int) = S 20 3 := by rw [G0.2 41 20 0 (by decide)]; exact hn3
    have hnn : (((S 20 1).toNat : Nat) : Int) = S 20 1 := Int.toNat_of_nonneg (by omega)
    refine r_aload_n (i := 1) F dL_act_296 rfl rfl ?_
    refine r_aload_n (i := 1) F dL_act_297 rfl rfl ?_
    refine gf_L_15 F dL_act_298 hs ?_
    refine r_bipush F dL_act_301 (by decide) ?_
    refine V.cast (j_self (mm S T S M) S) ?_
    refine j_newa F 31 (by decide) hz031 hz032 12 dL_act_303 rfl (by decide) ⟨by show _ ≤ 3; omega, by show _ ≤ 24; omega⟩ (fun ad1 E1 F => ?_)
    have hs31 := E1.1
    have hl31 : (ad1 41 31 0 : Int) = 12 := by rw [E1.2.1]; rfl
    refine V.cg (st1 := [.ref (ad1 31 2 0), .ref (ad1 18 2 0), .ref (ad1 13 2 0)]) rfl (by rw [show ad1 18 2 0 = ad0 18 2 0 from E1.lo (by decide) (by decide), show ad1 13 2 0 = ad0 13 2 0 from E1.lo (by decide) (by decide)] <;> rfl) ?_
    have hs1 : ad1 40 13 0 = 1 := (E1.fl (by decide) (Or.inl rfl) (by decide)).trans hs
    have hz132 : ad1 40 32 0 ≠ 1 := by rw [E1.fl (by decide) (Or.inl rfl) (by decide)]; exact hz032
    have hgh1 : ad1 42 0 0 = 0 := (E1.2.2 42 0 0 (by decide) (by decide) (by decide)).trans G0.1
    have hnk1 : ad1 41 18 0 = (S 20 1).toNat := by rw [E1.fl (by decide) (Or.inr rfl) (by decide)]; omega
    refine r_dup F dL_act_305 rfl ?_
    refine r_iconst F dL_act_306 ?_
    refine r_iload_n (i := 3) F dL_act_307 rfl rfl ?_
    refine js_31 F dL_act_308 hs31 (by omega) (by omega) (by omega) ?_
    refine r_dup F dL_act_309 rfl ?_
    refine r_iconst F dL_act_310 ?_
    refine r_iconst F dL_act_311 ?_
    refine js_31 F dL_act_312 hs31 (by omega) (by omega) (by omega) ?_
    refine r_dup F dL_act_313 rfl ?_
    refine r_iconst F dL_act_314 ?_
    refine r_iconst F dL_act_315 ?_
    refine js_31 F dL_act_316 hs31 (by omega) (by omega) (by omega) ?_
    refine r_dup F dL_act_317 rfl ?_
    refine r_iconst F dL_act_318 ?_
    refine r_iconst F dL_act_319 ?_
    refine js_31 F dL_act_320 hs31 (by omega) (by omega) (by omega) ?_
    refine r_dup F dL_act_321 rfl ?_
    refine r_iconst F dL_act_322 ?_
    refine r_iconst F dL_act_323 ?_
    refine js_31 F dL_act_324 hs31 (by omega) (by omega) (by omega) ?_
    refine r_dup F dL_act_325 rfl ?_
    refine r_iconst F dL_act_326 ?_
    refine r_iconst F dL_act_327 ?_
    refine js_31 F dL_act_328 hs31 (by omega) (by omega) (by omega) ?_
    refine r_dup F dL_act_329 rfl ?_
    refine r_bipush F dL_act_330 (by decide) ?_
    refine r_iconst F dL_act_332 ?_
    refine js_31 F dL_act_333 hs31 (by omega) (by omega) (by omega) ?_
    refine r_dup F dL_act_334 rfl ?_
    refine r_bipush F dL_act_335 (by decide) ?_
    refine r_iconst F dL_act_337 ?_
    refine js_31 F dL_act_338 hs31 (by omega) (by omega) (by omega) ?_
    refine r_dup F dL_act_339 rfl ?_
    refine r_bipush F dL_act_340 (by decide) ?_
    refine r_iconst F dL_act_342 ?_
    refine js_31 F dL_act_343 hs31 (by omega) (by omega) (by omega) ?_
    refine r_dup F dL_act_344 rfl ?_
    refine r_bipush F dL_act_345 (by decide) ?_
    refine r_iconst F dL_act_347 ?_
    refine js_31 F dL_act_348 hs31 (by omega) (by omega) (by omega) ?_
    refine r_dup F dL_act_349 rfl ?_
    refine r_bipush F dL_act_350 (by decide) ?_
    refine r_iconst F dL_act_352 ?_
    refine js_31 F dL_act_353 hs31 (by omega) (by omega) (by omega) ?_
    refine r_dup F dL_act_354 rfl ?_
    refine r_bipush F dL_act_355 (by decide) ?_
    refine r_iconst F dL_act_357 ?_
    refine js_31 F dL_act_358 hs31 (by omega) (by omega) (by omega) ?_
    refine r_callSG F (C_X5_with0 (n := (S 20 1).toNat) hs1 hs31 hz132 hgh1 hnk1 (by omega)) (fun sz => E0_blind sz) (fun _ _ _ _ _ _ => trivial) dL_act_359 lks_L_45 rfl rfl cd_X5_with (by decide) ⟨by show _ ≤ 3; omega, by show _ ≤ 24; omega⟩ (Nat.le_of_ble_eq_true rfl) (fun r9 ad2 M9 hP9 F => ?_)
    obtain ⟨rfl, E2, rfl⟩ := hP9
    refine V.cg (st1 := [.ref (ad2 32 2 0), .ref (ad2 13 2 0)]) rfl (by rw [show ad2 13 2 0 = ad1 13 2 0 from E2.lo (by decide) (by decide)] <;> rfl) ?_
    refine r_putO0 F (S 20 1).toNat dL_act_362 ((E2.fl (by decide) (Or.inl rfl) (by decide)).trans hs1) ((E2.fl (by decide) (Or.inl rfl) (by decide)).trans hs31) E2.1 ((E2.2.2 42 0 0 (by decide) (by decide) (by decide)).trans hgh1) ((E2.fl (by decide) (Or.inr rfl) (by decide)).trans hnk1) (by omega) E2.2.1 (by rw [setc_at, u2_i (by decide), u2_at]) (by rw [setc_at, u2_at]) ((E2.fl (by decide) (Or.inr rfl) (by decide)).trans E1.2.1) (S2 := sLantern S q) ?hrow ?hsame (fun ad3 A3 F => ?hk)
    case hrow =>
      intro j hj
      rw [hnn, setc_at (M := setc (setc (mm S T S M) 4 _) 2 S), u2_k (by decide), u2_k (by decide), setc_ne _ _ (by decide), setc_at]
      have : j = 0 ∨ j = 1 ∨ j = 2 ∨ j = 3 ∨ j = 4 ∨ j = 5 ∨ j = 6 ∨ j = 7 ∨ j = 8 ∨ j = 9 ∨ j = 10 ∨ j = 11 := by omega
      rcases this with rfl | rfl | rfl | rfl | rfl | rfl | rfl | rfl | rfl | rfl | rfl | rfl <;> first | (simp [lanV, setc, sLantern, u2, zk]; done) | (simp [lanV, setc, sLantern, u2, zk]; exact hD.2.1 _ (by omega)) | (simp [lanV, setc, sLantern, u2, zk]; exact (hD.1 _ (by omega)).2)
    case hsame =>
      intro kd i
      rw [hnn]
      by_cases h9 : (kd = 4 ∧ i = S 20 1) ∨ (kd = 20 ∧ i = 1)
      · rcases h9 with h9 | h9
        · exact Or.inl (Or.inl h9)
        · exact Or.inr (Or.inl h9)
      · refine Or.inr (Or.inr ?_)
        rw [setc_ne _ _ (by decide), setc_at]
        exact same_lan h9
    case hk =>
      refine V.cast (M1 := mm S T (sLantern S q) (setc (setc M 4 _) 4 _)) (by rw [mm_set4, mm_set2, mm_set4, mm_set2]) ?_
      have ch := chain (by decide) hz G0 E1 E2 A3
      have e0 : ad3 0 0 0 = ad0 0 0 0 := (ch.1 0 0 0 (by decide)).trans (G0.2 0 0 0 (by decide)).symm
      have e13 : ad3 13 2 0 = ad0 13 2 0 := (ch.1 13 2 0 (by decide)).trans (G0.2 13 2 0 (by decide)).symm
      have hc3 := ch.2.2.2.1
      have hsh3 : Sh ad3 (sLantern S q) := ⟨ch.2.2.1.trans (hsh9.1), by rw [ch.2.2.2.1]; show (((S 20 1).toNat + 1 : Nat) : Int) = S 20 1 + 1; omega, by rw [ch.2.2.2.2 19 (by decide) (by decide) (by decide)]; exact hsh9.2.2.1, by rw [ch.2.2.2.2 20 (by decide) (by decide) (by decide)]; exact hsh9.2.2.2⟩
      refine r_aload_n (x := ad3 0 0 0) (i := 0) F dL_act_365 rfl (by rw [e0]; rfl) ?_
      refine r_iload_n (i := 3) F dL_act_366 rfl rfl ?_
      refine r_callV F (Ct.mm0 (a := S) (C_X4_lantern (x := q) hI (ir_of (by omega) (by omega)) (by unfold cLantern; rw [if_neg (by omega), if_neg (by omega), hlq] <;> rfl))) dL_act_367 lkv_L_49 rfl rfl rfl rfl rfl cd_X4_lantern (by decide) ⟨by show _ ≤ 3; omega, by show _ ≤ 24; omega⟩ (Nat.le_of_ble_eq_true rfl) ?_
      refine r_istore (lv1 := [_, _, _, _, _, _, _, _, _, _, _]) F dL_act_370 (by decide) rfl rfl ?_
      refine r_iload F dL_act_372 rfl ?_
      refine r_bz_eq (tgt := 388) F dL_act_374 (by decide) (fun h374 => ?_) (fun h374 => ?_)
      · exact absurd h374 (by decide)
      · refine r_iload F dL_act_377 rfl ?_
        refine r_iload F dL_act_379 rfl ?_
        refine r_cne (tgt := 388) F dL_act_381 (by decide) rfl ?_
        refine r_iconst F dL_act_384 ?_
        refine r_goto (tgt := 389) F dL_act_385 (by decide) ?_
        refine V.wide (kc1 := 3) (ks1 := 24) (by omega) (by omega) ?_
        exact r_zretG F dL_act_389 rfl (b := true) (by rfl) ⟨rfl, ch.1, ch.2.1, (sLantern S q), _, rfl, (ok_lantern hOK4 ⟨by omega, by omega⟩ hl5), hsh3, ⟨by show S 20 1 ≤ S 20 1 + 1; omega, Int.le_refl _, Int.le_refl _⟩⟩
  have kT : S 20 1 < 5 → lanQ S q (S 20 1).toNat = false → V p l e (RG 8 3 24) s m ([.ref (ad 0 0 0), .ref (ad 13 2 0), .int (i32 x)] : List Value).toArray below meth c 11 cy D ad (Aw ad s.heap.size) 0 0 (MQ below (Qa cy D ad s.heap.size (ActP ad S T h)) ([.ref (ad 0 0 0), .ref (ad 13 2 0), .int (i32 x)] : List Value).toArray s 3 24 (Aw ad s.heap.size)) 291 [some (.ref (ad 0 0 0)), some (.ref (ad 13 2 0)), some (.int (i32 x)), some (.int (i32 q)), some (.int (i32 (S 20 1))), some (.int (i32 (S 20 3))), some (.int (i32 (bi true))), none, none, none, none] [] (setc (mm S T S M) 2 S) := by
    intro hl5 hlq
    refine r_iload F dL_act_291 rfl ?_
    refine r_bz_eq (tgt := 365) F dL_act_293 (by decide) (fun h293 => ?_) (fun h293 => ?_)
    · exact absurd h293 (by decide)
    · refine V.ghost F 0 hz32 (fun ad0 G0 F => ?_)
      refine V.cg (lv1 := [some (.ref (ad0 0 0 0)), some (.ref (ad0 13 2 0)), some (.int (i32 x)), some (.int (i32 q)), some (.int (i32 (S 20 1))), some (.int (i32 (S 20 3))), some (.int (i32 (bi true))), none, none, none, none]) (by rw [G0.2 0 0 0 (by decide), G0.2 13 2 0 (by decide)]) rfl ?_
      exact k3b hl5 hlq ad0 G0 F
  have kF : cLantern S q = 2 → V p l e (RG 8 3 24) s m ([.ref (ad 0 0 0), .ref (ad 13 2 0), .int (i32 x)] : List Value).toArray below meth c 11 cy D ad (Aw ad s.heap.size) 0 0 (MQ below (Qa cy D ad s.heap.size (ActP ad S T h)) ([.ref (ad 0 0 0), .ref (ad 13 2 0), .int (i32 x)] : List Value).toArray s 3 24 (Aw ad s.heap.size)) 291 [some (.ref (ad 0 0 0)), some (.ref (ad 13 2 0)), some (.int (i32 x)), some (.int (i32 q)), some (.int (i32 (S 20 1))), some (.int (i32 (S 20 3))), some (.int (i32 (bi false))), none, none, none, none] [] (setc (mm S T S M) 2 S) := by
    intro hc2
    refine r_iload F dL_act_291 rfl ?_
    refine r_bz_eq (tgt := 365) F dL_act_293 (by decide) (fun h293 => ?_) (fun h293 => ?_)
    · refine V.cast (mm_set2 S T S S M) ?_
      refine r_aload_n (i := 0) F dL_act_365 rfl rfl ?_
      refine r_iload_n (i := 3) F dL_act_366 rfl rfl ?_
      refine r_catchV (tgt := 390) F G htab [] ⟨365, 389, 390, 53⟩ [⟨674, 702, 703, 53⟩] rfl (fun z h => absurd h List.not_mem_nil) rfl rfl (by decide) tk_L_53 tc_eS (Tx.mm0 (a := S) (T_X4_lantern (x := q) hl9 hI (ir_of (by omega) (by omega)) (by rw [hc2]; decide) (show eS = exIS (cLantern S q) by rw [hc2] <;> rfl))) dL_act_367 lkv_L_49 rfl rfl rfl rfl rfl cd_X4_lantern (by decide) ⟨by show _ ≤ 3; omega, by show _ ≤ 24; omega⟩ (Nat.le_of_ble_eq_true rfl) (fun q9 => ?_)
      refine r_astore (lv1 := [_, _, _, _, _, _, _, _, _, _, _]) F dL_act_390 (by decide) rfl rfl ?_
      refine r_iload F dL_act_392 rfl ?_
      refine r_bz_ne (tgt := 401) F dL_act_394 (by decide) (fun h394 => ?_) (fun h394 => ?_)
      · exact absurd h394 (by decide)
      · refine r_iconst F dL_act_397 ?_
        refine r_goto (tgt := 402) F dL_act_398 (by decide) ?_
        refine V.wide (kc1 := 3) (ks1 := 24) (by omega) (by omega) ?_
        exact r_zretG F dL_act_402 rfl (b := true) (by rfl) ⟨rfl, (fun _ _ _ _ => rfl), hz, S, M, rfl, hOK4, hsh9, ⟨Int.le_refl _, Int.le_refl _, Int.le_refl _⟩⟩
    · exact absurd h293 (by decide)
  have k3l : ∀ (n : Nat) (j : Int), 0 ≤ j → j + (n : Int) = S 20 1 → V p l e (RG 8 3 24) s m ([.ref (ad 0 0 0), .ref (ad 13 2 0), .int (i32 x)] : List Value).toArray below meth c 11 cy D ad (Aw ad s.heap.size) 0 0 (MQ below (Qa cy D ad s.heap.size (ActP ad S T h)) ([.ref (ad 0 0 0), .ref (ad 13 2 0), .int (i32 x)] : List Value).toArray s 3 24 (Aw ad s.heap.size)) 253 [some (.ref (ad 0 0 0)), some (.ref (ad 13 2 0)), some (.int (i32 x)), some (.int (i32 q)), some (.int (i32 (S 20 1))), some (.int (i32 (S 20 3))), some (.int (i32 (bi (decide (S 20 1 < 5) && !lanQ S q j.toNat)))), some (.ref (ad 18 2 0)), some (.int (i32 (S 20 1))), some (.int (i32 j)), none] [] (setc (mm S T S M) 2 S) := by
    intro n
    induction n with
    | zero =>
      intro j h0 h1
      obtain rfl : j = S 20 1 := by omega
      refine r_iload F dL_act_253 rfl ?_
      refine r_iload F dL_act_255 rfl ?_
      refine r_icmp_ge (tgt := 291) F dL_act_257 (by decide) (by first | assumption | exact ir_of (by omega) (by omega)) (by first | assumption | exact ir_of (by omega) (by omega)) (fun h257 => ?_) (fun h257 => ?_)
      · refine V.kill (lv1 := [_, _, _, _, _, _, _, _, _, _, _]) 7 rfl ?_
        refine V.kill (lv1 := [_, _, _, _, _, _, _, _, _, _, _]) 8 rfl ?_
        refine V.kill (lv1 := [_, _, _, _, _, _, _, _, _, _, _]) 9 rfl ?_
        by_cases g5 : S 20 1 < 5
        · rw [decide_eq_true g5, Bool.true_and]
          cases gq : lanQ S q (S 20 1).toNat
          · exact kT g5 gq
          · exact kF (by unfold cLantern; rw [if_neg (by omega), if_neg (by omega), gq] <;> rfl)
        · rw [decide_eq_false g5, Bool.false_and]
          exact kF (by unfold cLantern; rw [if_neg (by omega), if_pos (by omega)])
      · exfalso; omega
    | succ n ih =>
      intro j h0 h1
      have b4 := hI.p4 j
      refine r_iload F dL_act_253 rfl ?_
      refine r_iload F dL_act_255 rfl ?_
      refine r_icmp_ge (tgt := 291) F dL_act_257 (by decide) (by first | assumption | exact ir_of (by omega) (by omega)) (by first | assumption | exact ir_of (by omega) (by omega)) (fun h257 => ?_) (fun h257 => ?_)
      · exfalso; omega
      · refine r_aload F dL_act_260 rfl ?_
        refine r_iload F dL_act_262 rfl ?_
        refine aa_18 F dL_act_264 hs (by omega) (by omega) (by omega) ?_
        refine r_astore (lv1 := [_, _, _, _, _, _, _, _, _, _, _]) F dL_act_265 (by decide) rfl rfl ?_
        refine r_iload F dL_act_267 rfl ?_
        refine r_aload F dL_act_269 rfl ?_
        refine r_iconst F dL_act_271 ?_
        refine ia_21_0 F dL_act_272 hs (by omega) (by omega) (by omega) ?_
        refine r_iload_n (i := 3) F dL_act_273 rfl rfl ?_
        refine r_icmp_eq (tgt := 281) F dL_act_274 (by decide) (by first | assumption | exact ir_of (by omega) (by omega)) (by first | assumption | exact ir_of (by omega) (by omega)) (fun h274 => ?_) (fun h274 => ?_)
        · refine r_iconst F dL_act_281 ?_
          refine r_iandX F dL_act_282 ?_
          first | rw [and_t] | rw [and_f]
          refine r_istore (lv1 := [_, _, _, _, _, _, _, _, _, _, _]) F dL_act_283 (by decide) rfl rfl ?_
          refine r_iinc (lv1 := [_, _, _, _, _, _, _, _, _, _, _]) F dL_act_285 rfl (by decide) rfl rfl ?_
          refine r_goto (tgt := 253) F dL_act_288 (by decide) ?_
          refine V.kill (lv1 := [_, _, _, _, _, _, _, _, _, _, _]) 10 rfl ?_
          have t := ih (j + 1) (by omega) (by omega)
          rw [lanQ_S S q h0] at t
          first | (rw [decide_eq_false (show ¬ S 4 j = q by omega), Bool.or_false] at t; exact t) | (rw [decide_eq_true (show S 4 j = q by omega), Bool.or_true, Bool.not_true, Bool.and_false] at t; exact t)
        · refine r_iconst F dL_act_277 ?_
          refine r_goto (tgt := 282) F dL_act_278 (by decide) ?_
          refine r_iandX F dL_act_282 ?_
          first | rw [and_t] | rw [and_f]
          refine r_istore (lv1 := [_, _, _, _, _, _, _, _, _, _, _]) F dL_act_283 (by decide) rfl rfl ?_
          refine r_iinc (lv1 := [_, _, _, _, _, _, _, _, _, _, _]) F dL_act_285 rfl (by decide) rfl rfl ?_
          refine r_goto (tgt := 253) F dL_act_288 (by decide) ?_
          refine V.kill (lv1 := [_, _, _, _, _, _, _, _, _, _, _]) 10 rfl ?_
          have t := ih (j + 1) (by omega) (by omega)
          rw [lanQ_S S q h0] at t
          first | (rw [decide_eq_false (show ¬ S 4 j = q by omega), Bool.or_false] at t; exact t) | (rw [decide_eq_true (show S 4 j = q by omega), Bool.or_true, Bool.not_true, Bool.and_false] at t; exact t)
  have k3j : ∀ z : Int, z = bi (decide (S 20 1 < 5)) → V p l e (RG 8 3 24) s m ([.ref (ad 0 0 0), .ref (ad 13 2 0), .int (i32 x)] : List Value).toArray below meth c 11 cy D ad (Aw ad s.heap.size) 0 0 (MQ below (Qa cy D ad s.heap.size (ActP ad S T h)) ([.ref (ad 0 0 0), .ref (ad 13 2 0), .int (i32 x)] : List Value).toArray s 3 24 (Aw ad s.heap.size)) 237 [some (.ref (ad 0 0 0)), some (.ref (ad 13 2 0)), some (.int (i32 x)), some (.int (i32 q)), some (.int (i32 (S 20 1))), some (.int (i32 (S 20 3))), none, none, none, none, none] [.int (i32 z)] (setc (mm S T S M) 2 S) := by
    intro z hz9
    refine r_istore (lv1 := [_, _, _, _, _, _, _, _, _, _, _]) F dL_act_237 (by decide) rfl rfl ?_
    refine r_aload_n (i := 1) F dL_act_239 rfl rfl ?_
    refine gf_L_15 F dL_act_240 hs ?_
    refine r_astore (lv1 := [_, _, _, _, _, _, _, _, _, _, _]) F dL_act_243 (by decide) rfl rfl ?_
    refine r_aload F dL_act_245 rfl ?_
    refine al_18 F dL_act_247 hs hn1 ?_
    refine r_istore (lv1 := [_, _, _, _, _, _, _, _, _, _, _]) F dL_act_248 (by decide) rfl rfl ?_
    refine r_iconst F dL_act_250 ?_
    refine r_istore (lv1 := [_, _, _, _, _, _, _, _, _, _, _]) F dL_act_251 (by decide) rfl rfl ?_
    have t := k3l (S 20 1).toNat 0 (by decide) (by omega)
    rw [show lanQ S q (0 : Int).toNat = false from rfl, Bool.not_false, Bool.and_true, ← hz9] at t
    exact t
  have k3 : V p l e (RG 8 3 24) s m ([.ref (ad 0 0 0), .ref (ad 13 2 0), .int (i32 x)] : List Value).toArray below meth c 11 cy D ad (Aw ad s.heap.size) 0 0 (MQ below (Qa cy D ad s.heap.size (ActP ad S T h)) ([.ref (ad 0 0 0), .ref (ad 13 2 0), .int (i32 x)] : List Value).toArray s 3 24 (Aw ad s.heap.size)) 226 [some (.ref (ad 0 0 0)), some (.ref (ad 13 2 0)), some (.int (i32 x)), some (.int (i32 q)), some (.int (i32 (S 20 1))), some (.int (i32 (S 20 3))), none, none, none, none, none] [] (setc (mm S T S M) 2 S) := by
    refine r_iload F dL_act_226 rfl ?_
    refine r_iconst F dL_act_228 ?_
    refine r_icmp_ge (tgt := 236) F dL_act_229 (by decide) (by first | assumption | exact ir_of (by omega) (by omega)) (by first | assumption | exact ir_of (by omega) (by omega)) (fun h229 => ?_) (fun h229 => ?_)
    · refine r_iconst F dL_act_236 ?_
      exact k3j _ (by first | (rw [decide_eq_true (by omega)]; rfl) | (rw [decide_eq_false (by omega)]; rfl))
    · refine r_iconst F dL_act_232 ?_
      refine r_goto (tgt := 237) F dL_act_233 (by decide) ?_
      exact k3j _ (by first | (rw [decide_eq_true (by omega)]; rfl) | (rw [decide_eq_false (by omega)]; rfl))
  refine V.cast (mm_self2 S T S M) ?_
  refine r_iload_n (i := 2) F dL_act_0 rfl rfl ?_
  refine r_iconst F dL_act_1 ?_
  refine r_shr F dL_act_2 ?_
  refine r_bipush F dL_act_3 (by decide) ?_
  refine r_callS F (C_L_below ⟨by omega, by omega⟩) dL_act_5 lks_L_9 rfl rfl cd_L_below (by decide) ⟨by show _ ≤ 3; omega, by show _ ≤ 24; omega⟩ (Nat.le_of_ble_eq_true rfl) ?_
  rw [eq9]
  refine r_istore_n (i := 3) (lv1 := [_, _, _, _, _, _, _, _, _, _, _]) F dL_act_8 rfl (by decide) rfl rfl ?_
  refine r_aload_n (i := 1) F dL_act_9 rfl rfl ?_
  refine gf_L_15 F dL_act_10 hs ?_
  refine al_18 F dL_act_13 hs hn1 ?_
  refine r_istore (lv1 := [_, _, _, _, _, _, _, _, _, _, _]) F dL_act_14 (by decide) rfl rfl ?_
  refine r_aload_n (i := 1) F dL_act_16 rfl rfl ?_
  refine gf_L_21 F dL_act_17 hs ?_
  refine al_20 F dL_act_20 hs hn3 ?_
  refine r_istore (lv1 := [_, _, _, _, _, _, _, _, _, _, _]) F dL_act_21 (by decide) rfl rfl ?_
  refine r_iload_n (i := 2) F dL_act_23 rfl rfl ?_
  refine r_bipush F dL_act_24 (by decide) ?_
  refine r_callS F (C_L_below ⟨by omega, by omega⟩) dL_act_26 lks_L_9 rfl rfl cd_L_below (by decide) ⟨by show _ ≤ 3; omega, by show _ ≤ 24; omega⟩ (Nat.le_of_ble_eq_true rfl) ?_
  have b16 := blw_bd (i32 x) (n := 16) (by decide)
  by_cases h12 : blw (i32 x) 16 ≤ 11
  · have hw9 : blw (i32 x) 16 = 0 ∨ blw (i32 x) 16 = 1 ∨ blw (i32 x) 16 = 2 ∨ blw (i32 x) 16 = 3 ∨ blw (i32 x) 16 = 4 ∨ blw (i32 x) 16 = 5 ∨ blw (i32 x) 16 = 6 ∨ blw (i32 x) 16 = 7 ∨ blw (i32 x) 16 = 8 ∨ blw (i32 x) 16 = 9 ∨ blw (i32 x) 16 = 10 ∨ blw (i32 x) 16 = 11 := by omega
    rcases hw9 with h9 | h9 | h9 | h9 | h9 | h9 | h9 | h9 | h9 | h9 | h9 | h9 <;> rw [h9]
    · refine r_swIn (tgt := 92) F dL_act_29 (ir_of (by omega) (by omega)) (by decide) (by decide) rfl (by decide) ?_
      exact k0
    · refine r_swIn (tgt := 150) F dL_act_29 (ir_of (by omega) (by omega)) (by decide) (by decide) rfl (by decide) ?_
      exact k1
    · refine r_swIn (tgt := 150) F dL_act_29 (ir_of (by omega) (by omega)) (by decide) (by decide) rfl (by decide) ?_
      exact k1
    · refine r_swIn (tgt := 226) F dL_act_29 (ir_of (by omega) (by omega)) (by decide) (by decide) rfl (by decide) ?_
      exact k3
    · refine r_swIn (tgt := 403) F dL_act_29 (ir_of (by omega) (by omega)) (by decide) (by decide) rfl (by decide) ?_
      exact k4
    · refine r_swIn (tgt := 403) F dL_act_29 (ir_of (by omega) (by omega)) (by decide) (by decide) rfl (by decide) ?_
      exact k4
    · refine r_swIn (tgt := 403) F dL_act_29 (ir_of (by omega) (by omega)) (by decide) (by decide) rfl (by decide) ?_
      exact k4
    · refine r_swIn (tgt := 493) F dL_act_29 (ir_of (by omega) (by omega)) (by decide) (by decide) rfl (by decide) ?_
      exact k7
    · refine r_swIn (tgt := 609) F dL_act_29 (ir_of (by omega) (by omega)) (by decide) (by decide) rfl (by decide) ?_
      exact k8
    · refine r_swIn (tgt := 609) F dL_act_29 (ir_of (by omega) (by omega)) (by decide) (by decide) rfl (by decide) ?_
      exact k8
    · refine r_swIn (tgt := 718) F dL_act_29 (ir_of (by omega) (by omega)) (by decide) (by decide) rfl (by decide) ?_
      exact k10
    · refine r_swIn (tgt := 826) F dL_act_29 (ir_of (by omega) (by omega)) (by decide) (by decide) rfl (by decide) ?_
      exact k11
  · refine r_swOut (tgt := 898) F dL_act_29 (ir_of (by omega) (by omega)) (Or.inr (by omega)) (by decide) ?_
    exact kd
