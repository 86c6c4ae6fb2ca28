/-! The class: leaves. -/
theorem Met.ofWF {y : MethodName} {l : Launch} {ws ws' : List Cond} {rm : Room} {Pc : Array Value → State → Prop} {Qc : Array Value → State → Outcome → State → Prop} {mc ms : Nat} {free : Addr → Prop} {cc : ByteArray} {maxL : Nat} {ret : Option FieldType}
    (hy : plainFor y = true) (hw : ws = Cond.code y cc maxL ret :: ws')
    (body : ∀ p e s m args below meth c s₁, BodyLoose p l y (headSpec ws rm) cc maxL ret e s m args below meth c s₁ → c.maxLocals = maxL → Pc args s →
      W p l e (headSpec ws rm).room s m args below meth c s.heap [] 0 0 (MQ below Qc args s mc ms free) (entryFrame m args maxL)) : Met l y ws rm Pc Qc mc ms free := by
  refine MetFree.of_bodySF (code := cc) (maxLocals := maxL) (ret := ret) hy ?_ ?_
  · intro args s m h hn
    obtain ⟨meth, c, h1, h2, h3, h4, h5, h6, -, -⟩ := Cond.code_spec hn (atoms_spec (ws := ws) h _ (by rw [hw]; exact List.mem_cons_self))
    exact ⟨meth, c, h1, h2, h3, h4, h5, h6⟩
  · intro p e s m args below meth c s₁ B hml hP _
    have hh0 : s₁.heap = s.heap := by rw [B.state]; rfl
    obtain ⟨t, a1, o, b1, b2, b3⟩ := body p e s m args below meth c s₁ B hml hP s₁ hh0 (Stand.of_body B)
    exact ⟨t, o, a1, b1, b2, ⟨b3.1, b3.2⟩⟩
theorem Ct.mkF {l : Launch} {cy : Nat → ClassId} {D : va_G} {ad : Nat → Nat → Int → Nat} {y : MethodName} {bytes : ByteArray} {maxL : Nat} {ret : Option FieldType} {lev : Nat} {As : List Value} {M M1 : Mem} {r : Option Value} {lv : List (Option Value)} (n : Nat)
    (hy : plainFor y = true) (hlv : lve As ++ List.replicate n none = lv) (hlen : (lg_sl As).length ≤ maxL)
    (body : ∀ (p : Program) (e : Env) (s : State) (m : MethodId) (below : List Frame) (meth : Method) (c : Code), Fx p s m As.toArray meth c y.cls bytes maxL ret cy D ad (Aw ad s.heap.size) →
      V p l e (RM lev) s m As.toArray below meth c maxL cy D ad (Aw ad s.heap.size) 0 0 (MQ below (Qn cy D ad s.heap.size r M1) As.toArray s 0 0 (Aw ad s.heap.size)) 0 lv [] M) : Ct l cy D ad y bytes maxL ret lev As M r M1 := by
  intro sz
  refine Met.ofWF (cc := bytes) (maxL := maxL) (ret := ret) hy rfl ?_
  intro p e s m args below meth c s₁ B hml hv
  obtain ⟨rfl, hsz, hP, hK, hI⟩ := hv
  subst hsz
  have hts : ∀ w ∈ TB, w.before As.toArray s = true := fun w hw => atoms_spec (ws := wsT y bytes maxL ret) B.pre w (List.mem_cons_of_mem _ hw)
  have F : Fx p s m As.toArray meth c y.cls bytes maxL ret cy D ad (Aw ad s.heap.size) := ⟨B.exec, B.bytes, hml, findClass_of_methodNamed B.named, B.returns, B.notSynchronized, hts, hK, hI, fun t c i h => Or.inl ⟨t, c, i, h, rfl⟩, fun q h => Or.inr h⟩
  have hl := lv_entry As (n := maxL) hlen
  rw [lg_entry_eq]
  refine body p e s m below meth c F s.heap [] _ hP va_S.rf ⟨hl.1, hl.2.1, fun i v hi => hl.2.2 (i, v) ?_⟩
  have hi2 : (lve As)[i]? = some (some v) := by
    rw [← hlv] at hi
    by_cases h : i < (lve As).length
    · rw [List.getElem?_append_left h] at hi
      exact hi
    · rw [List.getElem?_append_right (by omega), List.getElem?_replicate] at hi
      split at hi <;> cases hi
  simpa using lve_mem As 0 i v hi2

set_option maxHeartbeats 4000000 in
set_option maxRecDepth 100000 in
theorem C_J9_floorMod_7cf53 {l : Launch} {cy : Nat → ClassId} {D : va_G} {ad : Nat → Nat → Int → Nat} {M : Mem} {a b : Int} (h0 : 0 ≤ a) (h1 : a < 2147483648) (h2 : 0 < b) (h3 : b < 2147483648) : Ct l cy D ad yJ9_floorMod_7cf53 cJ9_floorMod_7cf53 3 (some .int) 0 [.int (i32 a), .int (i32 b)] (M) (some (.int (i32 (a % b)))) (M) := by
  refine Ct.mkF (lv := [some _, some _, none]) 1 (by decide +kernel) rfl (Nat.le_of_ble_eq_true rfl) (fun p e s m below meth c F => ?_)
  have hz : ¬ (i32 a ^^^ i32 b) < 0 := by
    intro h
    rw [Int32.lt_iff_toInt_lt] at h
    have e : (i32 a ^^^ i32 b).toBitVec.msb = ((i32 a).toBitVec.msb ^^ (i32 b).toBitVec.msb) := by rw [Int32.toBitVec_xor, BitVec.msb_xor]
    have ea : (i32 a).toBitVec.msb = false := by rw [BitVec.msb_eq_toInt]; exact decide_eq_false (by have := i32_T (a := a) ⟨by omega, by omega⟩; show ¬ (i32 a).toInt < 0; omega)
    have eb : (i32 b).toBitVec.msb = false := by rw [BitVec.msb_eq_toInt]; exact decide_eq_false (by have := i32_T (a := b) ⟨by omega, by omega⟩; show ¬ (i32 b).toInt < 0; omega)
    rw [ea, eb, BitVec.msb_eq_toInt] at e
    have e2 := of_decide_eq_false e
    exact e2 h
  refine r_iload_n (i := 0) F dJ9_floorMod_7cf53_0 rfl rfl ?_
  refine r_iload_n (i := 1) F dJ9_floorMod_7cf53_1 rfl rfl ?_
  refine r_irem F dJ9_floorMod_7cf53_2 h0 h1 h2 h3 ?_
  refine r_istore_n (i := 2) (lv1 := [_, _, _]) F dJ9_floorMod_7cf53_3 rfl (by decide) rfl rfl ?_
  refine r_iload_n (i := 0) F dJ9_floorMod_7cf53_4 rfl rfl ?_
  refine r_iload_n (i := 1) F dJ9_floorMod_7cf53_5 rfl rfl ?_
  obtain ⟨hx, hb, -⟩ := id F
  intro H locs ls hP hS hl
  refine lv_ixor hx hb dJ9_floorMod_7cf53_6 ?_
  refine lv_if_ge (tgt := 18) hx hb dJ9_floorMod_7cf53_7 (by decide) (fun h => ?_) (fun h => absurd h (fun h5 => hz (Int32.not_le.mp h5)))
  exact (r_iload_n (i := 2) F dJ9_floorMod_7cf53_18 rfl rfl (r_iret F dJ9_floorMod_7cf53_19 rfl rfl rfl)) H locs ls hP hS hl

set_option maxHeartbeats 4000000 in
set_option maxRecDepth 100000 in
theorem C_X4_moonOf {l : Launch} {cy : Nat → ClassId} {D : va_G} {ad : Nat → Nat → Int → Nat} {M : Mem} {n : Int} (h0 : 0 ≤ n) (h1 : n < 2147483648) : Ct l cy D ad yX4_moonOf cX4_moonOf 2 (some .int) 1 [.int (i32 n)] (M) (some (.int (i32 (moonOf n)))) (M) := by
  refine Ct.mk (lv := [some _, none]) 1 (by decide) rfl (Nat.le_of_ble_eq_true rfl) (fun p e s m below meth c F => ?_)
  refine r_iload_n (i := 0) F dX4_moonOf_0 rfl rfl ?_
  refine r_bipush F dX4_moonOf_1 (by decide) ?_
  refine r_callS F (C_J9_floorMod_7cf53 (by omega) (by omega) (by omega) (by omega)) dX4_moonOf_3 lks_X4_257 rfl rfl cd_J9_floorMod_7cf53 (by decide) ⟨Nat.le_refl _, Nat.le_refl _⟩ (Nat.le_of_ble_eq_true rfl) ?_
  refine r_bipush F dX4_moonOf_6 (by decide) ?_
  refine r_isub F dX4_moonOf_8 ?_
  refine r_istore_n (i := 1) (lv1 := [_, _]) F dX4_moonOf_9 rfl (by decide) rfl rfl ?_
  refine r_iload_n (i := 1) F dX4_moonOf_10 rfl rfl ?_
  refine r_if_ge (tgt := 19) F dX4_moonOf_11 (by decide) (by first | assumption | exact ir_of (by omega) (by omega)) (fun h11 => ?_) (fun h11 => ?_)
  · refine r_iload_n (i := 1) F dX4_moonOf_19 rfl rfl ?_
    exact r_iret F dX4_moonOf_20 rfl (by unfold moonOf; have := iabs_or (n % 12 - 6); omega) rfl
  · refine r_iload_n (i := 1) F dX4_moonOf_14 rfl rfl ?_
    refine r_ineg F dX4_moonOf_15 ?_
    refine r_goto (tgt := 20) F dX4_moonOf_16 (by decide) ?_
    exact r_iret F dX4_moonOf_20 rfl (by unfold moonOf; have := iabs_or (n % 12 - 6); omega) rfl

set_option maxHeartbeats 4000000 in
set_option maxRecDepth 100000 in
theorem C_X4_distance {l : Launch} {cy : Nat → ClassId} {D : va_G} {ad : Nat → Nat → Int → Nat} {M : Mem} {a b : Int} (ha : -1000 ≤ a ∧ a ≤ 1000) (hb : -1000 ≤ b ∧ b ≤ 1000) : Ct l cy D ad yX4_distance cX4_distance 2 (some .int) 0 [.int (i32 a), .int (i32 b)] (M) (some (.int (i32 (iabs (a - b))))) (M) := by
  refine Ct.mk (lv := [some _, some _]) 0 (by decide) rfl (Nat.le_of_ble_eq_true rfl) (fun p e s m below meth c F => ?_)
  refine r_iload_n (i := 0) F dX4_distance_0 rfl rfl ?_
  refine r_iload_n (i := 1) F dX4_distance_1 rfl rfl ?_
  refine r_icmp_ge (tgt := 11) F dX4_distance_2 (by decide) (by first | assumption | exact ir_of (by omega) (by omega)) (by first | assumption | exact ir_of (by omega) (by omega)) (fun h2 => ?_) (fun h2 => ?_)
  · refine r_iload_n (i := 0) F dX4_distance_11 rfl rfl ?_
    refine r_iload_n (i := 1) F dX4_distance_12 rfl rfl ?_
    refine r_isub F dX4_distance_13 ?_
    exact r_iret F dX4_distance_14 rfl (by have := iabs_or (a - b); omega) rfl
  · refine r_iload_n (i := 1) F dX4_distance_5 rfl rfl ?_
    refine r_iload_n (i := 0) F dX4_distance_6 rfl rfl ?_
    refine r_isub F dX4_distance_7 ?_
    refine r_goto (tgt := 14) F dX4_distance_8 (by decide) ?_
    exact r_iret F dX4_distance_14 rfl (by have := iabs_or (a - b); omega) rfl

set_option maxHeartbeats 4000000 in
set_option maxRecDepth 100000 in
theorem C_X0_begin {l : Launch} {cy : Nat → ClassId} {D : va_G} {ad : Nat → Nat → Int → Nat} {M : Mem} {k : Nat} {S : St} {x q b : Int} (hc : k < 2) (hx : 0 ≤ x ∧ x < 6) : Ct l cy D ad yX0_begin cX0_begin 3 none 0 [.ref (ad 12 k x), .int (i32 q), .int (i32 b)] (setc M k S) none (setc M k (boat0 S x q b)) := by
  refine Ct.mk (lv := [some _, some _, some _]) 0 (by decide) rfl (Nat.le_of_ble_eq_true rfl) (fun p e s m below meth c F => ?_)
  refine r_aload_n (i := 0) F dX0_begin_0 rfl rfl ?_
  refine r_iload_n (i := 1) F dX0_begin_1 rfl rfl ?_
  refine pf_X0_9 F dX0_begin_2 hc (by omega) (by omega) ?_
  refine r_aload_n (i := 0) F dX0_begin_5 rfl rfl ?_
  refine r_iload_n (i := 2) F dX0_begin_6 rfl rfl ?_
  refine pf_X0_15 F dX0_begin_7 hc (by omega) (by omega) ?_
  refine r_aload_n (i := 0) F dX0_begin_10 rfl rfl ?_
  refine r_iconst F dX0_begin_11 ?_
  refine pf_X0_18 F dX0_begin_12 hc (by omega) (by omega) ?_
  refine r_aload_n (i := 0) F dX0_begin_15 rfl rfl ?_
  refine r_iconst F dX0_begin_16 ?_
  refine pf_X0_21 F dX0_begin_17 hc (by omega) (by omega) ?_
  refine r_aload_n (i := 0) F dX0_begin_20 rfl rfl ?_
  refine r_iconst F dX0_begin_21 ?_
  refine pf_X0_24 F dX0_begin_22 hc (by omega) (by omega) (by decide) ?_
  refine r_aload_n (i := 0) F dX0_begin_25 rfl rfl ?_
  refine r_iconst F dX0_begin_26 ?_
  refine pf_X0_28 F dX0_begin_27 hc (by omega) (by omega) ?_
  refine r_aload_n (i := 0) F dX0_begin_30 rfl rfl ?_
  refine r_iconst F dX0_begin_31 ?_
  refine pf_X0_31 F dX0_begin_32 hc (by omega) (by omega) ?_
  exact r_vret F dX0_begin_35 rfl rfl

set_option maxHeartbeats 4000000 in
set_option maxRecDepth 100000 in
theorem C_X0_sendTo {l : Launch} {cy : Nat → ClassId} {D : va_G} {ad : Nat → Nat → Int → Nat} {M : Mem} {k : Nat} {S : St} {x q : Int} (hc : k < 2) (hx : 0 ≤ x ∧ x < 6) (hq : -1 ≤ q ∧ q ≤ 15) : Ct l cy D ad yX0_sendTo cX0_sendTo 2 none 0 [.ref (ad 12 k x), .int (i32 q)] (setc M k S) none (setc M k (sendS S x q)) := by
  refine Ct.mk (lv := [some _, some _]) 0 (by decide) rfl (Nat.le_of_ble_eq_true rfl) (fun p e s m below meth c F => ?_)
  refine r_aload_n (i := 0) F dX0_sendTo_0 rfl rfl ?_
  refine r_iload_n (i := 1) F dX0_sendTo_1 rfl rfl ?_
  refine pf_X0_18 F dX0_sendTo_2 hc (by omega) (by omega) ?_
  refine r_aload_n (i := 0) F dX0_sendTo_5 rfl rfl ?_
  refine r_iload_n (i := 1) F dX0_sendTo_6 rfl rfl ?_
  refine r_iconst F dX0_sendTo_7 ?_
  refine r_icmp_ne (tgt := 15) F dX0_sendTo_8 (by decide) (by first | assumption | exact ir_of (by omega) (by omega)) (by first | assumption | exact ir_of (by omega) (by omega)) (fun h8 => ?_) (fun h8 => ?_)
  · refine r_iconst F dX0_sendTo_15 ?_
    refine pf_X0_24 F dX0_sendTo_16 hc (by omega) (by omega) (by decide) ?_
    refine r_aload_n (i := 0) F dX0_sendTo_19 rfl rfl ?_
    refine r_iconst F dX0_sendTo_20 ?_
    refine pf_X0_21 F dX0_sendTo_21 hc (by omega) (by omega) ?_
    exact r_vret F dX0_sendTo_24 rfl (congrArg (setc M k) (by unfold sendS; first | rw [if_pos h8] | rw [if_neg h8]))
  · refine r_iconst F dX0_sendTo_11 ?_
    refine r_goto (tgt := 16) F dX0_sendTo_12 (by decide) ?_
    refine pf_X0_24 F dX0_sendTo_16 hc (by omega) (by omega) (by decide) ?_
    refine r_aload_n (i := 0) F dX0_sendTo_19 rfl rfl ?_
    refine r_iconst F dX0_sendTo_20 ?_
    refine pf_X0_21 F dX0_sendTo_21 hc (by omega) (by omega) ?_
    exact r_vret F dX0_sendTo_24 rfl (congrArg (setc M k) (by unfold sendS; first | rw [if_pos h8] | rw [if_neg h8]))

set_option maxHeartbeats 4000000 in
set_option maxRecDepth 100000 in
theorem C_X0_liesAtGoal {l : Launch} {cy : Nat → ClassId} {D : va_G} {ad : Nat → Nat → Int → Nat} {M : Mem} {k : Nat} {S : St} {x : Int} (hc : k < 2) (hI : Inv S) (hx : 0 ≤ x ∧ x < 6) : Ct l cy D ad yX0_liesAtGoal cX0_liesAtGoal 1 (some .boolean) 0 [.ref (ad 12 k x)] (setc M k S) (some (.int (i32 (bi (there S x))))) (setc M k S) := by
  refine Ct.mk (lv := [some _]) 0 (by decide) rfl (Nat.le_of_ble_eq_true rfl) (fun p e s m below meth c F => ?_)
  have b13 := hI.p13 x
  have b15 := hI.p15 x
  have b18 := hI.p18 x
  refine r_aload_n (i := 0) F dX0_liesAtGoal_0 rfl rfl ?_
  refine gf_X0_28 F dX0_liesAtGoal_1 hc (by omega) (by omega) ?_
  refine r_if_ne (tgt := 22) F dX0_liesAtGoal_4 (by decide) (by first | assumption | exact ir_of (by omega) (by omega)) (fun h4 => ?_) (fun h4 => ?_)
  · refine r_iconst F dX0_liesAtGoal_22 ?_
    exact r_zret F dX0_liesAtGoal_23 rfl (by unfold there; simp [bi, *]) rfl
  · refine r_aload_n (i := 0) F dX0_liesAtGoal_7 rfl rfl ?_
    refine gf_X0_18 F dX0_liesAtGoal_8 hc (by omega) (by omega) ?_
    refine r_aload_n (i := 0) F dX0_liesAtGoal_11 rfl rfl ?_
    refine gf_X0_9 F dX0_liesAtGoal_12 hc (by omega) (by omega) ?_
    refine r_icmp_ne (tgt := 22) F dX0_liesAtGoal_15 (by decide) (by first | assumption | exact ir_of (by omega) (by omega)) (by first | assumption | exact ir_of (by omega) (by omega)) (fun h15 => ?_) (fun h15 => ?_)
    · refine r_iconst F dX0_liesAtGoal_22 ?_
      exact r_zret F dX0_liesAtGoal_23 rfl (by unfold there; simp [bi, *]) rfl
    · refine r_iconst F dX0_liesAtGoal_18 ?_
      refine r_goto (tgt := 23) F dX0_liesAtGoal_19 (by decide) ?_
      exact r_zret F dX0_liesAtGoal_23 rfl (by unfold there; simp [bi, *]) rfl

set_option maxHeartbeats 4000000 in
set_option maxRecDepth 100000 in
theorem C_X0_sail {l : Launch} {cy : Nat → ClassId} {D : va_G} {ad : Nat → Nat → Int → Nat} {M : Mem} {k : Nat} {S : St} {x : Int} (hc : k < 2) (hI : Inv S) (hx : 0 ≤ x ∧ x < 6) : Ct l cy D ad yX0_sail cX0_sail 3 none 1 [.ref (ad 12 k x)] (setc M k S) none (setc M k (mvS S x)) := by
  refine Ct.mk (lv := [some _, none, none]) 2 (by decide) rfl (Nat.le_of_ble_eq_true rfl) (fun p e s m below meth c F => ?_)
  have b13 := hI.p13 x
  have b15 := hI.p15 x
  have ho := iabs_or (S 13 x - S 15 x)
  refine r_aload_n (i := 0) F dX0_sail_0 rfl rfl ?_
  refine gf_X0_18 F dX0_sail_1 hc (by omega) (by omega) ?_
  refine r_iconst F dX0_sail_4 ?_
  refine r_icmp_ne (tgt := 9) F dX0_sail_5 (by decide) (by first | assumption | exact ir_of (by omega) (by omega)) (by first | assumption | exact ir_of (by omega) (by omega)) (fun h5 => ?_) (fun h5 => ?_)
  · refine r_aload_n (i := 0) F dX0_sail_9 rfl rfl ?_
    refine gf_X0_9 F dX0_sail_10 hc (by omega) (by omega) ?_
    refine r_aload_n (i := 0) F dX0_sail_13 rfl rfl ?_
    refine gf_X0_18 F dX0_sail_14 hc (by omega) (by omega) ?_
    refine r_callSN F (C_X4_distance (by omega) (by omega)) dX0_sail_17 lksn_X0_34 rfl rfl cd_X4_distance (by decide) ⟨Nat.le_refl _, Nat.le_refl _⟩ (Nat.le_of_ble_eq_true rfl) ?_
    refine r_istore_n (i := 1) (lv1 := [_, _, _]) F dX0_sail_20 rfl (by decide) rfl rfl ?_
    refine r_iload_n (i := 1) F dX0_sail_21 rfl rfl ?_
    refine r_iconst F dX0_sail_22 ?_
    refine r_icmp_ge (tgt := 30) F dX0_sail_23 (by decide) (by first | assumption | exact ir_of (by omega) (by omega)) (by first | assumption | exact ir_of (by omega) (by omega)) (fun h23 => ?_) (fun h23 => ?_)
    · refine r_iconst F dX0_sail_30 ?_
      refine r_istore_n (i := 2) (lv1 := [_, _, _]) F dX0_sail_31 rfl (by decide) rfl rfl ?_
      refine r_aload_n (i := 0) F dX0_sail_32 rfl rfl ?_
      refine r_dup F dX0_sail_33 rfl ?_
      refine gf_X0_9 F dX0_sail_34 hc (by omega) (by omega) ?_
      refine r_aload_n (i := 0) F dX0_sail_37 rfl rfl ?_
      refine gf_X0_18 F dX0_sail_38 hc (by omega) (by omega) ?_
      refine r_aload_n (i := 0) F dX0_sail_41 rfl rfl ?_
      refine gf_X0_9 F dX0_sail_42 hc (by omega) (by omega) ?_
      refine r_icmp_ge (tgt := 53) F dX0_sail_45 (by decide) (by first | assumption | exact ir_of (by omega) (by omega)) (by first | assumption | exact ir_of (by omega) (by omega)) (fun h45 => ?_) (fun h45 => ?_)
      · refine r_iload_n (i := 2) F dX0_sail_53 rfl rfl ?_
        refine r_iadd F dX0_sail_54 ?_
        refine pf_X0_9 F dX0_sail_55 hc (by omega) (by omega) ?_
        exact r_vret F dX0_sail_58 rfl (congrArg (setc M k) (by unfold mvS; first | rw [if_pos h5] | (rw [if_neg h5]; exact congrArg (u2 S 13 x) (by omega))))
      · refine r_iload_n (i := 2) F dX0_sail_48 rfl rfl ?_
        refine r_ineg F dX0_sail_49 ?_
        refine r_goto (tgt := 54) F dX0_sail_50 (by decide) ?_
        refine r_iadd F dX0_sail_54 ?_
        refine pf_X0_9 F dX0_sail_55 hc (by omega) (by omega) ?_
        exact r_vret F dX0_sail_58 rfl (congrArg (setc M k) (by unfold mvS; first | rw [if_pos h5] | (rw [if_neg h5]; exact congrArg (u2 S 13 x) (by omega))))
    · refine r_iload_n (i := 1) F dX0_sail_26 rfl rfl ?_
      refine r_goto (tgt := 31) F dX0_sail_27 (by decide) ?_
      refine r_istore_n (i := 2) (lv1 := [_, _, _]) F dX0_sail_31 rfl (by decide) rfl rfl ?_
      refine r_aload_n (i := 0) F dX0_sail_32 rfl rfl ?_
      refine r_dup F dX0_sail_33 rfl ?_
      refine gf_X0_9 F dX0_sail_34 hc (by omega) (by omega) ?_
      refine r_aload_n (i := 0) F dX0_sail_37 rfl rfl ?_
      refine gf_X0_18 F dX0_sail_38 hc (by omega) (by omega) ?_
      refine r_aload_n (i := 0) F dX0_sail_41 rfl rfl ?_
      refine gf_X0_9 F dX0_sail_42 hc (by omega) (by omega) ?_
      refine r_icmp_ge (tgt := 53) F dX0_sail_45 (by decide) (by first | assumption | exact ir_of (by omega) (by omega)) (by first | assumption | exact ir_of (by omega) (by omega)) (fun h45 => ?_) (fun h45 => ?_)
      · refine r_iload_n (i := 2) F dX0_sail_53 rfl rfl ?_
        refine r_iadd F dX0_sail_54 ?_
        refine pf_X0_9 F dX0_sail_55 hc (by omega) (by omega) ?_
        exact r_vret F dX0_sail_58 rfl (congrArg (setc M k) (by unfold mvS; first | rw [if_pos h5] | (rw [if_neg h5]; exact congrArg (u2 S 13 x) (by omega))))
      · refine r_iload_n (i := 2) F dX0_sail_48 rfl rfl ?_
        refine r_ineg F dX0_sail_49 ?_
        refine r_goto (tgt := 54) F dX0_sail_50 (by decide) ?_
        refine r_iadd F dX0_sail_54 ?_
        refine pf_X0_9 F dX0_sail_55 hc (by omega) (by omega) ?_
        exact r_vret F dX0_sail_58 rfl (congrArg (setc M k) (by unfold mvS; first | rw [if_pos h5] | (rw [if_neg h5]; exact congrArg (u2 S 13 x) (by omega))))
  · exact r_vret F dX0_sail_8 rfl (congrArg (setc M k) (by unfold mvS; first | rw [if_pos h5] | (rw [if_neg h5]; exact congrArg (u2 S 13 x) (by omega))))

set_option maxHeartbeats 4000000 in
set_option maxRecDepth 100000 in
theorem C_X0_stage {l : Launch} {cy : Nat → ClassId} {D : va_G} {ad : Nat → Nat → Int → Nat} {M : Mem} {k : Nat} {S : St} {x : Int} (hc : k < 2) (hI : Inv S) (hx : 0 ≤ x ∧ x < 6) : Ct l cy D ad yX0_stage cX0_stage 1 (some .int) 0 [.ref (ad 12 k x)] (setc M k S) (some (.int (i32 (stg S x)))) (setc M k S) := by
  refine Ct.mk (lv := [some _]) 0 (by decide) rfl (Nat.le_of_ble_eq_true rfl) (fun p e s m below meth c F => ?_)
  have b13 := hI.p13 x
  have b15 := hI.p15 x
  have b18 := hI.p18 x
  refine r_aload_n (i := 0) F dX0_stage_0 rfl rfl ?_
  refine gf_X0_28 F dX0_stage_1 hc (by omega) (by omega) ?_
  refine r_iconst F dX0_stage_4 ?_
  refine r_icmp_ne (tgt := 10) F dX0_stage_5 (by decide) (by first | assumption | exact ir_of (by omega) (by omega)) (by first | assumption | exact ir_of (by omega) (by omega)) (fun h5 => ?_) (fun h5 => ?_)
  · refine r_aload_n (i := 0) F dX0_stage_10 rfl rfl ?_
    refine gf_X0_28 F dX0_stage_11 hc (by omega) (by omega) ?_
    refine r_iconst F dX0_stage_14 ?_
    refine r_icmp_ne (tgt := 20) F dX0_stage_15 (by decide) (by first | assumption | exact ir_of (by omega) (by omega)) (by first | assumption | exact ir_of (by omega) (by omega)) (fun h15 => ?_) (fun h15 => ?_)
    · refine r_aload_n (i := 0) F dX0_stage_20 rfl rfl ?_
      refine gf_X0_18 F dX0_stage_21 hc (by omega) (by omega) ?_
      refine r_iconst F dX0_stage_24 ?_
      refine r_icmp_ne (tgt := 30) F dX0_stage_25 (by decide) (by first | assumption | exact ir_of (by omega) (by omega)) (by first | assumption | exact ir_of (by omega) (by omega)) (fun h25 => ?_) (fun h25 => ?_)
      · refine r_aload_n (i := 0) F dX0_stage_30 rfl rfl ?_
        refine gf_X0_18 F dX0_stage_31 hc (by omega) (by omega) ?_
        refine r_aload_n (i := 0) F dX0_stage_34 rfl rfl ?_
        refine gf_X0_9 F dX0_stage_35 hc (by omega) (by omega) ?_
        refine r_icmp_ne (tgt := 45) F dX0_stage_38 (by decide) (by first | assumption | exact ir_of (by omega) (by omega)) (by first | assumption | exact ir_of (by omega) (by omega)) (fun h38 => ?_) (fun h38 => ?_)
        · refine r_iconst F dX0_stage_45 ?_
          exact r_iret F dX0_stage_46 rfl (by unfold stg; (repeat' split) <;> omega) rfl
        · refine r_iconst F dX0_stage_41 ?_
          refine r_goto (tgt := 46) F dX0_stage_42 (by decide) ?_
          exact r_iret F dX0_stage_46 rfl (by unfold stg; (repeat' split) <;> omega) rfl
      · refine r_iconst F dX0_stage_28 ?_
        exact r_iret F dX0_stage_29 rfl (by unfold stg; (repeat' split) <;> omega) rfl
    · refine r_iconst F dX0_stage_18 ?_
      exact r_iret F dX0_stage_19 rfl (by unfold stg; (repeat' split) <;> omega) rfl
  · refine r_iconst F dX0_stage_8 ?_
    exact r_iret F dX0_stage_9 rfl (by unfold stg; (repeat' split) <;> omega) rfl

set_option maxHeartbeats 4000000 in
set_option maxRecDepth 100000 in
theorem C_X0_tell {l : Launch} {cy : Nat → ClassId} {D : va_G} {ad : Nat → Nat → Int → Nat} {M : Mem} {k : Nat} {S : St} {x w : Int} (hc : k < 2) (hI : Inv S) (hx : 0 ≤ x ∧ x < 6) (hw : 0 ≤ w ∧ w ≤ 6) : Ct l cy D ad yX0_tell cX0_tell 2 (some .int) 1 [.ref (ad 12 k x), .int (i32 w)] (setc M k S) (some (.int (i32 (toldF S x w)))) (setc M k S) := by
  refine Ct.mk (lv := [some _, some _]) 0 (by decide) rfl (Nat.le_of_ble_eq_true rfl) (fun p e s m below meth c F => ?_)
  have b17 := hI.p17 x
  refine r_iload_n (i := 1) F dX0_tell_0 rfl rfl ?_
  have hq : w = 0 ∨ w = 1 ∨ w = 2 ∨ w = 3 ∨ w = 4 ∨ w = 5 ∨ w = 6 := by omega
  rcases hq with rfl | rfl | rfl | rfl | rfl | rfl | rfl
  · refine r_swIn (tgt := 40) F dX0_tell_1 (ir_of (by omega) (by omega)) (by decide) (by decide) rfl (by decide) ?_
    refine r_aload_n (i := 0) F dX0_tell_40 rfl rfl ?_
    refine gf_X0_9 F dX0_tell_41 hc (by omega) (by omega) ?_
    exact r_iret F dX0_tell_44 rfl (by first | rfl | (show _ = S 17 x; omega)) rfl
  · refine r_swIn (tgt := 45) F dX0_tell_1 (ir_of (by omega) (by omega)) (by decide) (by decide) rfl (by decide) ?_
    refine r_aload_n (i := 0) F dX0_tell_45 rfl rfl ?_
    refine gf_X0_15 F dX0_tell_46 hc (by omega) (by omega) ?_
    exact r_iret F dX0_tell_49 rfl (by first | rfl | (show _ = S 17 x; omega)) rfl
  · refine r_swIn (tgt := 50) F dX0_tell_1 (ir_of (by omega) (by omega)) (by decide) (by decide) rfl (by decide) ?_
    refine r_aload_n (i := 0) F dX0_tell_50 rfl rfl ?_
    refine gf_X0_18 F dX0_tell_51 hc (by omega) (by omega) ?_
    exact r_iret F dX0_tell_54 rfl (by first | rfl | (show _ = S 17 x; omega)) rfl
  · refine r_swIn (tgt := 55) F dX0_tell_1 (ir_of (by omega) (by omega)) (by decide) (by decide) rfl (by decide) ?_
    refine r_aload_n (i := 0) F dX0_tell_55 rfl rfl ?_
    refine r_callV F (C_X0_stage hc hI hx) dX0_tell_56 lkv_X0_38 rfl rfl (dm12 hc (by omega) (by omega)) rfl rfl cd_X0_stage (by decide) ⟨Nat.le_refl _, Nat.le_refl _⟩ (Nat.le_of_ble_eq_true rfl) ?_
    exact r_iret F dX0_tell_59 rfl (by first | rfl | (show _ = S 17 x; omega)) rfl
  · refine r_swIn (tgt := 60) F dX0_tell_1 (ir_of (by omega) (by omega)) (by decide) (by decide) rfl (by decide) ?_
    refine r_aload_n (i := 0) F dX0_tell_60 rfl rfl ?_
    refine gf_X0_31 F dX0_tell_61 hc (by omega) (by omega) ?_
    exact r_iret F dX0_tell_64 rfl (by first | rfl | (show _ = S 17 x; omega)) rfl
  · refine r_swIn (tgt := 65) F dX0_tell_1 (ir_of (by omega) (by omega)) (by decide) (by decide) rfl (by decide) ?_
    refine r_aload_n (i := 0) F dX0_tell_65 rfl rfl ?_
    refine gf_X0_21 F dX0_tell_66 hc (by omega) (by omega) ?_
    exact r_iret F dX0_tell_69 rfl (by first | rfl | (show _ = S 17 x; omega)) rfl
  · refine r_swOut (tgt := 70) F dX0_tell_1 (ir_of (by omega) (by omega)) (by omega) (by decide) ?_
    refine r_aload_n (i := 0) F dX0_tell_70 rfl rfl ?_
    refine gf_X0_24 F dX0_tell_71 hc (by omega) (by omega) ?_
    refine r_if_eq (tgt := 81) F dX0_tell_74 (by decide) (by first | assumption | exact ir_of (by omega) (by omega)) (fun h74 => ?_) (fun h74 => ?_)
    · refine r_iconst F dX0_tell_81 ?_
      exact r_iret F dX0_tell_82 rfl (by first | rfl | (show _ = S 17 x; omega)) rfl
    · refine r_iconst F dX0_tell_77 ?_
      refine r_goto (tgt := 82) F dX0_tell_78 (by decide) ?_
      exact r_iret F dX0_tell_82 rfl (by first | rfl | (show _ = S 17 x; omega)) rfl

set_option maxHeartbeats 4000000 in
set_option maxRecDepth 100000 in
theorem C_X3_begin {l : Launch} {cy : Nat → ClassId} {D : va_G} {ad : Nat → Nat → Int → Nat} {M : Mem} {k : Nat} {S : St} {x f t g : Int} (hc : k < 2) (hx : 0 ≤ x ∧ x < 4) : Ct l cy D ad yX3_begin cX3_begin 4 none 0 [.ref (ad 11 k x), .int (i32 f), .int (i32 t), .int (i32 g)] (setc M k S) none (setc M k (wat0 S x f t g)) := by
  refine Ct.mk (lv := [some _, some _, some _, some _]) 0 (by decide) rfl (Nat.le_of_ble_eq_true rfl) (fun p e s m below meth c F => ?_)
  refine r_aload_n (i := 0) F dX3_begin_0 rfl rfl ?_
  refine r_iload_n (i := 1) F dX3_begin_1 rfl rfl ?_
  refine pf_X3_7 F dX3_begin_2 hc (by omega) (by omega) ?_
  refine r_aload_n (i := 0) F dX3_begin_5 rfl rfl ?_
  refine r_iload_n (i := 2) F dX3_begin_6 rfl rfl ?_
  refine pf_X3_13 F dX3_begin_7 hc (by omega) (by omega) ?_
  refine r_aload_n (i := 0) F dX3_begin_10 rfl rfl ?_
  refine r_iload_n (i := 3) F dX3_begin_11 rfl rfl ?_
  refine pf_X3_16 F dX3_begin_12 hc (by omega) (by omega) ?_
  refine r_aload_n (i := 0) F dX3_begin_15 rfl rfl ?_
  refine r_iload_n (i := 1) F dX3_begin_16 rfl rfl ?_
  refine pf_X3_19 F dX3_begin_17 hc (by omega) (by omega) ?_
  refine r_aload_n (i := 0) F dX3_begin_20 rfl rfl ?_
  refine r_iconst F dX3_begin_21 ?_
  refine pf_X3_22 F dX3_begin_22 hc (by omega) (by omega) ?_
  refine r_aload_n (i := 0) F dX3_begin_25 rfl rfl ?_
  refine r_iconst F dX3_begin_26 ?_
  refine pf_X3_25 F dX3_begin_27 hc (by omega) (by omega) ?_
  exact r_vret F dX3_begin_30 rfl rfl

set_option maxHeartbeats 4000000 in
set_option maxRecDepth 100000 in
theorem C_X3_sightOfPlaces {l : Launch} {cy : Nat → ClassId} {D : va_G} {ad : Nat → Nat → Int → Nat} {M : Mem} {k : Nat} {S : St} {x mn : Int} (hc : k < 2) (hx : 0 ≤ x ∧ x < 4) (hm : 0 ≤ mn ∧ mn ≤ 6) : Ct l cy D ad yX3_sightOfPlaces cX3_sightOfPlaces 2 (some .int) 0 [.ref (ad 11 k x), .int (i32 mn)] (setc M k S) (some (.int (i32 (S 9 x + mn / 2)))) (setc M k S) := by
  refine Ct.mk (lv := [some _, some _]) 0 (by decide) rfl (Nat.le_of_ble_eq_true rfl) (fun p e s m below meth c F => ?_)
  refine r_aload_n (i := 0) F dX3_sightOfPlaces_0 rfl rfl ?_
  refine gf_X3_16 F dX3_sightOfPlaces_1 hc (by omega) (by omega) ?_
  refine r_iload_n (i := 1) F dX3_sightOfPlaces_4 rfl rfl ?_
  refine r_iconst F dX3_sightOfPlaces_5 ?_
  refine r_idiv F dX3_sightOfPlaces_6 (by omega) (by omega) (by decide) (by decide) ?_
  refine r_iadd F dX3_sightOfPlaces_7 ?_
  exact r_iret F dX3_sightOfPlaces_8 rfl rfl rfl

set_option maxHeartbeats 4000000 in
set_option maxRecDepth 100000 in
theorem C_X3_sightOfLanterns {l : Launch} {cy : Nat → ClassId} {D : va_G} {ad : Nat → Nat → Int → Nat} {M : Mem} {k : Nat} {S : St} {x mn : Int} (hc : k < 2) (hx : 0 ≤ x ∧ x < 4) : Ct l cy D ad yX3_sightOfLanterns cX3_sightOfLanterns 2 (some .int) 0 [.ref (ad 11 k x), .int (i32 mn)] (setc M k S) (some (.int (i32 (2 * S 9 x + 6 - mn)))) (setc M k S) := by
  refine Ct.mk (lv := [some _, some _]) 0 (by decide) rfl (Nat.le_of_ble_eq_true rfl) (fun p e s m below meth c F => ?_)
  refine r_iconst F dX3_sightOfLanterns_0 ?_
  refine r_aload_n (i := 0) F dX3_sightOfLanterns_1 rfl rfl ?_
  refine gf_X3_16 F dX3_sightOfLanterns_2 hc (by omega) (by omega) ?_
  refine r_imul F dX3_sightOfLanterns_5 ?_
  refine r_bipush F dX3_sightOfLanterns_6 (by decide) ?_
  refine r_iadd F dX3_sightOfLanterns_8 ?_
  refine r_iload_n (i := 1) F dX3_sightOfLanterns_9 rfl rfl ?_
  refine r_isub F dX3_sightOfLanterns_10 ?_
  exact r_iret F dX3_sightOfLanterns_11 rfl rfl rfl

set_option maxHeartbeats 4000000 in
set_option maxRecDepth 100000 in
theorem C_X3_walk {l : Launch} {cy : Nat → ClassId} {D : va_G} {ad : Nat → Nat → Int → Nat} {M : Mem} {k : Nat} {S : St} {x : Int} (hc : k < 2) (hI : Inv S) (hx : 0 ≤ x ∧ x < S 20 2) : Ct l cy D ad yX3_walk cX3_walk 1 none 0 [.ref (ad 11 k x)] (setc M k S) none (setc M k (walkS S x)) := by
  refine Ct.mk (lv := [some _]) 0 (by decide) rfl (Nat.le_of_ble_eq_true rfl) (fun p e s m below meth c F => ?_)
  have bw := hI.pw x
  have b11 := hI.p11 x hx.1 hx.2
  have ic := hI.pc
  refine r_aload_n (i := 0) F dX3_walk_0 rfl rfl ?_
  refine gf_X3_7 F dX3_walk_1 hc (by omega) (by omega) ?_
  refine r_aload_n (i := 0) F dX3_walk_4 rfl rfl ?_
  refine gf_X3_13 F dX3_walk_5 hc (by omega) (by omega) ?_
  refine r_icmp_ne (tgt := 12) F dX3_walk_8 (by decide) (by first | assumption | exact ir_of (by omega) (by omega)) (by first | assumption | exact ir_of (by omega) (by omega)) (fun h8 => ?_) (fun h8 => ?_)
  · refine r_aload_n (i := 0) F dX3_walk_12 rfl rfl ?_
    refine gf_X3_22 F dX3_walk_13 hc (by omega) (by omega) ?_
    refine r_if_le (tgt := 30) F dX3_walk_16 (by decide) (by first | assumption | exact ir_of (by omega) (by omega)) (fun h16 => ?_) (fun h16 => ?_)
    · refine r_aload_n (i := 0) F dX3_walk_30 rfl rfl ?_
      refine gf_X3_22 F dX3_walk_31 hc (by omega) (by omega) ?_
      refine r_if_ge (tgt := 57) F dX3_walk_34 (by decide) (by first | assumption | exact ir_of (by omega) (by omega)) (fun h34 => ?_) (fun h34 => ?_)
      · refine r_aload_n (i := 0) F dX3_walk_57 rfl rfl ?_
        refine r_dup F dX3_walk_58 rfl ?_
        refine gf_X3_19 F dX3_walk_59 hc (by omega) (by omega) ?_
        refine r_aload_n (i := 0) F dX3_walk_62 rfl rfl ?_
        refine gf_X3_22 F dX3_walk_63 hc (by omega) (by omega) ?_
        refine r_iadd F dX3_walk_66 ?_
        refine pf_X3_19 F dX3_walk_67 hc (by omega) (by omega) ?_
        first | (exfalso; omega) | exact r_vret F dX3_walk_70 rfl (congrArg (setc M k) (by unfold walkS; first | rw [if_pos h8] | (rw [if_neg h8, show wg S x = -S 11 x from (by unfold wg; (first | rw [if_pos h16] | rw [if_neg (show ¬ 0 < S 11 x by omega)]); exact if_pos (by assumption)), u2_at]; rfl) | rw [if_neg h8, show wg S x = S 11 x from (by unfold wg; (first | rw [if_pos h16] | rw [if_neg (show ¬ 0 < S 11 x by omega)]); exact if_neg (by assumption)), u2_self]))
      · refine r_aload_n (i := 0) F dX3_walk_37 rfl rfl ?_
        refine gf_X3_19 F dX3_walk_38 hc (by omega) (by omega) ?_
        refine r_aload_n (i := 0) F dX3_walk_41 rfl rfl ?_
        refine gf_X3_7 F dX3_walk_42 hc (by omega) (by omega) ?_
        refine r_icmp_ne (tgt := 57) F dX3_walk_45 (by decide) (by first | assumption | exact ir_of (by omega) (by omega)) (by first | assumption | exact ir_of (by omega) (by omega)) (fun h45 => ?_) (fun h45 => ?_)
        · refine r_aload_n (i := 0) F dX3_walk_57 rfl rfl ?_
          refine r_dup F dX3_walk_58 rfl ?_
          refine gf_X3_19 F dX3_walk_59 hc (by omega) (by omega) ?_
          refine r_aload_n (i := 0) F dX3_walk_62 rfl rfl ?_
          refine gf_X3_22 F dX3_walk_63 hc (by omega) (by omega) ?_
          refine r_iadd F dX3_walk_66 ?_
          refine pf_X3_19 F dX3_walk_67 hc (by omega) (by omega) ?_
          first | (exfalso; omega) | exact r_vret F dX3_walk_70 rfl (congrArg (setc M k) (by unfold walkS; first | rw [if_pos h8] | (rw [if_neg h8, show wg S x = -S 11 x from (by unfold wg; (first | rw [if_pos h16] | rw [if_neg (show ¬ 0 < S 11 x by omega)]); exact if_pos (by assumption)), u2_at]; rfl) | rw [if_neg h8, show wg S x = S 11 x from (by unfold wg; (first | rw [if_pos h16] | rw [if_neg (show ¬ 0 < S 11 x by omega)]); exact if_neg (by assumption)), u2_self]))
        · refine r_aload_n (i := 0) F dX3_walk_48 rfl rfl ?_
          refine r_aload_n (i := 0) F dX3_walk_49 rfl rfl ?_
          refine gf_X3_22 F dX3_walk_50 hc (by omega) (by omega) ?_
          refine r_ineg F dX3_walk_53 ?_
          refine pf_X3_22 F dX3_walk_54 hc (by omega) (by omega) ?_
          refine r_aload_n (i := 0) F dX3_walk_57 rfl rfl ?_
          refine r_dup F dX3_walk_58 rfl ?_
          refine gf_X3_19 F dX3_walk_59 hc (by omega) (by omega) ?_
          refine r_aload_n (i := 0) F dX3_walk_62 rfl rfl ?_
          refine gf_X3_22 F dX3_walk_63 hc (by omega) (by omega) ?_
          refine r_iadd F dX3_walk_66 ?_
          refine pf_X3_19 F dX3_walk_67 hc (by omega) (by omega) ?_
          first | (exfalso; omega) | exact r_vret F dX3_walk_70 rfl (congrArg (setc M k) (by unfold walkS; first | rw [if_pos h8] | (rw [if_neg h8, show wg S x = -S 11 x from (by unfold wg; (first | rw [if_pos h16] | rw [if_neg (show ¬ 0 < S 11 x by omega)]); exact if_pos (by assumption)), u2_at]; rfl) | rw [if_neg h8, show wg S x = S 11 x from (by unfold wg; (first | rw [if_pos h16] | rw [if_neg (show ¬ 0 < S 11 x by omega)]); exact if_neg (by assumption)), u2_self]))
    · refine r_aload_n (i := 0) F dX3_walk_19 rfl rfl ?_
      refine gf_X3_19 F dX3_walk_20 hc (by omega) (by omega) ?_
      refine r_aload_n (i := 0) F dX3_walk_23 rfl rfl ?_
      refine gf_X3_13 F dX3_walk_24 hc (by omega) (by omega) ?_
      refine r_icmp_eq (tgt := 48) F dX3_walk_27 (by decide) (by first | assumption | exact ir_of (by omega) (by omega)) (by first | assumption | exact ir_of (by omega) (by omega)) (fun h27 => ?_) (fun h27 => ?_)
      · refine r_aload_n (i := 0) F dX3_walk_48 rfl rfl ?_
        refine r_aload_n (i := 0) F dX3_walk_49 rfl rfl ?_
        refine gf_X3_22 F dX3_walk_50 hc (by omega) (by omega) ?_
        refine r_ineg F dX3_walk_53 ?_
        refine pf_X3_22 F dX3_walk_54 hc (by omega) (by omega) ?_
        refine r_aload_n (i := 0) F dX3_walk_57 rfl rfl ?_
        refine r_dup F dX3_walk_58 rfl ?_
        refine gf_X3_19 F dX3_walk_59 hc (by omega) (by omega) ?_
        refine r_aload_n (i := 0) F dX3_walk_62 rfl rfl ?_
        refine gf_X3_22 F dX3_walk_63 hc (by omega) (by omega) ?_
        refine r_iadd F dX3_walk_66 ?_
        refine pf_X3_19 F dX3_walk_67 hc (by omega) (by omega) ?_
        first | (exfalso; omega) | exact r_vret F dX3_walk_70 rfl (congrArg (setc M k) (by unfold walkS; first | rw [if_pos h8] | (rw [if_neg h8, show wg S x = -S 11 x from (by unfold wg; (first | rw [if_pos h16] | rw [if_neg (show ¬ 0 < S 11 x by omega)]); exact if_pos (by assumption)), u2_at]; rfl) | rw [if_neg h8, show wg S x = S 11 x from (by unfold wg; (first | rw [if_pos h16] | rw [if_neg (show ¬ 0 < S 11 x by omega)]); exact if_neg (by assumption)), u2_self]))
      · refine r_aload_n (i := 0) F dX3_walk_30 rfl rfl ?_
        refine gf_X3_22 F dX3_walk_31 hc (by omega) (by omega) ?_
        refine r_if_ge (tgt := 57) F dX3_walk_34 (by decide) (by first | assumption | exact ir_of (by omega) (by omega)) (fun h34 => ?_) (fun h34 => ?_)
        · refine r_aload_n (i := 0) F dX3_walk_57 rfl rfl ?_
          refine r_dup F dX3_walk_58 rfl ?_
          refine gf_X3_19 F dX3_walk_59 hc (by omega) (by omega) ?_
          refine r_aload_n (i := 0) F dX3_walk_62 rfl rfl ?_
          refine gf_X3_22 F dX3_walk_63 hc (by omega) (by omega) ?_
          refine r_iadd F dX3_walk_66 ?_
          refine pf_X3_19 F dX3_walk_67 hc (by omega) (by omega) ?_
          first | (exfalso; omega) | exact r_vret F dX3_walk_70 rfl (congrArg (setc M k) (by unfold walkS; first | rw [if_pos h8] | (rw [if_neg h8, show wg S x = -S 11 x from (by unfold wg; (first | rw [if_pos h16] | rw [if_neg (show ¬ 0 < S 11 x by omega)]); exact if_pos (by assumption)), u2_at]; rfl) | rw [if_neg h8, show wg S x = S 11 x from (by unfold wg; (first | rw [if_pos h16] | rw [if_neg (show ¬ 0 < S 11 x by omega)]); exact if_neg (by assumption)), u2_self]))
        · refine r_aload_n (i := 0) F dX3_walk_37 rfl rfl ?_
          refine gf_X3_19 F dX3_walk_38 hc (by omega) (by omega) ?_
          refine r_aload_n (i := 0) F dX3_walk_41 rfl rfl ?_
          refine gf_X3_7 F dX3_walk_42 hc (by omega) (by omega) ?_
          refine r_icmp_ne (tgt := 57) F dX3_walk_45 (by decide) (by first | assumption | exact ir_of (by omega) (by omega)) (by first | assumption | exact ir_of (by omega) (by omega)) (fun h45 => ?_) (fun h45 => ?_)
          · refine r_aload_n (i := 0) F dX3_walk_57 rfl rfl ?_
            refine r_dup F dX3_walk_58 rfl ?_
            refine gf_X3_19 F dX3_walk_59 hc (by omega) (by omega) ?_
            refine r_aload_n (i := 0) F dX3_walk_62 rfl rfl ?_
            refine gf_X3_22 F dX3_walk_63 hc (by omega) (by omega) ?_
            refine r_iadd F dX3_walk_66 ?_
            refine pf_X3_19 F dX3_walk_67 hc (by omega) (by omega) ?_
            first | (exfalso; omega) | exact r_vret F dX3_walk_70 rfl (congrArg (setc M k) (by unfold walkS; first | rw [if_pos h8] | (rw [if_neg h8, show wg S x = -S 11 x from (by unfold wg; (first | rw [if_pos h16] | rw [if_neg (show ¬ 0 < S 11 x by omega)]); exact if_pos (by assumption)), u2_at]; rfl) | rw [if_neg h8, show wg S x = S 11 x from (by unfold wg; (first | rw [if_pos h16] | rw [if_neg (show ¬ 0 < S 11 x by omega)]); exact if_neg (by assumption)), u2_self]))
          · refine r_aload_n (i := 0) F dX3_walk_48 rfl rfl ?_
            refine r_aload_n (i := 0) F dX3_walk_49 rfl rfl ?_
            refine gf_X3_22 F dX3_walk_50 hc (by omega) (by omega) ?_
            refine r_ineg F dX3_walk_53 ?_
            refine pf_X3_22 F dX3_walk_54 hc (by omega) (by omega) ?_
            refine r_aload_n (i := 0) F dX3_walk_57 rfl rfl ?_
            refine r_dup F dX3_walk_58 rfl ?_
            refine gf_X3_19 F dX3_walk_59 hc (by omega) (by omega) ?_
            refine r_aload_n (i := 0) F dX3_walk_62 rfl rfl ?_
            refine gf_X3_22 F dX3_walk_63 hc (by omega) (by omega) ?_
            refine r_iadd F dX3_walk_66 ?_
            refine pf_X3_19 F dX3_walk_67 hc (by omega) (by omega) ?_
            first | (exfalso; omega) | exact r_vret F dX3_walk_70 rfl (congrArg (setc M k) (by unfold walkS; first | rw [if_pos h8] | (rw [if_neg h8, show wg S x = -S 11 x from (by unfold wg; (first | rw [if_pos h16] | rw [if_neg (show ¬ 0 < S 11 x by omega)]); exact if_pos (by assumption)), u2_at]; rfl) | rw [if_neg h8, show wg S x = S 11 x from (by unfold wg; (first | rw [if_pos h16] | rw [if_neg (show ¬ 0 < S 11 x by omega)]); exact if_neg (by assumption)), u2_self]))
  · first | (exfalso; omega) | exact r_vret F dX3_walk_11 rfl (congrArg (setc M k) (by unfold walkS; first | rw [if_pos h8] | (rw [if_neg h8, show wg S x = -S 11 x from (by unfold wg; (first | rw [if_pos h16] | rw [if_neg (show ¬ 0 < S 11 x by omega)]); exact if_pos (by assumption)), u2_at]; rfl) | rw [if_neg h8, show wg S x = S 11 x from (by unfold wg; (first | rw [if_pos h16] | rw [if_neg (show ¬ 0 < S 11 x by omega)]); exact if_neg (by assumption)), u2_self]))

set_option maxHeartbeats 4000000 in
set_option maxRecDepth 100000 in
theorem C_X3_tell {l : Launch} {cy : Nat → ClassId} {D : va_G} {ad : Nat → Nat → Int → Nat} {M : Mem} {k : Nat} {S : St} {x w mn : Int} (hc : k < 2) (hm : mn = mo S) (hx : 0 ≤ x ∧ x < 4) (hw : 0 ≤ w ∧ w ≤ 4) : Ct l cy D ad yX3_tell cX3_tell 3 (some .int) 1 [.ref (ad 11 k x), .int (i32 w), .int (i32 mn)] (setc M k S) (some (.int (i32 (aboutF S x w)))) (setc M k S) := by
  refine Ct.mk (lv := [some _, some _, some _]) 0 (by decide) rfl (Nat.le_of_ble_eq_true rfl) (fun p e s m below meth c F => ?_)
  have hm2 := mo_bd S
  refine r_iload_n (i := 1) F dX3_tell_0 rfl rfl ?_
  have hq : w = 0 ∨ w = 1 ∨ w = 2 ∨ w = 3 ∨ w = 4 := by omega
  rcases hq with rfl | rfl | rfl | rfl | rfl
  · refine r_swIn (tgt := 32) F dX3_tell_1 (ir_of (by omega) (by omega)) (by decide) (by decide) rfl (by decide) ?_
    refine r_aload_n (i := 0) F dX3_tell_32 rfl rfl ?_
    refine gf_X3_19 F dX3_tell_33 hc (by omega) (by omega) ?_
    exact r_iret F dX3_tell_36 rfl (by subst hm; rfl) rfl
  · refine r_swIn (tgt := 37) F dX3_tell_1 (ir_of (by omega) (by omega)) (by decide) (by decide) rfl (by decide) ?_
    refine r_aload_n (i := 0) F dX3_tell_37 rfl rfl ?_
    refine gf_X3_22 F dX3_tell_38 hc (by omega) (by omega) ?_
    exact r_iret F dX3_tell_41 rfl (by subst hm; rfl) rfl
  · refine r_swIn (tgt := 42) F dX3_tell_1 (ir_of (by omega) (by omega)) (by decide) (by decide) rfl (by decide) ?_
    refine r_aload_n (i := 0) F dX3_tell_42 rfl rfl ?_
    refine r_iload_n (i := 2) F dX3_tell_43 rfl rfl ?_
    refine r_callV F (C_X3_sightOfPlaces hc hx (by omega)) dX3_tell_44 lkv_X3_28 rfl rfl (dm11 hc (by omega) (by omega)) rfl rfl cd_X3_sightOfPlaces (by decide) ⟨Nat.le_refl _, Nat.le_refl _⟩ (Nat.le_of_ble_eq_true rfl) ?_
    exact r_iret F dX3_tell_47 rfl (by subst hm; rfl) rfl
  · refine r_swIn (tgt := 48) F dX3_tell_1 (ir_of (by omega) (by omega)) (by decide) (by decide) rfl (by decide) ?_
    refine r_aload_n (i := 0) F dX3_tell_48 rfl rfl ?_
    refine r_iload_n (i := 2) F dX3_tell_49 rfl rfl ?_
    refine r_callV F (C_X3_sightOfLanterns hc hx) dX3_tell_50 lkv_X3_32 rfl rfl (dm11 hc (by omega) (by omega)) rfl rfl cd_X3_sightOfLanterns (by decide) ⟨Nat.le_refl _, Nat.le_refl _⟩ (Nat.le_of_ble_eq_true rfl) ?_
    exact r_iret F dX3_tell_53 rfl (by subst hm; rfl) rfl
  · refine r_swOut (tgt := 54) F dX3_tell_1 (ir_of (by omega) (by omega)) (by omega) (by decide) ?_
    refine r_aload_n (i := 0) F dX3_tell_54 rfl rfl ?_
    refine gf_X3_25 F dX3_tell_55 hc (by omega) (by omega) ?_
    exact r_iret F dX3_tell_58 rfl (by subst hm; rfl) rfl

set_option maxHeartbeats 4000000 in
set_option maxRecDepth 100000 in
theorem C_X1_moonNow {l : Launch} {cy : Nat → ClassId} {D : va_G} {ad : Nat → Nat → Int → Nat} {M : Mem} {k : Nat} {S : St} (hc : k < 2) (hh : 0 ≤ S 20 0 ∧ S 20 0 < 1000000) : Ct l cy D ad yX1_moonNow cX1_moonNow 1 (some .int) 2 [.ref (ad 1 k 0)] (setc M k S) (some (.int (i32 (mo S)))) (setc M k S) := by
  refine Ct.mk (lv := [some _]) 0 (by decide) rfl (Nat.le_of_ble_eq_true rfl) (fun p e s m below meth c F => ?_)
  refine r_aload_n (i := 0) F dX1_moonNow_0 rfl rfl ?_
  refine gf_X1_71 F dX1_moonNow_1 hc ?_
  refine r_bipush F dX1_moonNow_4 (by decide) ?_
  refine r_idiv F dX1_moonNow_6 (by omega) (by omega) (by decide) (by decide) ?_
  refine r_callSN F (C_X4_moonOf (by omega) (by omega)) dX1_moonNow_7 lksn_X1_80 rfl rfl cd_X4_moonOf (by decide) ⟨Nat.le_refl _, Nat.le_refl _⟩ (Nat.le_of_ble_eq_true rfl) ?_
  exact r_iret F dX1_moonNow_10 rfl rfl rfl

set_option maxHeartbeats 4000000 in
set_option maxRecDepth 100000 in
theorem C_X1_hourOfNight {l : Launch} {cy : Nat → ClassId} {D : va_G} {ad : Nat → Nat → Int → Nat} {M : Mem} {k : Nat} {S : St} (hc : k < 2) (hh : 0 ≤ S 20 0 ∧ S 20 0 < 1000000) : Ct l cy D ad yX1_hourOfNight cX1_hourOfNight 1 (some .int) 1 [.ref (ad 1 k 0)] (setc M k S) (some (.int (i32 (hn S)))) (setc M k S) := by
  refine Ct.mk (lv := [some _]) 0 (by decide) rfl (Nat.le_of_ble_eq_true rfl) (fun p e s m below meth c F => ?_)
  refine r_aload_n (i := 0) F dX1_hourOfNight_0 rfl rfl ?_
  refine gf_X1_71 F dX1_hourOfNight_1 hc ?_
  refine r_bipush F dX1_hourOfNight_4 (by decide) ?_
  refine r_callS F (C_J9_floorMod_7cf53 (by omega) (by omega) (by omega) (by omega)) dX1_hourOfNight_6 lks_X1_84 rfl rfl cd_J9_floorMod_7cf53 (by decide) ⟨Nat.le_refl _, Nat.le_refl _⟩ (Nat.le_of_ble_eq_true rfl) ?_
  exact r_iret F dX1_hourOfNight_9 rfl rfl rfl

set_option maxHeartbeats 4000000 in
set_option maxRecDepth 100000 in
theorem C_X1_isKnown {l : Launch} {cy : Nat → ClassId} {D : va_G} {ad : Nat → Nat → Int → Nat} {M : Mem} {k : Nat} {S : St} {x : Int} (hc : k < 2) (hI : Inv S) (hx : 0 ≤ x ∧ x < 8) : Ct l cy D ad yX1_isKnown cX1_isKnown 2 (some .boolean) 0 [.ref (ad 1 k 0), .int (i32 x)] (setc M k S) (some (.int (i32 (bi (kn S x))))) (setc M k S) := by
  refine Ct.mk (lv := [some _, some _]) 0 (by decide) rfl (Nat.le_of_ble_eq_true rfl) (fun p e s m below meth c F => ?_)
  refine r_aload_n (i := 0) F dX1_isKnown_0 rfl rfl ?_
  refine gf_X1_21 F dX1_isKnown_1 hc ?_
  refine r_iload_n (i := 1) F dX1_isKnown_4 rfl rfl ?_
  refine ia_5 F dX1_isKnown_5 hc (by omega) (by omega) ?_
  refine r_iconst F dX1_isKnown_6 ?_
  refine r_rcmp_lt (tgt := 14) F dX1_isKnown_7 (by decide) (fun h7 => ?_) (fun h7 => ?_)
  · refine r_iconst F dX1_isKnown_14 ?_
    exact r_zret F dX1_isKnown_15 rfl (by rw [kn_of hx.1 hI.p3]; simp [bi, h7]) rfl
  · refine r_iconst F dX1_isKnown_10 ?_
    refine r_goto (tgt := 15) F dX1_isKnown_11 (by decide) ?_
    exact r_zret F dX1_isKnown_15 rfl (by rw [kn_of hx.1 hI.p3]; simp [bi, h7]) rfl

set_option maxHeartbeats 4000000 in
set_option maxRecDepth 100000 in
theorem C_X1_watchmenSeeingLantern {l : Launch} {cy : Nat → ClassId} {D : va_G} {ad : Nat → Nat → Int → Nat} {M : Mem} {k : Nat} {S : St} {q mn : Int} (hc : k < 2) (hI : Inv S) (hq : 0 ≤ q ∧ q ≤ 15) (hm : 0 ≤ mn ∧ mn ≤ 6) : Ct l cy D ad yX1_watchmenSeeingLantern cX1_watchmenSeeingLantern 5 (some .int) 1 [.ref (ad 1 k 0), .int (i32 q), .int (i32 mn)] (setc M k S) (some (.int (i32 (cnt (sLq S q mn) (S 20 2).toNat)))) (setc M k S) := by
  refine Ct.mk (lv := [some _, some _, some _, none, none]) 2 (by decide) rfl (Nat.le_of_ble_eq_true rfl) (fun p e s m below meth c F => ?_)
  have ic := hI.pc
  have loop : ∀ (n : Nat) (j : Int), 0 ≤ j → j + (n : Int) = S 20 2 → V p l e (RM 1) s m ([.ref (ad 1 k 0), .int (i32 q), .int (i32 mn)] : List Value).toArray below meth c 5 cy D ad (Aw ad s.heap.size) 0 0 (MQ below (Qn cy D ad s.heap.size (some (.int (i32 (cnt (sLq S q mn) (S 20 2).toNat)))) (setc M k S)) ([.ref (ad 1 k 0), .int (i32 q), .int (i32 mn)] : List Value).toArray s 0 0 (Aw ad s.heap.size)) 5 [some (.ref (ad 1 k 0)), some (.int (i32 q)), some (.int (i32 mn)), some (.int (i32 (cnt (sLq S q mn) j.toNat))), some (.int (i32 j))] [] (setc M k S) := by
    intro n
    induction n with
    | zero =>
      intro j h0 h1
      have bw := hI.pw j
      have b9 := hI.p9 j
      have ho := iabs_or (S 10 j - q)
      refine r_iload F dX1_watchmenSeeingLantern_5 rfl ?_
      refine r_aload_n (i := 0) F dX1_watchmenSeeingLantern_7 rfl rfl ?_
      refine gf_X1_55 F dX1_watchmenSeeingLantern_8 hc ?_
      refine r_icmp_ge (tgt := 51) F dX1_watchmenSeeingLantern_11 (by decide) (by first | assumption | exact ir_of (by omega) (by omega)) (by first | assumption | exact ir_of (by omega) (by omega)) (fun h11 => ?_) (fun h11 => ?_)
      · refine r_iload_n (i := 3) F dX1_watchmenSeeingLantern_51 rfl rfl ?_
        exact r_iret F dX1_watchmenSeeingLantern_52 rfl (by rw [show j = S 20 2 by omega] <;> rfl) rfl
      · exfalso; omega
    | succ n ih =>
      intro j h0 h1
      have bw := hI.pw j
      have b9 := hI.p9 j
      have ho := iabs_or (S 10 j - q)
      refine r_iload F dX1_watchmenSeeingLantern_5 rfl ?_
      refine r_aload_n (i := 0) F dX1_watchmenSeeingLantern_7 rfl rfl ?_
      refine gf_X1_55 F dX1_watchmenSeeingLantern_8 hc ?_
      refine r_icmp_ge (tgt := 51) F dX1_watchmenSeeingLantern_11 (by decide) (by first | assumption | exact ir_of (by omega) (by omega)) (by first | assumption | exact ir_of (by omega) (by omega)) (fun h11 => ?_) (fun h11 => ?_)
      · exfalso; omega
      · refine r_aload_n (i := 0) F dX1_watchmenSeeingLantern_14 rfl rfl ?_
        refine gf_X1_32 F dX1_watchmenSeeingLantern_15 hc ?_
        refine r_iload F dX1_watchmenSeeingLantern_18 rfl ?_
        refine aa_7 F dX1_watchmenSeeingLantern_20 hc (by omega) (by omega) ?_
        refine gf_X1_174 F dX1_watchmenSeeingLantern_21 hc (by omega) (by omega) ?_
        refine r_iload_n (i := 1) F dX1_watchmenSeeingLantern_24 rfl rfl ?_
        refine r_callSN F (C_X4_distance (by omega) (by omega)) dX1_watchmenSeeingLantern_25 lksn_X1_151 rfl rfl cd_X4_distance (by decide) ⟨Nat.le_refl _, Nat.le_refl _⟩ (Nat.le_of_ble_eq_true rfl) ?_
        refine r_aload_n (i := 0) F dX1_watchmenSeeingLantern_28 rfl rfl ?_
        refine gf_X1_32 F dX1_watchmenSeeingLantern_29 hc ?_
        refine r_iload F dX1_watchmenSeeingLantern_32 rfl ?_
        refine aa_7 F dX1_watchmenSeeingLantern_34 hc (by omega) (by omega) ?_
        refine r_iload_n (i := 2) F dX1_watchmenSeeingLantern_35 rfl rfl ?_
        refine r_callV F (C_X3_sightOfLanterns hc (by omega)) dX1_watchmenSeeingLantern_36 lkv_X1_178 rfl rfl (dm11 hc (by omega) (by omega)) rfl rfl cd_X3_sightOfLanterns (by decide) ⟨Nat.le_refl _, Nat.le_refl _⟩ (Nat.le_of_ble_eq_true rfl) ?_
        refine r_icmp_gt (tgt := 45) F dX1_watchmenSeeingLantern_39 (by decide) (by first | assumption | exact ir_of (by omega) (by omega)) (by first | assumption | exact ir_of (by omega) (by omega)) (fun h39 => ?_) (fun h39 => ?_)
        · refine r_iinc (lv1 := [_, _, _, _, _]) F dX1_watchmenSeeingLantern_45 rfl (by decide) rfl rfl ?_
          refine r_goto (tgt := 5) F dX1_watchmenSeeingLantern_48 (by decide) ?_
          have t := ih (j + 1) (by omega) (by omega)
          first | (rw [cnt_S _ h0, show (sLq S q mn) j = true from (by unfold sLq; first | exact decide_eq_true (by first | assumption | omega) | exact decide_eq_false (by first | assumption | omega) | simp [*]), bi_t] at t; exact t) | (rw [cnt_S _ h0, show (sLq S q mn) j = false from (by unfold sLq; first | exact decide_eq_true (by first | assumption | omega) | exact decide_eq_false (by first | assumption | omega) | simp [*]), bi_f, Int.add_zero] at t; exact t)
        · refine r_iinc (lv1 := [_, _, _, _, _]) F dX1_watchmenSeeingLantern_42 rfl (by decide) rfl rfl ?_
          refine r_iinc (lv1 := [_, _, _, _, _]) F dX1_watchmenSeeingLantern_45 rfl (by decide) rfl rfl ?_
          refine r_goto (tgt := 5) F dX1_watchmenSeeingLantern_48 (by decide) ?_
          have t := ih (j + 1) (by omega) (by omega)
          first | (rw [cnt_S _ h0, show (sLq S q mn) j = true from (by unfold sLq; first | exact decide_eq_true (by first | assumption | omega) | exact decide_eq_false (by first | assumption | omega) | simp [*]), bi_t] at t; exact t) | (rw [cnt_S _ h0, show (sLq S q mn) j = false from (by unfold sLq; first | exact decide_eq_true (by first | assumption | omega) | exact decide_eq_false (by first | assumption | omega) | simp [*]), bi_f, Int.add_zero] at t; exact t)
  refine r_iconst F dX1_watchmenSeeingLantern_0 ?_
  refine r_istore_n (i := 3) (lv1 := [_, _, _, _, _]) F dX1_watchmenSeeingLantern_1 rfl (by decide) rfl rfl ?_
  refine r_iconst F dX1_watchmenSeeingLantern_2 ?_
  refine r_istore (lv1 := [_, _, _, _, _]) F dX1_watchmenSeeingLantern_3 (by decide) rfl rfl ?_
  exact loop (S 20 2).toNat 0 (by omega) (by omega)

set_option maxHeartbeats 4000000 in
set_option maxRecDepth 100000 in
theorem C_X1_watchmenSeeingPlace {l : Launch} {cy : Nat → ClassId} {D : va_G} {ad : Nat → Nat → Int → Nat} {M : Mem} {k : Nat} {S : St} {q : Int} (hc : k < 2) (hI : Inv S) (hh : 0 ≤ S 20 0 ∧ S 20 0 < 1000000) (hq : 0 ≤ q ∧ q ≤ 15) : Ct l cy D ad yX1_watchmenSeeingPlace cX1_watchmenSeeingPlace 5 (some .int) 3 [.ref (ad 1 k 0), .int (i32 q)] (setc M k S) (some (.int (i32 (wP S q)))) (setc M k S) := by
  refine Ct.mk (lv := [some _, some _, none, none, none]) 3 (by decide) rfl (Nat.le_of_ble_eq_true rfl) (fun p e s m below meth c F => ?_)
  have ic := hI.pc
  have hm := mo_bd S
  have loop : ∀ (n : Nat) (j : Int), 0 ≤ j → j + (n : Int) = S 20 2 → V p l e (RM 3) s m ([.ref (ad 1 k 0), .int (i32 q)] : List Value).toArray below meth c 5 cy D ad (Aw ad s.heap.size) 0 0 (MQ below (Qn cy D ad s.heap.size (some (.int (i32 (wP S q)))) (setc M k S)) ([.ref (ad 1 k 0), .int (i32 q)] : List Value).toArray s 0 0 (Aw ad s.heap.size)) 10 [some (.ref (ad 1 k 0)), some (.int (i32 q)), some (.int (i32 (mo S))), some (.int (i32 (cnt (seesP S q) j.toNat))), some (.int (i32 j))] [] (setc M k S) := by
    intro n
    induction n with
    | zero =>
      intro j h0 h1
      have bw := hI.pw j
      have b9 := hI.p9 j
      have ho := iabs_or (S 10 j - q)
      have hs : sgP S j = S 9 j + mo S / 2 := rfl
      refine r_iload F dX1_watchmenSeeingPlace_10 rfl ?_
      refine r_aload_n (i := 0) F dX1_watchmenSeeingPlace_12 rfl rfl ?_
      refine gf_X1_55 F dX1_watchmenSeeingPlace_13 hc ?_
      refine r_icmp_ge (tgt := 56) F dX1_watchmenSeeingPlace_16 (by decide) (by first | assumption | exact ir_of (by omega) (by omega)) (by first | assumption | exact ir_of (by omega) (by omega)) (fun h16 => ?_) (fun h16 => ?_)
      · refine r_iload_n (i := 3) F dX1_watchmenSeeingPlace_56 rfl rfl ?_
        exact r_iret F dX1_watchmenSeeingPlace_57 rfl (by rw [show j = S 20 2 by omega] <;> rfl) rfl
      · exfalso; omega
    | succ n ih =>
      intro j h0 h1
      have bw := hI.pw j
      have b9 := hI.p9 j
      have ho := iabs_or (S 10 j - q)
      have hs : sgP S j = S 9 j + mo S / 2 := rfl
      refine r_iload F dX1_watchmenSeeingPlace_10 rfl ?_
      refine r_aload_n (i := 0) F dX1_watchmenSeeingPlace_12 rfl rfl ?_
      refine gf_X1_55 F dX1_watchmenSeeingPlace_13 hc ?_
      refine r_icmp_ge (tgt := 56) F dX1_watchmenSeeingPlace_16 (by decide) (by first | assumption | exact ir_of (by omega) (by omega)) (by first | assumption | exact ir_of (by omega) (by omega)) (fun h16 => ?_) (fun h16 => ?_)
      · exfalso; omega
      · refine r_aload_n (i := 0) F dX1_watchmenSeeingPlace_19 rfl rfl ?_
        refine gf_X1_32 F dX1_watchmenSeeingPlace_20 hc ?_
        refine r_iload F dX1_watchmenSeeingPlace_23 rfl ?_
        refine aa_7 F dX1_watchmenSeeingPlace_25 hc (by omega) (by omega) ?_
        refine gf_X1_174 F dX1_watchmenSeeingPlace_26 hc (by omega) (by omega) ?_
        refine r_iload_n (i := 1) F dX1_watchmenSeeingPlace_29 rfl rfl ?_
        refine r_callSN F (C_X4_distance (by omega) (by omega)) dX1_watchmenSeeingPlace_30 lksn_X1_151 rfl rfl cd_X4_distance (by decide) ⟨Nat.le_refl _, Nat.le_refl _⟩ (Nat.le_of_ble_eq_true rfl) ?_
        refine r_aload_n (i := 0) F dX1_watchmenSeeingPlace_33 rfl rfl ?_
        refine gf_X1_32 F dX1_watchmenSeeingPlace_34 hc ?_
        refine r_iload F dX1_watchmenSeeingPlace_37 rfl ?_
        refine aa_7 F dX1_watchmenSeeingPlace_39 hc (by omega) (by omega) ?_
        refine r_iload_n (i := 2) F dX1_watchmenSeeingPlace_40 rfl rfl ?_
        refine r_callV F (C_X3_sightOfPlaces hc (by omega) hm) dX1_watchmenSeeingPlace_41 lkv_X1_167 rfl rfl (dm11 hc (by omega) (by omega)) rfl rfl cd_X3_sightOfPlaces (by decide) ⟨Nat.le_refl _, Nat.le_refl _⟩ (Nat.le_of_ble_eq_true rfl) ?_
        refine r_icmp_gt (tgt := 50) F dX1_watchmenSeeingPlace_44 (by decide) (by first | assumption | exact ir_of (by omega) (by omega)) (by first | assumption | exact ir_of (by omega) (by omega)) (fun h44 => ?_) (fun h44 => ?_)
        · refine r_iinc (lv1 := [_, _, _, _, _]) F dX1_watchmenSeeingPlace_50 rfl (by decide) rfl rfl ?_
          refine r_goto (tgt := 10) F dX1_watchmenSeeingPlace_53 (by decide) ?_
          have t := ih (j + 1) (by omega) (by omega)
          first | (rw [cnt_S _ h0, show (seesP S q) j = true from (by unfold seesP; first | exact decide_eq_true (by first | assumption | omega) | exact decide_eq_false (by first | assumption | omega) | simp [*]), bi_t] at t; exact t) | (rw [cnt_S _ h0, show (seesP S q) j = false from (by unfold seesP; first | exact decide_eq_true (by first | assumption | omega) | exact decide_eq_false (by first | assumption | omega) | simp [*]), bi_f, Int.add_zero] at t; exact t)
        · refine r_iinc (lv1 := [_, _, _, _, _]) F dX1_watchmenSeeingPlace_47 rfl (by decide) rfl rfl ?_
          refine r_iinc (lv1 := [_, _, _, _, _]) F dX1_watchmenSeeingPlace_50 rfl (by decide) rfl rfl ?_
          refine r_goto (tgt := 10) F dX1_watchmenSeeingPlace_53 (by decide) ?_
          have t := ih (j + 1) (by omega) (by omega)
          first | (rw [cnt_S _ h0, show (seesP S q) j = true from (by unfold seesP; first | exact decide_eq_true (by first | assumption | omega) | exact decide_eq_false (by first | assumption | omega) | simp [*]), bi_t] at t; exact t) | (rw [cnt_S _ h0, show (seesP S q) j = false from (by unfold seesP; first | exact decide_eq_true (by first | assumption | omega) | exact decide_eq_false (by first | assumption | omega) | simp [*]), bi_f, Int.add_zero] at t; exact t)
  refine r_aload_n (i := 0) F dX1_watchmenSeeingPlace_0 rfl rfl ?_
  refine r_callV F (C_X1_moonNow hc hh) dX1_watchmenSeeingPlace_1 lkv_X1_96 rfl rfl (dm1 ⟨by decide, by decide⟩ hc) rfl rfl cd_X1_moonNow (by decide) ⟨Nat.le_refl _, Nat.le_refl _⟩ (Nat.le_of_ble_eq_true rfl) ?_
  refine r_istore_n (i := 2) (lv1 := [_, _, _, _, _]) F dX1_watchmenSeeingPlace_4 rfl (by decide) rfl rfl ?_
  refine r_iconst F dX1_watchmenSeeingPlace_5 ?_
  refine r_istore_n (i := 3) (lv1 := [_, _, _, _, _]) F dX1_watchmenSeeingPlace_6 rfl (by decide) rfl rfl ?_
  refine r_iconst F dX1_watchmenSeeingPlace_7 ?_
  refine r_istore (lv1 := [_, _, _, _, _]) F dX1_watchmenSeeingPlace_8 (by decide) rfl rfl ?_
  exact loop (S 20 2).toNat 0 (by omega) (by omega)

set_option maxHeartbeats 4000000 in
set_option maxRecDepth 100000 in
theorem C_X1_watchmenAt {l : Launch} {cy : Nat → ClassId} {D : va_G} {ad : Nat → Nat → Int → Nat} {M : Mem} {k : Nat} {S : St} {q : Int} (hc : k < 2) (hI : Inv S) (hq : 0 ≤ q ∧ q ≤ 15) : Ct l cy D ad yX1_watchmenAt cX1_watchmenAt 4 (some .int) 0 [.ref (ad 1 k 0), .int (i32 q)] (setc M k S) (some (.int (i32 (nAtW S q)))) (setc M k S) := by
  refine Ct.mk (lv := [some _, some _, none, none]) 2 (by decide) rfl (Nat.le_of_ble_eq_true rfl) (fun p e s m below meth c F => ?_)
  have ic := hI.pc
  have loop : ∀ (n : Nat) (j : Int), 0 ≤ j → j + (n : Int) = S 20 2 → V p l e (RM 0) s m ([.ref (ad 1 k 0), .int (i32 q)] : List Value).toArray below meth c 4 cy D ad (Aw ad s.heap.size) 0 0 (MQ below (Qn cy D ad s.heap.size (some (.int (i32 (nAtW S q)))) (setc M k S)) ([.ref (ad 1 k 0), .int (i32 q)] : List Value).toArray s 0 0 (Aw ad s.heap.size)) 4 [some (.ref (ad 1 k 0)), some (.int (i32 q)), some (.int (i32 (cnt (atW S q) j.toNat))), some (.int (i32 j))] [] (setc M k S) := by
    intro n
    induction n with
    | zero =>
      intro j h0 h1
      have bw := hI.pw j
      have b9 := hI.p9 j
      refine r_iload_n (i := 3) F dX1_watchmenAt_4 rfl rfl ?_
      refine r_aload_n (i := 0) F dX1_watchmenAt_5 rfl rfl ?_
      refine gf_X1_55 F dX1_watchmenAt_6 hc ?_
      refine r_icmp_ge (tgt := 34) F dX1_watchmenAt_9 (by decide) (by first | assumption | exact ir_of (by omega) (by omega)) (by first | assumption | exact ir_of (by omega) (by omega)) (fun h9 => ?_) (fun h9 => ?_)
      · refine r_iload_n (i := 2) F dX1_watchmenAt_34 rfl rfl ?_
        exact r_iret F dX1_watchmenAt_35 rfl (by rw [show j = S 20 2 by omega] <;> rfl) rfl
      · exfalso; omega
    | succ n ih =>
      intro j h0 h1
      have bw := hI.pw j
      have b9 := hI.p9 j
      refine r_iload_n (i := 3) F dX1_watchmenAt_4 rfl rfl ?_
      refine r_aload_n (i := 0) F dX1_watchmenAt_5 rfl rfl ?_
      refine gf_X1_55 F dX1_watchmenAt_6 hc ?_
      refine r_icmp_ge (tgt := 34) F dX1_watchmenAt_9 (by decide) (by first | assumption | exact ir_of (by omega) (by omega)) (by first | assumption | exact ir_of (by omega) (by omega)) (fun h9 => ?_) (fun h9 => ?_)
      · exfalso; omega
      · refine r_aload_n (i := 0) F dX1_watchmenAt_12 rfl rfl ?_
        refine gf_X1_32 F dX1_watchmenAt_13 hc ?_
        refine r_iload_n (i := 3) F dX1_watchmenAt_16 rfl rfl ?_
        refine aa_7 F dX1_watchmenAt_17 hc (by omega) (by omega) ?_
        refine gf_X1_174 F dX1_watchmenAt_18 hc (by omega) (by omega) ?_
        refine r_iload_n (i := 1) F dX1_watchmenAt_21 rfl rfl ?_
        refine r_icmp_ne (tgt := 28) F dX1_watchmenAt_22 (by decide) (by first | assumption | exact ir_of (by omega) (by omega)) (by first | assumption | exact ir_of (by omega) (by omega)) (fun h22 => ?_) (fun h22 => ?_)
        · refine r_iinc (lv1 := [_, _, _, _]) F dX1_watchmenAt_28 rfl (by decide) rfl rfl ?_
          refine r_goto (tgt := 4) F dX1_watchmenAt_31 (by decide) ?_
          have t := ih (j + 1) (by omega) (by omega)
          first | (rw [cnt_S _ h0, show (atW S q) j = true from (by unfold atW; first | exact decide_eq_true (by first | assumption | omega) | exact decide_eq_false (by first | assumption | omega) | simp [*]), bi_t] at t; exact t) | (rw [cnt_S _ h0, show (atW S q) j = false from (by unfold atW; first | exact decide_eq_true (by first | assumption | omega) | exact decide_eq_false (by first | assumption | omega) | simp [*]), bi_f, Int.add_zero] at t; exact t)
        · refine r_iinc (lv1 := [_, _, _, _]) F dX1_watchmenAt_25 rfl (by decide) rfl rfl ?_
          refine r_iinc (lv1 := [_, _, _, _]) F dX1_watchmenAt_28 rfl (by decide) rfl rfl ?_
          refine r_goto (tgt := 4) F dX1_watchmenAt_31 (by decide) ?_
          have t := ih (j + 1) (by omega) (by omega)
          first | (rw [cnt_S _ h0, show (atW S q) j = true from (by unfold atW; first | exact decide_eq_true (by first | assumption | omega) | exact decide_eq_false (by first | assumption | omega) | simp [*]), bi_t] at t; exact t) | (rw [cnt_S _ h0, show (atW S q) j = false from (by unfold atW; first | exact decide_eq_true (by first | assumption | omega) | exact decide_eq_false (by first | assumption | omega) | simp [*]), bi_f, Int.add_zero] at t; exact t)
  refine r_iconst F dX1_watchmenAt_0 ?_
  refine r_istore_n (i := 2) (lv1 := [_, _, _, _]) F dX1_watchmenAt_1 rfl (by decide) rfl rfl ?_
  refine r_iconst F dX1_watchmenAt_2 ?_
  refine r_istore_n (i := 3) (lv1 := [_, _, _, _]) F dX1_watchmenAt_3 rfl (by decide) rfl rfl ?_
  exact loop (S 20 2).toNat 0 (by omega) (by omega)

set_option maxHeartbeats 4000000 in
set_option maxRecDepth 100000 in
theorem C_X1_boatsAtSeaAt {l : Launch} {cy : Nat → ClassId} {D : va_G} {ad : Nat → Nat → Int → Nat} {M : Mem} {k : Nat} {S : St} {q : Int} (hc : k < 2) (hI : Inv S) (hq : 0 ≤ q ∧ q ≤ 15) : Ct l cy D ad yX1_boatsAtSeaAt cX1_boatsAtSeaAt 4 (some .int) 0 [.ref (ad 1 k 0), .int (i32 q)] (setc M k S) (some (.int (i32 (nAtB S q)))) (setc M k S) := by
  refine Ct.mk (lv := [some _, some _, none, none]) 2 (by decide) rfl (Nat.le_of_ble_eq_true rfl) (fun p e s m below meth c F => ?_)
  have ic := hI.pc
  have loop : ∀ (n : Nat) (j : Int), 0 ≤ j → j + (n : Int) = S 20 3 → V p l e (RM 0) s m ([.ref (ad 1 k 0), .int (i32 q)] : List Value).toArray below meth c 4 cy D ad (Aw ad s.heap.size) 0 0 (MQ below (Qn cy D ad s.heap.size (some (.int (i32 (nAtB S q)))) (setc M k S)) ([.ref (ad 1 k 0), .int (i32 q)] : List Value).toArray s 0 0 (Aw ad s.heap.size)) 4 [some (.ref (ad 1 k 0)), some (.int (i32 q)), some (.int (i32 (cnt (atB S q) j.toNat))), some (.int (i32 j))] [] (setc M k S) := by
    intro n
    induction n with
    | zero =>
      intro j h0 h1
      have b18 := hI.p18 j
      have b13 := hI.p13 j
      refine r_iload_n (i := 3) F dX1_boatsAtSeaAt_4 rfl rfl ?_
      refine r_aload_n (i := 0) F dX1_boatsAtSeaAt_5 rfl rfl ?_
      refine gf_X1_58 F dX1_boatsAtSeaAt_6 hc ?_
      refine r_icmp_ge (tgt := 46) F dX1_boatsAtSeaAt_9 (by decide) (by first | assumption | exact ir_of (by omega) (by omega)) (by first | assumption | exact ir_of (by omega) (by omega)) (fun h9 => ?_) (fun h9 => ?_)
      · refine r_iload_n (i := 2) F dX1_boatsAtSeaAt_46 rfl rfl ?_
        exact r_iret F dX1_boatsAtSeaAt_47 rfl (by rw [show j = S 20 3 by omega] <;> rfl) rfl
      · exfalso; omega
    | succ n ih =>
      intro j h0 h1
      have b18 := hI.p18 j
      have b13 := hI.p13 j
      refine r_iload_n (i := 3) F dX1_boatsAtSeaAt_4 rfl rfl ?_
      refine r_aload_n (i := 0) F dX1_boatsAtSeaAt_5 rfl rfl ?_
      refine gf_X1_58 F dX1_boatsAtSeaAt_6 hc ?_
      refine r_icmp_ge (tgt := 46) F dX1_boatsAtSeaAt_9 (by decide) (by first | assumption | exact ir_of (by omega) (by omega)) (by first | assumption | exact ir_of (by omega) (by omega)) (fun h9 => ?_) (fun h9 => ?_)
      · exfalso; omega
      · refine r_aload_n (i := 0) F dX1_boatsAtSeaAt_12 rfl rfl ?_
        refine gf_X1_38 F dX1_boatsAtSeaAt_13 hc ?_
        refine r_iload_n (i := 3) F dX1_boatsAtSeaAt_16 rfl rfl ?_
        refine aa_8 F dX1_boatsAtSeaAt_17 hc (by omega) (by omega) ?_
        refine gf_X1_130 F dX1_boatsAtSeaAt_18 hc (by omega) (by omega) ?_
        refine r_if_ne (tgt := 40) F dX1_boatsAtSeaAt_21 (by decide) (by first | assumption | exact ir_of (by omega) (by omega)) (fun h21 => ?_) (fun h21 => ?_)
        · refine r_iinc (lv1 := [_, _, _, _]) F dX1_boatsAtSeaAt_40 rfl (by decide) rfl rfl ?_
          refine r_goto (tgt := 4) F dX1_boatsAtSeaAt_43 (by decide) ?_
          have t := ih (j + 1) (by omega) (by omega)
          first | (rw [cnt_S _ h0, show (atB S q) j = true from (by unfold atB; first | exact decide_eq_true (by first | assumption | omega) | exact decide_eq_false (by first | assumption | omega) | simp [*]), bi_t] at t; exact t) | (rw [cnt_S _ h0, show (atB S q) j = false from (by unfold atB; first | exact decide_eq_true (by first | assumption | omega) | exact decide_eq_false (by first | assumption | omega) | simp [*]), bi_f, Int.add_zero] at t; exact t)
        · refine r_aload_n (i := 0) F dX1_boatsAtSeaAt_24 rfl rfl ?_
          refine gf_X1_38 F dX1_boatsAtSeaAt_25 hc ?_
          refine r_iload_n (i := 3) F dX1_boatsAtSeaAt_28 rfl rfl ?_
          refine aa_8 F dX1_boatsAtSeaAt_29 hc (by omega) (by omega) ?_
          refine gf_X1_144 F dX1_boatsAtSeaAt_30 hc (by omega) (by omega) ?_
          refine r_iload_n (i := 1) F dX1_boatsAtSeaAt_33 rfl rfl ?_
          refine r_icmp_ne (tgt := 40) F dX1_boatsAtSeaAt_34 (by decide) (by first | assumption | exact ir_of (by omega) (by omega)) (by first | assumption | exact ir_of (by omega) (by omega)) (fun h34 => ?_) (fun h34 => ?_)
          · refine r_iinc (lv1 := [_, _, _, _]) F dX1_boatsAtSeaAt_40 rfl (by decide) rfl rfl ?_
            refine r_goto (tgt := 4) F dX1_boatsAtSeaAt_43 (by decide) ?_
            have t := ih (j + 1) (by omega) (by omega)
            first | (rw [cnt_S _ h0, show (atB S q) j = true from (by unfold atB; first | exact decide_eq_true (by first | assumption | omega) | exact decide_eq_false (by first | assumption | omega) | simp [*]), bi_t] at t; exact t) | (rw [cnt_S _ h0, show (atB S q) j = false from (by unfold atB; first | exact decide_eq_true (by first | assumption | omega) | exact decide_eq_false (by first | assumption | omega) | simp [*]), bi_f, Int.add_zero] at t; exact t)
          · refine r_iinc (lv1 := [_, _, _, _]) F dX1_boatsAtSeaAt_37 rfl (by decide) rfl rfl ?_
            refine r_iinc (lv1 := [_, _, _, _]) F dX1_boatsAtSeaAt_40 rfl (by decide) rfl rfl ?_
            refine r_goto (tgt := 4) F dX1_boatsAtSeaAt_43 (by decide) ?_
            have t := ih (j + 1) (by omega) (by omega)
            first | (rw [cnt_S _ h0, show (atB S q) j = true from (by unfold atB; first | exact decide_eq_true (by first | assumption | omega) | exact decide_eq_false (by first | assumption | omega) | simp [*]), bi_t] at t; exact t) | (rw [cnt_S _ h0, show (atB S q) j = false from (by unfold atB; first | exact decide_eq_true (by first | assumption | omega) | exact decide_eq_false (by first | assumption | omega) | simp [*]), bi_f, Int.add_zero] at t; exact t)
  refine r_iconst F dX1_boatsAtSeaAt_0 ?_
  refine r_istore_n (i := 2) (lv1 := [_, _, _, _]) F dX1_boatsAtSeaAt_1 rfl (by decide) rfl rfl ?_
  refine r_iconst F dX1_boatsAtSeaAt_2 ?_
  refine r_istore_n (i := 3) (lv1 := [_, _, _, _]) F dX1_boatsAtSeaAt_3 rfl (by decide) rfl rfl ?_
  exact loop (S 20 3).toNat 0 (by omega) (by omega)

set_option maxHeartbeats 4000000 in
set_option maxRecDepth 100000 in
theorem C_X1_boatsAtSeaLedBy {l : Launch} {cy : Nat → ClassId} {D : va_G} {ad : Nat → Nat → Int → Nat} {M : Mem} {k : Nat} {S : St} {q : Int} (hc : k < 2) (hI : Inv S) (hq : 0 ≤ q ∧ q ≤ 15) : Ct l cy D ad yX1_boatsAtSeaLedBy cX1_boatsAtSeaLedBy 4 (some .int) 0 [.ref (ad 1 k 0), .int (i32 q)] (setc M k S) (some (.int (i32 (nLdB S q)))) (setc M k S) := by
  refine Ct.mk (lv := [some _, some _, none, none]) 2 (by decide) rfl (Nat.le_of_ble_eq_true rfl) (fun p e s m below meth c F => ?_)
  have ic := hI.pc
  have loop : ∀ (n : Nat) (j : Int), 0 ≤ j → j + (n : Int) = S 20 3 → V p l e (RM 0) s m ([.ref (ad 1 k 0), .int (i32 q)] : List Value).toArray below meth c 4 cy D ad (Aw ad s.heap.size) 0 0 (MQ below (Qn cy D ad s.heap.size (some (.int (i32 (nLdB S q)))) (setc M k S)) ([.ref (ad 1 k 0), .int (i32 q)] : List Value).toArray s 0 0 (Aw ad s.heap.size)) 4 [some (.ref (ad 1 k 0)), some (.int (i32 q)), some (.int (i32 (cnt (ldB S q) j.toNat))), some (.int (i32 j))] [] (setc M k S) := by
    intro n
    induction n with
    | zero =>
      intro j h0 h1
      have b18 := hI.p18 j
      have b16 := hI.p16 j
      refine r_iload_n (i := 3) F dX1_boatsAtSeaLedBy_4 rfl rfl ?_
      refine r_aload_n (i := 0) F dX1_boatsAtSeaLedBy_5 rfl rfl ?_
      refine gf_X1_58 F dX1_boatsAtSeaLedBy_6 hc ?_
      refine r_icmp_ge (tgt := 46) F dX1_boatsAtSeaLedBy_9 (by decide) (by first | assumption | exact ir_of (by omega) (by omega)) (by first | assumption | exact ir_of (by omega) (by omega)) (fun h9 => ?_) (fun h9 => ?_)
      · refine r_iload_n (i := 2) F dX1_boatsAtSeaLedBy_46 rfl rfl ?_
        exact r_iret F dX1_boatsAtSeaLedBy_47 rfl (by rw [show j = S 20 3 by omega] <;> rfl) rfl
      · exfalso; omega
    | succ n ih =>
      intro j h0 h1
      have b18 := hI.p18 j
      have b16 := hI.p16 j
      refine r_iload_n (i := 3) F dX1_boatsAtSeaLedBy_4 rfl rfl ?_
      refine r_aload_n (i := 0) F dX1_boatsAtSeaLedBy_5 rfl rfl ?_
      refine gf_X1_58 F dX1_boatsAtSeaLedBy_6 hc ?_
      refine r_icmp_ge (tgt := 46) F dX1_boatsAtSeaLedBy_9 (by decide) (by first | assumption | exact ir_of (by omega) (by omega)) (by first | assumption | exact ir_of (by omega) (by omega)) (fun h9 => ?_) (fun h9 => ?_)
      · exfalso; omega
      · refine r_aload_n (i := 0) F dX1_boatsAtSeaLedBy_12 rfl rfl ?_
        refine gf_X1_38 F dX1_boatsAtSeaLedBy_13 hc ?_
        refine r_iload_n (i := 3) F dX1_boatsAtSeaLedBy_16 rfl rfl ?_
        refine aa_8 F dX1_boatsAtSeaLedBy_17 hc (by omega) (by omega) ?_
        refine gf_X1_130 F dX1_boatsAtSeaLedBy_18 hc (by omega) (by omega) ?_
        refine r_if_ne (tgt := 40) F dX1_boatsAtSeaLedBy_21 (by decide) (by first | assumption | exact ir_of (by omega) (by omega)) (fun h21 => ?_) (fun h21 => ?_)
        · refine r_iinc (lv1 := [_, _, _, _]) F dX1_boatsAtSeaLedBy_40 rfl (by decide) rfl rfl ?_
          refine r_goto (tgt := 4) F dX1_boatsAtSeaLedBy_43 (by decide) ?_
          have t := ih (j + 1) (by omega) (by omega)
          first | (rw [cnt_S _ h0, show (ldB S q) j = true from (by unfold ldB; first | exact decide_eq_true (by first | assumption | omega) | exact decide_eq_false (by first | assumption | omega) | simp [*]), bi_t] at t; exact t) | (rw [cnt_S _ h0, show (ldB S q) j = false from (by unfold ldB; first | exact decide_eq_true (by first | assumption | omega) | exact decide_eq_false (by first | assumption | omega) | simp [*]), bi_f, Int.add_zero] at t; exact t)
        · refine r_aload_n (i := 0) F dX1_boatsAtSeaLedBy_24 rfl rfl ?_
          refine gf_X1_38 F dX1_boatsAtSeaLedBy_25 hc ?_
          refine r_iload_n (i := 3) F dX1_boatsAtSeaLedBy_28 rfl rfl ?_
          refine aa_8 F dX1_boatsAtSeaLedBy_29 hc (by omega) (by omega) ?_
          refine gf_X1_157 F dX1_boatsAtSeaLedBy_30 hc (by omega) (by omega) ?_
          refine r_iload_n (i := 1) F dX1_boatsAtSeaLedBy_33 rfl rfl ?_
          refine r_icmp_ne (tgt := 40) F dX1_boatsAtSeaLedBy_34 (by decide) (by first | assumption | exact ir_of (by omega) (by omega)) (by first | assumption | exact ir_of (by omega) (by omega)) (fun h34 => ?_) (fun h34 => ?_)
          · refine r_iinc (lv1 := [_, _, _, _]) F dX1_boatsAtSeaLedBy_40 rfl (by decide) rfl rfl ?_
            refine r_goto (tgt := 4) F dX1_boatsAtSeaLedBy_43 (by decide) ?_
            have t := ih (j + 1) (by omega) (by omega)
            first | (rw [cnt_S _ h0, show (ldB S q) j = true from (by unfold ldB; first | exact decide_eq_true (by first | assumption | omega) | exact decide_eq_false (by first | assumption | omega) | simp [*]), bi_t] at t; exact t) | (rw [cnt_S _ h0, show (ldB S q) j = false from (by unfold ldB; first | exact decide_eq_true (by first | assumption | omega) | exact decide_eq_false (by first | assumption | omega) | simp [*]), bi_f, Int.add_zero] at t; exact t)
          · refine r_iinc (lv1 := [_, _, _, _]) F dX1_boatsAtSeaLedBy_37 rfl (by decide) rfl rfl ?_
            refine r_iinc (lv1 := [_, _, _, _]) F dX1_boatsAtSeaLedBy_40 rfl (by decide) rfl rfl ?_
            refine r_goto (tgt := 4) F dX1_boatsAtSeaLedBy_43 (by decide) ?_
            have t := ih (j + 1) (by omega) (by omega)
            first | (rw [cnt_S _ h0, show (ldB S q) j = true from (by unfold ldB; first | exact decide_eq_true (by first | assumption | omega) | exact decide_eq_false (by first | assumption | omega) | simp [*]), bi_t] at t; exact t) | (rw [cnt_S _ h0, show (ldB S q) j = false from (by unfold ldB; first | exact decide_eq_true (by first | assumption | omega) | exact decide_eq_false (by first | assumption | omega) | simp [*]), bi_f, Int.add_zero] at t; exact t)
  refine r_iconst F dX1_boatsAtSeaLedBy_0 ?_
  refine r_istore_n (i := 2) (lv1 := [_, _, _, _]) F dX1_boatsAtSeaLedBy_1 rfl (by decide) rfl rfl ?_
  refine r_iconst F dX1_boatsAtSeaLedBy_2 ?_
  refine r_istore_n (i := 3) (lv1 := [_, _, _, _]) F dX1_boatsAtSeaLedBy_3 rfl (by decide) rfl rfl ?_
  exact loop (S 20 3).toNat 0 (by omega) (by omega)

set_option maxHeartbeats 4000000 in
set_option maxRecDepth 100000 in
theorem C_X1_boatsOfFate {l : Launch} {cy : Nat → ClassId} {D : va_G} {ad : Nat → Nat → Int → Nat} {M : Mem} {k : Nat} {S : St} {q : Int} (hc : k < 2) (hI : Inv S) (hq : 0 ≤ q ∧ q ≤ 2) : Ct l cy D ad yX1_boatsOfFate cX1_boatsOfFate 4 (some .int) 0 [.ref (ad 1 k 0), .int (i32 q)] (setc M k S) (some (.int (i32 (inF S q)))) (setc M k S) := by
  refine Ct.mk (lv := [some _, some _, none, none]) 2 (by decide) rfl (Nat.le_of_ble_eq_true rfl) (fun p e s m below meth c F => ?_)
  have ic := hI.pc
  have loop : ∀ (n : Nat) (j : Int), 0 ≤ j → j + (n : Int) = S 20 3 → V p l e (RM 0) s m ([.ref (ad 1 k 0), .int (i32 q)] : List Value).toArray below meth c 4 cy D ad (Aw ad s.heap.size) 0 0 (MQ below (Qn cy D ad s.heap.size (some (.int (i32 (inF S q)))) (setc M k S)) ([.ref (ad 1 k 0), .int (i32 q)] : List Value).toArray s 0 0 (Aw ad s.heap.size)) 4 [some (.ref (ad 1 k 0)), some (.int (i32 q)), some (.int (i32 (cnt (isF S q) j.toNat))), some (.int (i32 j))] [] (setc M k S) := by
    intro n
    induction n with
    | zero =>
      intro j h0 h1
      have b18 := hI.p18 j
      refine r_iload_n (i := 3) F dX1_boatsOfFate_4 rfl rfl ?_
      refine r_aload_n (i := 0) F dX1_boatsOfFate_5 rfl rfl ?_
      refine gf_X1_58 F dX1_boatsOfFate_6 hc ?_
      refine r_icmp_ge (tgt := 34) F dX1_boatsOfFate_9 (by decide) (by first | assumption | exact ir_of (by omega) (by omega)) (by first | assumption | exact ir_of (by omega) (by omega)) (fun h9 => ?_) (fun h9 => ?_)
      · refine r_iload_n (i := 2) F dX1_boatsOfFate_34 rfl rfl ?_
        exact r_iret F dX1_boatsOfFate_35 rfl (by rw [show j = S 20 3 by omega] <;> rfl) rfl
      · exfalso; omega
    | succ n ih =>
      intro j h0 h1
      have b18 := hI.p18 j
      refine r_iload_n (i := 3) F dX1_boatsOfFate_4 rfl rfl ?_
      refine r_aload_n (i := 0) F dX1_boatsOfFate_5 rfl rfl ?_
      refine gf_X1_58 F dX1_boatsOfFate_6 hc ?_
      refine r_icmp_ge (tgt := 34) F dX1_boatsOfFate_9 (by decide) (by first | assumption | exact ir_of (by omega) (by omega)) (by first | assumption | exact ir_of (by omega) (by omega)) (fun h9 => ?_) (fun h9 => ?_)
      · exfalso; omega
      · refine r_aload_n (i := 0) F dX1_boatsOfFate_12 rfl rfl ?_
        refine gf_X1_38 F dX1_boatsOfFate_13 hc ?_
        refine r_iload_n (i := 3) F dX1_boatsOfFate_16 rfl rfl ?_
        refine aa_8 F dX1_boatsOfFate_17 hc (by omega) (by omega) ?_
        refine gf_X1_130 F dX1_boatsOfFate_18 hc (by omega) (by omega) ?_
        refine r_iload_n (i := 1) F dX1_boatsOfFate_21 rfl rfl ?_
        refine r_icmp_ne (tgt := 28) F dX1_boatsOfFate_22 (by decide) (by first | assumption | exact ir_of (by omega) (by omega)) (by first | assumption | exact ir_of (by omega) (by omega)) (fun h22 => ?_) (fun h22 => ?_)
        · refine r_iinc (lv1 := [_, _, _, _]) F dX1_boatsOfFate_28 rfl (by decide) rfl rfl ?_
          refine r_goto (tgt := 4) F dX1_boatsOfFate_31 (by decide) ?_
          have t := ih (j + 1) (by omega) (by omega)
          first | (rw [cnt_S _ h0, show (isF S q) j = true from (by unfold isF; first | exact decide_eq_true (by first | assumption | omega) | exact decide_eq_false (by first | assumption | omega) | simp [*]), bi_t] at t; exact t) | (rw [cnt_S _ h0, show (isF S q) j = false from (by unfold isF; first | exact decide_eq_true (by first | assumption | omega) | exact decide_eq_false (by first | assumption | omega) | simp [*]), bi_f, Int.add_zero] at t; exact t)
        · refine r_iinc (lv1 := [_, _, _, _]) F dX1_boatsOfFate_25 rfl (by decide) rfl rfl ?_
          refine r_iinc (lv1 := [_, _, _, _]) F dX1_boatsOfFate_28 rfl (by decide) rfl rfl ?_
          refine r_goto (tgt := 4) F dX1_boatsOfFate_31 (by decide) ?_
          have t := ih (j + 1) (by omega) (by omega)
          first | (rw [cnt_S _ h0, show (isF S q) j = true from (by unfold isF; first | exact decide_eq_true (by first | assumption | omega) | exact decide_eq_false (by first | assumption | omega) | simp [*]), bi_t] at t; exact t) | (rw [cnt_S _ h0, show (isF S q) j = false from (by unfold isF; first | exact decide_eq_true (by first | assumption | omega) | exact decide_eq_false (by first | assumption | omega) | simp [*]), bi_f, Int.add_zero] at t; exact t)
  refine r_iconst F dX1_boatsOfFate_0 ?_
  refine r_istore_n (i := 2) (lv1 := [_, _, _, _]) F dX1_boatsOfFate_1 rfl (by decide) rfl rfl ?_
  refine r_iconst F dX1_boatsOfFate_2 ?_
  refine r_istore_n (i := 3) (lv1 := [_, _, _, _]) F dX1_boatsOfFate_3 rfl (by decide) rfl rfl ?_
  exact loop (S 20 3).toNat 0 (by omega) (by omega)

set_option maxHeartbeats 4000000 in
set_option maxRecDepth 100000 in
theorem C_X1_balesAtSea {l : Launch} {cy : Nat → ClassId} {D : va_G} {ad : Nat → Nat → Int → Nat} {M : Mem} {k : Nat} {S : St} (hc : k < 2) (hI : Inv S) : Ct l cy D ad yX1_balesAtSea cX1_balesAtSea 3 (some .int) 0 [.ref (ad 1 k 0)] (setc M k S) (some (.int (i32 (sm (S 14) (S 20 3).toNat)))) (setc M k S) := by
  refine Ct.mk (lv := [some _, none, none]) 2 (by decide) rfl (Nat.le_of_ble_eq_true rfl) (fun p e s m below meth c F => ?_)
  have ic := hI.pc
  have loop : ∀ (n : Nat) (j : Int), 0 ≤ j → j + (n : Int) = S 20 3 → V p l e (RM 0) s m ([.ref (ad 1 k 0)] : List Value).toArray below meth c 3 cy D ad (Aw ad s.heap.size) 0 0 (MQ below (Qn cy D ad s.heap.size (some (.int (i32 (sm (S 14) (S 20 3).toNat)))) (setc M k S)) ([.ref (ad 1 k 0)] : List Value).toArray s 0 0 (Aw ad s.heap.size)) 4 [some (.ref (ad 1 k 0)), some (.int (i32 (sm (S 14) j.toNat))), some (.int (i32 j))] [] (setc M k S) := by
    intro n
    induction n with
    | zero =>
      intro j h0 h1
      refine r_iload_n (i := 2) F dX1_balesAtSea_4 rfl rfl ?_
      refine r_aload_n (i := 0) F dX1_balesAtSea_5 rfl rfl ?_
      refine gf_X1_58 F dX1_balesAtSea_6 hc ?_
      refine r_icmp_ge (tgt := 30) F dX1_balesAtSea_9 (by decide) (by first | assumption | exact ir_of (by omega) (by omega)) (by first | assumption | exact ir_of (by omega) (by omega)) (fun h9 => ?_) (fun h9 => ?_)
      · refine r_iload_n (i := 1) F dX1_balesAtSea_30 rfl rfl ?_
        exact r_iret F dX1_balesAtSea_31 rfl (by rw [show j = S 20 3 by omega] <;> rfl) rfl
      · exfalso; omega
    | succ n ih =>
      intro j h0 h1
      refine r_iload_n (i := 2) F dX1_balesAtSea_4 rfl rfl ?_
      refine r_aload_n (i := 0) F dX1_balesAtSea_5 rfl rfl ?_
      refine gf_X1_58 F dX1_balesAtSea_6 hc ?_
      refine r_icmp_ge (tgt := 30) F dX1_balesAtSea_9 (by decide) (by first | assumption | exact ir_of (by omega) (by omega)) (by first | assumption | exact ir_of (by omega) (by omega)) (fun h9 => ?_) (fun h9 => ?_)
      · exfalso; omega
      · refine r_iload_n (i := 1) F dX1_balesAtSea_12 rfl rfl ?_
        refine r_aload_n (i := 0) F dX1_balesAtSea_13 rfl rfl ?_
        refine gf_X1_38 F dX1_balesAtSea_14 hc ?_
        refine r_iload_n (i := 2) F dX1_balesAtSea_17 rfl rfl ?_
        refine aa_8 F dX1_balesAtSea_18 hc (by omega) (by omega) ?_
        refine gf_X1_145 F dX1_balesAtSea_19 hc (by omega) (by omega) ?_
        refine r_iadd F dX1_balesAtSea_22 ?_
        refine r_istore_n (i := 1) (lv1 := [_, _, _]) F dX1_balesAtSea_23 rfl (by decide) rfl rfl ?_
        refine r_iinc (lv1 := [_, _, _]) F dX1_balesAtSea_24 rfl (by decide) rfl rfl ?_
        refine r_goto (tgt := 4) F dX1_balesAtSea_27 (by decide) ?_
        have t := ih (j + 1) (by omega) (by omega)
        rw [sm_S _ h0] at t
        exact t
  refine r_iconst F dX1_balesAtSea_0 ?_
  refine r_istore_n (i := 1) (lv1 := [_, _, _]) F dX1_balesAtSea_1 rfl (by decide) rfl rfl ?_
  refine r_iconst F dX1_balesAtSea_2 ?_
  refine r_istore_n (i := 2) (lv1 := [_, _, _]) F dX1_balesAtSea_3 rfl (by decide) rfl rfl ?_
  exact loop (S 20 3).toNat 0 (by omega) (by omega)

set_option maxHeartbeats 4000000 in
set_option maxRecDepth 100000 in
theorem C_X1_balesUnloaded {l : Launch} {cy : Nat → ClassId} {D : va_G} {ad : Nat → Nat → Int → Nat} {M : Mem} {k : Nat} {S : St} (hc : k < 2) (hI : Inv S) : Ct l cy D ad yX1_balesUnloaded cX1_balesUnloaded 3 (some .int) 0 [.ref (ad 1 k 0)] (setc M k S) (some (.int (i32 (sm (S 19) (S 20 3).toNat)))) (setc M k S) := by
  refine Ct.mk (lv := [some _, none, none]) 2 (by decide) rfl (Nat.le_of_ble_eq_true rfl) (fun p e s m below meth c F => ?_)
  have ic := hI.pc
  have loop : ∀ (n : Nat) (j : Int), 0 ≤ j → j + (n : Int) = S 20 3 → V p l e (RM 0) s m ([.ref (ad 1 k 0)] : List Value).toArray below meth c 3 cy D ad (Aw ad s.heap.size) 0 0 (MQ below (Qn cy D ad s.heap.size (some (.int (i32 (sm (S 19) (S 20 3).toNat)))) (setc M k S)) ([.ref (ad 1 k 0)] : List Value).toArray s 0 0 (Aw ad s.heap.size)) 4 [some (.ref (ad 1 k 0)), some (.int (i32 (sm (S 19) j.toNat))), some (.int (i32 j))] [] (setc M k S) := by
    intro n
    induction n with
    | zero =>
      intro j h0 h1
      refine r_iload_n (i := 2) F dX1_balesUnloaded_4 rfl rfl ?_
      refine r_aload_n (i := 0) F dX1_balesUnloaded_5 rfl rfl ?_
      refine gf_X1_58 F dX1_balesUnloaded_6 hc ?_
      refine r_icmp_ge (tgt := 30) F dX1_balesUnloaded_9 (by decide) (by first | assumption | exact ir_of (by omega) (by omega)) (by first | assumption | exact ir_of (by omega) (by omega)) (fun h9 => ?_) (fun h9 => ?_)
      · refine r_iload_n (i := 1) F dX1_balesUnloaded_30 rfl rfl ?_
        exact r_iret F dX1_balesUnloaded_31 rfl (by rw [show j = S 20 3 by omega] <;> rfl) rfl
      · exfalso; omega
    | succ n ih =>
      intro j h0 h1
      refine r_iload_n (i := 2) F dX1_balesUnloaded_4 rfl rfl ?_
      refine r_aload_n (i := 0) F dX1_balesUnloaded_5 rfl rfl ?_
      refine gf_X1_58 F dX1_balesUnloaded_6 hc ?_
      refine r_icmp_ge (tgt := 30) F dX1_balesUnloaded_9 (by decide) (by first | assumption | exact ir_of (by omega) (by omega)) (by first | assumption | exact ir_of (by omega) (by omega)) (fun h9 => ?_) (fun h9 => ?_)
      · exfalso; omega
      · refine r_iload_n (i := 1) F dX1_balesUnloaded_12 rfl rfl ?_
        refine r_aload_n (i := 0) F dX1_balesUnloaded_13 rfl rfl ?_
        refine gf_X1_38 F dX1_balesUnloaded_14 hc ?_
        refine r_iload_n (i := 2) F dX1_balesUnloaded_17 rfl rfl ?_
        refine aa_8 F dX1_balesUnloaded_18 hc (by omega) (by omega) ?_
        refine gf_X1_148 F dX1_balesUnloaded_19 hc (by omega) (by omega) ?_
        refine r_iadd F dX1_balesUnloaded_22 ?_
        refine r_istore_n (i := 1) (lv1 := [_, _, _]) F dX1_balesUnloaded_23 rfl (by decide) rfl rfl ?_
        refine r_iinc (lv1 := [_, _, _]) F dX1_balesUnloaded_24 rfl (by decide) rfl rfl ?_
        refine r_goto (tgt := 4) F dX1_balesUnloaded_27 (by decide) ?_
        have t := ih (j + 1) (by omega) (by omega)
        rw [sm_S _ h0] at t
        exact t
  refine r_iconst F dX1_balesUnloaded_0 ?_
  refine r_istore_n (i := 1) (lv1 := [_, _, _]) F dX1_balesUnloaded_1 rfl (by decide) rfl rfl ?_
  refine r_iconst F dX1_balesUnloaded_2 ?_
  refine r_istore_n (i := 2) (lv1 := [_, _, _]) F dX1_balesUnloaded_3 rfl (by decide) rfl rfl ?_
  exact loop (S 20 3).toNat 0 (by omega) (by omega)

set_option maxHeartbeats 4000000 in
set_option maxRecDepth 100000 in
theorem C_X1_balesInCaves {l : Launch} {cy : Nat → ClassId} {D : va_G} {ad : Nat → Nat → Int → Nat} {M : Mem} {k : Nat} {S : St} (hc : k < 2) : Ct l cy D ad yX1_balesInCaves cX1_balesInCaves 3 (some .int) 0 [.ref (ad 1 k 0)] (setc M k S) (some (.int (i32 (caves S)))) (setc M k S) := by
  refine Ct.mk (lv := [some _, none, none]) 2 (by decide) rfl (Nat.le_of_ble_eq_true rfl) (fun p e s m below meth c F => ?_)
  have loop : ∀ (n : Nat) (j : Int), 0 ≤ j → j + (n : Int) = 16 → V p l e (RM 0) s m ([.ref (ad 1 k 0)] : List Value).toArray below meth c 3 cy D ad (Aw ad s.heap.size) 0 0 (MQ below (Qn cy D ad s.heap.size (some (.int (i32 (caves S)))) (setc M k S)) ([.ref (ad 1 k 0)] : List Value).toArray s 0 0 (Aw ad s.heap.size)) 4 [some (.ref (ad 1 k 0)), some (.int (i32 (sm (S 1) j.toNat))), some (.int (i32 j))] [] (setc M k S) := by
    intro n
    induction n with
    | zero =>
      intro j h0 h1
      refine r_iload_n (i := 2) F dX1_balesInCaves_4 rfl rfl ?_
      refine r_bipush F dX1_balesInCaves_5 (by decide) ?_
      refine r_icmp_ge (tgt := 25) F dX1_balesInCaves_7 (by decide) (by first | assumption | exact ir_of (by omega) (by omega)) (by first | assumption | exact ir_of (by omega) (by omega)) (fun h7 => ?_) (fun h7 => ?_)
      · refine r_iload_n (i := 1) F dX1_balesInCaves_25 rfl rfl ?_
        exact r_iret F dX1_balesInCaves_26 rfl (by rw [show j = 16 by omega] <;> rfl) rfl
      · exfalso; omega
    | succ n ih =>
      intro j h0 h1
      refine r_iload_n (i := 2) F dX1_balesInCaves_4 rfl rfl ?_
      refine r_bipush F dX1_balesInCaves_5 (by decide) ?_
      refine r_icmp_ge (tgt := 25) F dX1_balesInCaves_7 (by decide) (by first | assumption | exact ir_of (by omega) (by omega)) (by first | assumption | exact ir_of (by omega) (by omega)) (fun h7 => ?_) (fun h7 => ?_)
      · exfalso; omega
      · refine r_iload_n (i := 1) F dX1_balesInCaves_10 rfl rfl ?_
        refine r_aload_n (i := 0) F dX1_balesInCaves_11 rfl rfl ?_
        refine gf_X1_15 F dX1_balesInCaves_12 hc ?_
        refine r_iload_n (i := 2) F dX1_balesInCaves_15 rfl rfl ?_
        refine ia_3 F dX1_balesInCaves_16 hc (by omega) (by omega) ?_
        refine r_iadd F dX1_balesInCaves_17 ?_
        refine r_istore_n (i := 1) (lv1 := [_, _, _]) F dX1_balesInCaves_18 rfl (by decide) rfl rfl ?_
        refine r_iinc (lv1 := [_, _, _]) F dX1_balesInCaves_19 rfl (by decide) rfl rfl ?_
        refine r_goto (tgt := 4) F dX1_balesInCaves_22 (by decide) ?_
        have t := ih (j + 1) (by omega) (by omega)
        rw [sm_S _ h0] at t
        exact t
  refine r_iconst F dX1_balesInCaves_0 ?_
  refine r_istore_n (i := 1) (lv1 := [_, _, _]) F dX1_balesInCaves_1 rfl (by decide) rfl rfl ?_
  refine r_iconst F dX1_balesInCaves_2 ?_
  refine r_istore_n (i := 2) (lv1 := [_, _, _]) F dX1_balesInCaves_3 rfl (by decide) rfl rfl ?_
  exact loop 16 0 (by omega) (by omega)

set_option maxHeartbeats 4000000 in
set_option maxRecDepth 100000 in
theorem C_X1_knownCodes {l : Launch} {cy : Nat → ClassId} {D : va_G} {ad : Nat → Nat → Int → Nat} {M : Mem} {k : Nat} {S : St} (hc : k < 2) (hI : Inv S) : Ct l cy D ad yX1_knownCodes cX1_knownCodes 3 (some .int) 1 [.ref (ad 1 k 0)] (setc M k S) (some (.int (i32 (known S)))) (setc M k S) := by
  refine Ct.mk (lv := [some _, none, none]) 2 (by decide) rfl (Nat.le_of_ble_eq_true rfl) (fun p e s m below meth c F => ?_)
  have loop : ∀ (n : Nat) (j : Int), 0 ≤ j → j + (n : Int) = 7 → V p l e (RM 1) s m ([.ref (ad 1 k 0)] : List Value).toArray below meth c 3 cy D ad (Aw ad s.heap.size) 0 0 (MQ below (Qn cy D ad s.heap.size (some (.int (i32 (known S)))) (setc M k S)) ([.ref (ad 1 k 0)] : List Value).toArray s 0 0 (Aw ad s.heap.size)) 4 [some (.ref (ad 1 k 0)), some (.int (i32 (cnt (kn1 S) j.toNat))), some (.int (i32 (j + 1)))] [] (setc M k S) := by
    intro n
    induction n with
    | zero =>
      intro j h0 h1
      refine r_iload_n (i := 2) F dX1_knownCodes_4 rfl rfl ?_
      refine r_bipush F dX1_knownCodes_5 (by decide) ?_
      refine r_icmp_gt (tgt := 27) F dX1_knownCodes_7 (by decide) (by first | assumption | exact ir_of (by omega) (by omega)) (by first | assumption | exact ir_of (by omega) (by omega)) (fun h7 => ?_) (fun h7 => ?_)
      · refine r_iload_n (i := 1) F dX1_knownCodes_27 rfl rfl ?_
        exact r_iret F dX1_knownCodes_28 rfl (by rw [show j = 7 by omega] <;> rfl) rfl
      · exfalso; omega
    | succ n ih =>
      intro j h0 h1
      refine r_iload_n (i := 2) F dX1_knownCodes_4 rfl rfl ?_
      refine r_bipush F dX1_knownCodes_5 (by decide) ?_
      refine r_icmp_gt (tgt := 27) F dX1_knownCodes_7 (by decide) (by first | assumption | exact ir_of (by omega) (by omega)) (by first | assumption | exact ir_of (by omega) (by omega)) (fun h7 => ?_) (fun h7 => ?_)
      · exfalso; omega
      · refine r_aload_n (i := 0) F dX1_knownCodes_10 rfl rfl ?_
        refine r_iload_n (i := 2) F dX1_knownCodes_11 rfl rfl ?_
        refine r_callV F (C_X1_isKnown hc hI ⟨by omega, by omega⟩) dX1_knownCodes_12 lkv_X1_170 rfl rfl (dm1 ⟨by decide, by decide⟩ hc) rfl rfl cd_X1_isKnown (by decide) ⟨Nat.le_refl _, Nat.le_refl _⟩ (Nat.le_of_ble_eq_true rfl) ?_
        refine r_bz_eq (tgt := 21) F dX1_knownCodes_15 (by decide) (fun h15 => ?_) (fun h15 => ?_)
        · refine r_iinc (lv1 := [_, _, _]) F dX1_knownCodes_21 rfl (by decide) rfl rfl ?_
          refine r_goto (tgt := 4) F dX1_knownCodes_24 (by decide) ?_
          have t := ih (j + 1) (by omega) (by omega)
          first | (rw [cnt_S _ h0, show kn1 S j = true from h15, bi_t] at t; exact t) | (rw [cnt_S _ h0, show kn1 S j = false from h15, bi_f, Int.add_zero] at t; exact t)
        · refine r_iinc (lv1 := [_, _, _]) F dX1_knownCodes_18 rfl (by decide) rfl rfl ?_
          refine r_iinc (lv1 := [_, _, _]) F dX1_knownCodes_21 rfl (by decide) rfl rfl ?_
          refine r_goto (tgt := 4) F dX1_knownCodes_24 (by decide) ?_
          have t := ih (j + 1) (by omega) (by omega)
          first | (rw [cnt_S _ h0, show kn1 S j = true from h15, bi_t] at t; exact t) | (rw [cnt_S _ h0, show kn1 S j = false from h15, bi_f, Int.add_zero] at t; exact t)
  refine r_iconst F dX1_knownCodes_0 ?_
  refine r_istore_n (i := 1) (lv1 := [_, _, _]) F dX1_knownCodes_1 rfl (by decide) rfl rfl ?_
  refine r_iconst F dX1_knownCodes_2 ?_
  refine r_istore_n (i := 2) (lv1 := [_, _, _]) F dX1_knownCodes_3 rfl (by decide) rfl rfl ?_
  exact loop 7 0 (by omega) (by omega)

set_option maxHeartbeats 4000000 in
set_option maxRecDepth 100000 in
theorem C_X1_tellLantern {l : Launch} {cy : Nat → ClassId} {D : va_G} {ad : Nat → Nat → Int → Nat} {M : Mem} {k : Nat} {S : St} {x w : Int} (hc : k < 2) (hI : Inv S) (hh : 0 ≤ S 20 0 ∧ S 20 0 < 1000000) (hx : 0 ≤ x ∧ x < 5) (hw : 0 ≤ w ∧ w ≤ 3) : Ct l cy D ad yX1_tellLantern cX1_tellLantern 3 (some .int) 4 [.ref (ad 1 k 0), .ref (ad 9 k x), .int (i32 w)] (setc M k S) (some (.int (i32 (lightF S x w)))) (setc M k S) := by
  refine Ct.mk (lv := [some _, some _, some _]) 0 (by decide) rfl (Nat.le_of_ble_eq_true rfl) (fun p e s m below meth c F => ?_)
  have hm := mo_bd S
  have hb := hn_bd S
  have b4 := hI.p4 x
  refine r_iload_n (i := 2) F dX1_tellLantern_0 rfl rfl ?_
  have hq : w = 0 ∨ w = 1 ∨ w = 2 ∨ w = 3 := by omega
  rcases hq with rfl | rfl | rfl | rfl
  · refine r_swIn (tgt := 28) F dX1_tellLantern_1 (ir_of (by omega) (by omega)) (by decide) (by decide) rfl (by decide) ?_
    refine r_aload_n (i := 1) F dX1_tellLantern_28 rfl rfl ?_
    refine gf_X1_90 F dX1_tellLantern_29 hc (by omega) (by omega) ?_
    exact r_iret F dX1_tellLantern_32 rfl rfl rfl
  · refine r_swIn (tgt := 33) F dX1_tellLantern_1 (ir_of (by omega) (by omega)) (by decide) (by decide) rfl (by decide) ?_
    refine r_aload_n (i := 1) F dX1_tellLantern_33 rfl rfl ?_
    refine gf_X1_114 F dX1_tellLantern_34 hc (by omega) (by omega) ?_
    refine r_aload_n (i := 0) F dX1_tellLantern_37 rfl rfl ?_
    refine r_callV F (C_X1_hourOfNight hc hh) dX1_tellLantern_38 lkv_X1_100 rfl rfl (dm1 ⟨by decide, by decide⟩ hc) rfl rfl cd_X1_hourOfNight (by decide) ⟨Nat.le_refl _, Nat.le_refl _⟩ (Nat.le_of_ble_eq_true rfl) ?_
    refine ia_10 F dX1_tellLantern_41 hc (by omega) (by omega) (by omega) (by omega) ?_
    exact r_iret F dX1_tellLantern_42 rfl rfl rfl
  · refine r_swIn (tgt := 43) F dX1_tellLantern_1 (ir_of (by omega) (by omega)) (by decide) (by decide) rfl (by decide) ?_
    refine r_aload_n (i := 0) F dX1_tellLantern_43 rfl rfl ?_
    refine r_aload_n (i := 1) F dX1_tellLantern_44 rfl rfl ?_
    refine gf_X1_90 F dX1_tellLantern_45 hc (by omega) (by omega) ?_
    refine r_aload_n (i := 0) F dX1_tellLantern_48 rfl rfl ?_
    refine r_callV F (C_X1_moonNow hc hh) dX1_tellLantern_49 lkv_X1_96 rfl rfl (dm1 ⟨by decide, by decide⟩ hc) rfl rfl cd_X1_moonNow (by decide) ⟨Nat.le_refl _, Nat.le_refl _⟩ (Nat.le_of_ble_eq_true rfl) ?_
    refine r_callV F (C_X1_watchmenSeeingLantern hc hI (by omega) hm) dX1_tellLantern_52 lkv_X1_117 rfl rfl (dm1 ⟨by decide, by decide⟩ hc) rfl rfl cd_X1_watchmenSeeingLantern (by decide) ⟨Nat.le_refl _, Nat.le_refl _⟩ (Nat.le_of_ble_eq_true rfl) ?_
    exact r_iret F dX1_tellLantern_55 rfl rfl rfl
  · refine r_swOut (tgt := 56) F dX1_tellLantern_1 (ir_of (by omega) (by omega)) (by omega) (by decide) ?_
    refine r_aload_n (i := 1) F dX1_tellLantern_56 rfl rfl ?_
    refine gf_X1_120 F dX1_tellLantern_57 hc (by omega) (by omega) ?_
    exact r_iret F dX1_tellLantern_60 rfl rfl rfl

set_option maxHeartbeats 4000000 in
set_option maxRecDepth 100000 in
theorem C_X1_tellCode {l : Launch} {cy : Nat → ClassId} {D : va_G} {ad : Nat → Nat → Int → Nat} {M : Mem} {k : Nat} {S : St} {x w : Int} (hc : k < 2) (hI : Inv S) (hx : 0 ≤ x ∧ x < 8) (hw : 0 ≤ w ∧ w ≤ 3) : Ct l cy D ad yX1_tellCode cX1_tellCode 3 (some .int) 4 [.ref (ad 1 k 0), .int (i32 x), .int (i32 w)] (setc M k S) (some (.int (i32 (codeF S x w)))) (setc M k S) := by
  refine Ct.mk (lv := [some _, some _, some _]) 0 (by decide) rfl (Nat.le_of_ble_eq_true rfl) (fun p e s m below meth c F => ?_)
  refine r_iload_n (i := 2) F dX1_tellCode_0 rfl rfl ?_
  have hq : w = 0 ∨ w = 1 ∨ w = 2 ∨ w = 3 := by omega
  rcases hq with rfl | rfl | rfl | rfl
  · refine r_swIn (tgt := 28) F dX1_tellCode_1 (ir_of (by omega) (by omega)) (by decide) (by decide) rfl (by decide) ?_
    refine r_aload_n (i := 0) F dX1_tellCode_28 rfl rfl ?_
    refine gf_X1_18 F dX1_tellCode_29 hc ?_
    refine r_iload_n (i := 1) F dX1_tellCode_32 rfl rfl ?_
    refine ia_4 F dX1_tellCode_33 hc (by omega) (by omega) ?_
    exact r_iret F dX1_tellCode_34 rfl (by first | rfl | (show _ = bi (kn S x); rw [h47]; done) | (show _ = bi (kn S x); rw [h47]; rfl)) rfl
  · refine r_swIn (tgt := 35) F dX1_tellCode_1 (ir_of (by omega) (by omega)) (by decide) (by decide) rfl (by decide) ?_
    refine r_aload_n (i := 0) F dX1_tellCode_35 rfl rfl ?_
    refine gf_X1_21 F dX1_tellCode_36 hc ?_
    refine r_iload_n (i := 1) F dX1_tellCode_39 rfl rfl ?_
    refine ia_5 F dX1_tellCode_40 hc (by omega) (by omega) ?_
    exact r_iret F dX1_tellCode_41 rfl (by first | rfl | (show _ = bi (kn S x); rw [h47]; done) | (show _ = bi (kn S x); rw [h47]; rfl)) rfl
  · refine r_swIn (tgt := 42) F dX1_tellCode_1 (ir_of (by omega) (by omega)) (by decide) (by decide) rfl (by decide) ?_
    refine r_aload_n (i := 0) F dX1_tellCode_42 rfl rfl ?_
    refine r_iload_n (i := 1) F dX1_tellCode_43 rfl rfl ?_
    refine r_callV F (C_X1_isKnown hc hI hx) dX1_tellCode_44 lkv_X1_170 rfl rfl (dm1 ⟨by decide, by decide⟩ hc) rfl rfl cd_X1_isKnown (by decide) ⟨Nat.le_refl _, Nat.le_refl _⟩ (Nat.le_of_ble_eq_true rfl) ?_
    refine r_bz_eq (tgt := 54) F dX1_tellCode_47 (by decide) (fun h47 => ?_) (fun h47 => ?_)
    · refine r_iconst F dX1_tellCode_54 ?_
      exact r_iret F dX1_tellCode_55 rfl (by first | rfl | (show _ = bi (kn S x); rw [h47]; done) | (show _ = bi (kn S x); rw [h47]; rfl)) rfl
    · refine r_iconst F dX1_tellCode_50 ?_
      refine r_goto (tgt := 55) F dX1_tellCode_51 (by decide) ?_
      exact r_iret F dX1_tellCode_55 rfl (by first | rfl | (show _ = bi (kn S x); rw [h47]; done) | (show _ = bi (kn S x); rw [h47]; rfl)) rfl
  · refine r_swOut (tgt := 56) F dX1_tellCode_1 (ir_of (by omega) (by omega)) (by omega) (by decide) ?_
    refine r_aload_n (i := 0) F dX1_tellCode_56 rfl rfl ?_
    refine r_iload_n (i := 1) F dX1_tellCode_57 rfl rfl ?_
    refine r_callV F (C_X1_boatsAtSeaLedBy hc hI (by omega)) dX1_tellCode_58 lkv_X1_181 rfl rfl (dm1 ⟨by decide, by decide⟩ hc) rfl rfl cd_X1_boatsAtSeaLedBy (by decide) ⟨Nat.le_refl _, Nat.le_refl _⟩ (Nat.le_of_ble_eq_true rfl) ?_
    exact r_iret F dX1_tellCode_61 rfl (by first | rfl | (show _ = bi (kn S x); rw [h47]; done) | (show _ = bi (kn S x); rw [h47]; rfl)) rfl

set_option maxHeartbeats 4000000 in
set_option maxRecDepth 100000 in
theorem C_X1_tellPlace {l : Launch} {cy : Nat → ClassId} {D : va_G} {ad : Nat → Nat → Int → Nat} {M : Mem} {k : Nat} {S : St} {x w : Int} (hc : k < 2) (hI : Inv S) (hh : 0 ≤ S 20 0 ∧ S 20 0 < 1000000) (hx : 0 ≤ x ∧ x ≤ 15) (hw : 0 ≤ w ∧ w ≤ 4) : Ct l cy D ad yX1_tellPlace cX1_tellPlace 3 (some .int) 4 [.ref (ad 1 k 0), .int (i32 x), .int (i32 w)] (setc M k S) (some (.int (i32 (placeF S x w)))) (setc M k S) := by
  refine Ct.mk (lv := [some _, some _, some _]) 0 (by decide) rfl (Nat.le_of_ble_eq_true rfl) (fun p e s m below meth c F => ?_)
  refine r_iload_n (i := 2) F dX1_tellPlace_0 rfl rfl ?_
  have hq : w = 0 ∨ w = 1 ∨ w = 2 ∨ w = 3 ∨ w = 4 := by omega
  rcases hq with rfl | rfl | rfl | rfl | rfl
  · refine r_swIn (tgt := 32) F dX1_tellPlace_1 (ir_of (by omega) (by omega)) (by decide) (by decide) rfl (by decide) ?_
    refine r_aload_n (i := 0) F dX1_tellPlace_32 rfl rfl ?_
    refine gf_X1_9 F dX1_tellPlace_33 hc ?_
    refine r_iload_n (i := 1) F dX1_tellPlace_36 rfl rfl ?_
    refine ia_2 F dX1_tellPlace_37 hc (by omega) (by omega) ?_
    exact r_iret F dX1_tellPlace_38 rfl rfl rfl
  · refine r_swIn (tgt := 39) F dX1_tellPlace_1 (ir_of (by omega) (by omega)) (by decide) (by decide) rfl (by decide) ?_
    refine r_aload_n (i := 0) F dX1_tellPlace_39 rfl rfl ?_
    refine gf_X1_15 F dX1_tellPlace_40 hc ?_
    refine r_iload_n (i := 1) F dX1_tellPlace_43 rfl rfl ?_
    refine ia_3 F dX1_tellPlace_44 hc (by omega) (by omega) ?_
    exact r_iret F dX1_tellPlace_45 rfl rfl rfl
  · refine r_swIn (tgt := 46) F dX1_tellPlace_1 (ir_of (by omega) (by omega)) (by decide) (by decide) rfl (by decide) ?_
    refine r_aload_n (i := 0) F dX1_tellPlace_46 rfl rfl ?_
    refine r_iload_n (i := 1) F dX1_tellPlace_47 rfl rfl ?_
    refine r_callV F (C_X1_watchmenAt hc hI hx) dX1_tellPlace_48 lkv_X1_184 rfl rfl (dm1 ⟨by decide, by decide⟩ hc) rfl rfl cd_X1_watchmenAt (by decide) ⟨Nat.le_refl _, Nat.le_refl _⟩ (Nat.le_of_ble_eq_true rfl) ?_
    exact r_iret F dX1_tellPlace_51 rfl rfl rfl
  · refine r_swIn (tgt := 52) F dX1_tellPlace_1 (ir_of (by omega) (by omega)) (by decide) (by decide) rfl (by decide) ?_
    refine r_aload_n (i := 0) F dX1_tellPlace_52 rfl rfl ?_
    refine r_iload_n (i := 1) F dX1_tellPlace_53 rfl rfl ?_
    refine r_callV F (C_X1_boatsAtSeaAt hc hI hx) dX1_tellPlace_54 lkv_X1_187 rfl rfl (dm1 ⟨by decide, by decide⟩ hc) rfl rfl cd_X1_boatsAtSeaAt (by decide) ⟨Nat.le_refl _, Nat.le_refl _⟩ (Nat.le_of_ble_eq_true rfl) ?_
    exact r_iret F dX1_tellPlace_57 rfl rfl rfl
  · refine r_swOut (tgt := 58) F dX1_tellPlace_1 (ir_of (by omega) (by omega)) (by omega) (by decide) ?_
    refine r_aload_n (i := 0) F dX1_tellPlace_58 rfl rfl ?_
    refine r_iload_n (i := 1) F dX1_tellPlace_59 rfl rfl ?_
    refine r_callV F (C_X1_watchmenSeeingPlace hc hI hh hx) dX1_tellPlace_60 lkv_X1_190 rfl rfl (dm1 ⟨by decide, by decide⟩ hc) rfl rfl cd_X1_watchmenSeeingPlace (by decide) ⟨Nat.le_refl _, Nat.le_refl _⟩ (Nat.le_of_ble_eq_true rfl) ?_
    exact r_iret F dX1_tellPlace_63 rfl rfl rfl

set_option maxHeartbeats 4000000 in
set_option maxRecDepth 100000 in
theorem C_X1_tally {l : Launch} {cy : Nat → ClassId} {D : va_G} {ad : Nat → Nat → Int → Nat} {M : Mem} {k : Nat} {S : St} {x : Int} (hc : k < 2) (hI : Inv S) (hx : 0 ≤ x ∧ x ≤ 10) : Ct l cy D ad yX1_tally cX1_tally 2 (some .int) 4 [.ref (ad 1 k 0), .int (i32 x)] (setc M k S) (some (.int (i32 (counted S x)))) (setc M k S) := by
  refine Ct.mk (lv := [some _, some _]) 0 (by decide) rfl (Nat.le_of_ble_eq_true rfl) (fun p e s m below meth c F => ?_)
  refine r_iload_n (i := 1) F dX1_tally_0 rfl rfl ?_
  have hq : x = 0 ∨ x = 1 ∨ x = 2 ∨ x = 3 ∨ x = 4 ∨ x = 5 ∨ x = 6 ∨ x = 7 ∨ x = 8 ∨ x = 9 ∨ x = 10 := by omega
  rcases hq with rfl | rfl | rfl | rfl | rfl | rfl | rfl | rfl | rfl | rfl | rfl
  · refine r_swIn (tgt := 56) F dX1_tally_1 (ir_of (by omega) (by omega)) (by decide) (by decide) rfl (by decide) ?_
    refine r_aload_n (i := 0) F dX1_tally_56 rfl rfl ?_
    refine gf_X1_71 F dX1_tally_57 hc ?_
    exact r_iret F dX1_tally_60 rfl rfl rfl
  · refine r_swIn (tgt := 61) F dX1_tally_1 (ir_of (by omega) (by omega)) (by decide) (by decide) rfl (by decide) ?_
    refine r_aload_n (i := 0) F dX1_tally_61 rfl rfl ?_
    refine gf_X1_51 F dX1_tally_62 hc ?_
    exact r_iret F dX1_tally_65 rfl rfl rfl
  · refine r_swIn (tgt := 66) F dX1_tally_1 (ir_of (by omega) (by omega)) (by decide) (by decide) rfl (by decide) ?_
    refine r_aload_n (i := 0) F dX1_tally_66 rfl rfl ?_
    refine gf_X1_55 F dX1_tally_67 hc ?_
    exact r_iret F dX1_tally_70 rfl rfl rfl
  · refine r_swIn (tgt := 71) F dX1_tally_1 (ir_of (by omega) (by omega)) (by decide) (by decide) rfl (by decide) ?_
    refine r_aload_n (i := 0) F dX1_tally_71 rfl rfl ?_
    refine gf_X1_58 F dX1_tally_72 hc ?_
    exact r_iret F dX1_tally_75 rfl rfl rfl
  · refine r_swIn (tgt := 76) F dX1_tally_1 (ir_of (by omega) (by omega)) (by decide) (by decide) rfl (by decide) ?_
    refine r_aload_n (i := 0) F dX1_tally_76 rfl rfl ?_
    refine r_iconst F dX1_tally_77 ?_
    refine r_callV F (C_X1_boatsOfFate hc hI (by decide)) dX1_tally_78 lkv_X1_193 rfl rfl (dm1 ⟨by decide, by decide⟩ hc) rfl rfl cd_X1_boatsOfFate (by decide) ⟨Nat.le_refl _, Nat.le_refl _⟩ (Nat.le_of_ble_eq_true rfl) ?_
    exact r_iret F dX1_tally_81 rfl rfl rfl
  · refine r_swIn (tgt := 82) F dX1_tally_1 (ir_of (by omega) (by omega)) (by decide) (by decide) rfl (by decide) ?_
    refine r_aload_n (i := 0) F dX1_tally_82 rfl rfl ?_
    refine r_iconst F dX1_tally_83 ?_
    refine r_callV F (C_X1_boatsOfFate hc hI (by decide)) dX1_tally_84 lkv_X1_193 rfl rfl (dm1 ⟨by decide, by decide⟩ hc) rfl rfl cd_X1_boatsOfFate (by decide) ⟨Nat.le_refl _, Nat.le_refl _⟩ (Nat.le_of_ble_eq_true rfl) ?_
    exact r_iret F dX1_tally_87 rfl rfl rfl
  · refine r_swIn (tgt := 88) F dX1_tally_1 (ir_of (by omega) (by omega)) (by decide) (by decide) rfl (by decide) ?_
    refine r_aload_n (i := 0) F dX1_tally_88 rfl rfl ?_
    refine r_iconst F dX1_tally_89 ?_
    refine r_callV F (C_X1_boatsOfFate hc hI (by decide)) dX1_tally_90 lkv_X1_193 rfl rfl (dm1 ⟨by decide, by decide⟩ hc) rfl rfl cd_X1_boatsOfFate (by decide) ⟨Nat.le_refl _, Nat.le_refl _⟩ (Nat.le_of_ble_eq_true rfl) ?_
    exact r_iret F dX1_tally_93 rfl rfl rfl
  · refine r_swIn (tgt := 94) F dX1_tally_1 (ir_of (by omega) (by omega)) (by decide) (by decide) rfl (by decide) ?_
    refine r_aload_n (i := 0) F dX1_tally_94 rfl rfl ?_
    refine r_callV F (C_X1_balesInCaves hc) dX1_tally_95 lkv_X1_196 rfl rfl (dm1 ⟨by decide, by decide⟩ hc) rfl rfl cd_X1_balesInCaves (by decide) ⟨Nat.le_refl _, Nat.le_refl _⟩ (Nat.le_of_ble_eq_true rfl) ?_
    exact r_iret F dX1_tally_98 rfl rfl rfl
  · refine r_swIn (tgt := 99) F dX1_tally_1 (ir_of (by omega) (by omega)) (by decide) (by decide) rfl (by decide) ?_
    refine r_aload_n (i := 0) F dX1_tally_99 rfl rfl ?_
    refine gf_X1_74 F dX1_tally_100 hc ?_
    exact r_iret F dX1_tally_103 rfl rfl rfl
  · refine r_swIn (tgt := 104) F dX1_tally_1 (ir_of (by omega) (by omega)) (by decide) (by decide) rfl (by decide) ?_
    refine r_aload_n (i := 0) F dX1_tally_104 rfl rfl ?_
    refine gf_X1_77 F dX1_tally_105 hc ?_
    exact r_iret F dX1_tally_108 rfl rfl rfl
  · refine r_swOut (tgt := 109) F dX1_tally_1 (ir_of (by omega) (by omega)) (by omega) (by decide) ?_
    refine r_aload_n (i := 0) F dX1_tally_109 rfl rfl ?_
    refine r_callV F (C_X1_knownCodes hc hI) dX1_tally_110 lkv_X1_199 rfl rfl (dm1 ⟨by decide, by decide⟩ hc) rfl rfl cd_X1_knownCodes (by decide) ⟨Nat.le_refl _, Nat.le_refl _⟩ (Nat.le_of_ble_eq_true rfl) ?_
    exact r_iret F dX1_tally_113 rfl rfl rfl
