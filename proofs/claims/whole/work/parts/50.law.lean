/-! The law: its loop, its start. -/
def R_law : String := "CoveSignalsLaw"
def lw_P (b : Addr) (xs : List Int32) (args : Array Value) (s : State) : Prop := args = #[.ref b] ∧ s.IntsAt b xs ∧ xs.length ≤ 2048 ∧ (Jvm.Cond.and given_1 narrow_1).before args s = true
/-- what a walk over the start with the record d0 says of its end, said of the start itself -/
theorem lw_closed {s t : State} {o : Outcome} {d0 : Drawn} {L : List Loc} {k n : Nat} (hd0 : s.drawn.sameBut d0 lw_cs) (hv : ∃ v, o = .returned v) (hW : (s.setDrawn d0).WarmedH t.vm) (hs : (s.setDrawn d0).sameButNew ({ t with vm := s.vm } : State) L k n) : State.butDraws s t lw_cs (fun t1 => Framed s o t1 L k n) := by
  have h2 : t.drawn = d0 := congrArg State.drawn hs.1
  refine ⟨⟨hv, hW, State.sameButNew.setDrawn hs s.drawn⟩, ?_, by decide⟩
  rw [h2]
  exact hd0
def lw_Q (_ : Array Value) (s : State) (o : Outcome) (t : State) : Prop := o = .returned (some (.int 1)) ∧ State.butDraws s t lw_cs (fun t1 => Framed s o t1 [] 657979 7122168)
def lw_Z (below : List Frame) (a : Array Value) (s : State) : State → Prop := fun t => ∃ o, t.status = .running ∧ Ended t below o ∧ lw_Q a s o t
/-- the law's own end, with 1 on the stack, nothing written that was there before, its room as the claim has it; d0: the record of draws at this point (at the entry s.drawn: begin with 'refine W.base ?_' and 'have hd0 := Drawn.sameBut.refl s.drawn lw_cs') -/
theorem lw_ret {p : Program} {l : Launch} {e : Env} {s : State} {m : MethodId} {below : List Frame} {meth : Method} {c : Code} {b : Nat} {d0 : Drawn} (hd0 : s.drawn.sameBut d0 lw_cs) (hx : p.tables.exec = Jvm.exec) (hb : c.code = code) (hr : meth.sig.returnType = ret) (hlocks : meth.locks = false) {pc : Nat} {H : Heap} {ls : Array Slot} (hdg : decode code pc = .ok (.ireturn, 1)) : W p l e room_1 (s.setDrawn d0) m #[Value.ref b] below meth c H [] 657979 7122168 (lw_Z below #[Value.ref b] s) (F0 m pc ls [.int 1]) := by
  intro T hT X
  obtain ⟨fs, hret, hrun, hended, hW, hframe⟩ := X.leave (v := some (.int 1)) (hlocks := hlocks) (fun h => by rw [hr] at h; cases h)
  have hmeth' : T.vm.method? m = some meth := X.method'
  refine ⟨T.setFrames fs, ?_, .returned (some (.int 1)), hrun, hended, rfl, lw_closed hd0 ⟨_, rfl⟩ hW hframe⟩
  jvm_step X.here [X.here.top, hx, hb, hdg, hmeth', hr, ret, narrow_b1]
  (try refine ⟨rfl, ?_⟩); (try refine ⟨rfl, ?_⟩)
  first | (intro acts; rw [hret _ acts rfl rfl rfl]) | rw [hret _ _ rfl rfl rfl]
  exact Steps.refl _
/-- what holds at the law's entry: the machine, the code, the tables' words (any of lw_tbl by 'hts w (by decide +kernel)'), the script of L ints xs at the cell b, what the Statement gives of the start (any of its parts by flat_of_before) -/
def lw_At (p : Program) (s : State) (m : MethodId) (meth : Method) (c : Code) (b L : Nat) (xs : Nat → Int32) : Prop :=
  p.tables.exec = Jvm.exec ∧ c.code = code ∧ meth.sig.returnType = ret ∧ c.maxLocals = 9 ∧ s.vm.findClass R_law = some m.cls ∧ (∀ w ∈ lw_tbl, w.before #[Value.ref b] s = true) ∧ va_X b L xs s s.heap ∧ b < s.heap.size ∧ meth.locks = false ∧ (Jvm.Cond.and given_1 narrow_1).before #[Value.ref b] s = true

section KI
variable {p : Program} {l : Launch} {e : Env} {R : Room} {s : State} {m : MethodId} {args : Array Value} {below : List Frame} {meth : Method} {c : Code} {nL : Nat} {cy : Nat → ClassId} {D : va_G} {A : Nat → Prop} {kc ks : Nat} {Q : State → Prop} {pc : Nat} {lv : List (Option Value)} {st : List Value} {ws : va_W} {own : String} {cc : ByteArray}
theorem k_istore (F : FK p s m args meth c own cc nL cy D A) {i : Nat} {x : Int32} {lv1 : List (Option Value)} (d : decode cc pc = .ok (.istore i, 2)) (hn : i < nL) (hs : lv.set i (some (.int x)) = lv1) (hp : okp lv i = true) (kk : UV p l e R s m args below meth c nL D A kc ks Q (pc + 2) lv1 st ws) : UV p l e R s m args below meth c nL D A kc ks Q pc lv (.int x :: st) ws := fun H locs _ hP hD hS hl => lv_istore F.1 F.2.1 d hl.has hn rfl (fun ls1 h1 => kk H locs ls1 hP hD hS (lvh.st1 hs hp h1))
end KI
set_option maxHeartbeats 4000000 in
set_option maxRecDepth 100000 in
theorem law_loop {p : Program} {l : Launch} {e : Env} {s : State} {m : MethodId} {below : List Frame} {meth : Method} {c : Code} {cy : Nat → ClassId} {D : va_G} {ad : Nat → Nat → Int → Nat} {b L : Nat} {xs : Nat → Int32} (F : Fx p s m #[Value.ref b] meth c RL code 9 ret cy D ad (fun q : Nat => s.heap.size ≤ q)) (G : Gx l s (fun q : Nat => s.heap.size ≤ q)) (hX : va_X b L xs s s.heap) (hbl : b < s.heap.size) (hL : L ≤ 2048) : ∀ (n k : Nat) (M : Mem), k + n = 513 → LI k M →
    V p l e room_1 s m #[Value.ref b] below meth c 9 cy D ad (fun q : Nat => s.heap.size ≤ q) (101 + k) (820 + 6 * k) (lw_Z below #[Value.ref b] s) 23 (LH b ad k) [] M := by
  have hbA : ¬ (fun q : Nat => s.heap.size ≤ q) b := Nat.not_le.mpr hbl
  have hend : ∀ (k : Nat) (M : Mem), k ≤ 513 → V p l e room_1 s m #[Value.ref b] below meth c 9 cy D ad (fun q : Nat => s.heap.size ≤ q) (101 + k) (820 + 6 * k) (lw_Z below #[Value.ref b] s) 1501 (LH b ad k) [] M := by
    intro k M hk
    refine r_iconst F dL_law_1501 ?_
    obtain ⟨hx, hb, hml, hown, hr, hlk, hts, hK, hI, hA1, hA2⟩ := F
    intro H locs ls hP hS hl
    refine va_forget (fun q hq => hS.2.2 q hq) ?_
    refine W.widen (k := 657979) (n := 7122168) (by omega) (by omega) ?_
    exact lw_ret (d0 := s.drawn) (Drawn.sameBut.refl s.drawn lw_cs) hx hb hr hlk dL_law_1502
  intro n
  induction n with
  | zero =>
    intro k M h1 hLI
    refine r_iload F dL_law_23 rfl ?_
    refine r_aload_n (i := 0) F dL_law_25 rfl rfl ?_
    refine r_slen F hX hbl hbA dL_law_26 ?_
    refine r_iconst F dL_law_27 ?_
    refine r_isub F dL_law_28 ?_
    refine r_icmp_gt (tgt := 1501) F dL_law_29 (by decide) (ir_of (by omega) (by omega)) (ir_of (by omega) (by omega)) (fun h29 => ?_) (fun h29 => ?_)
    · exact hend k M (by omega)
    · exfalso; omega
  | succ n ih =>
    intro k M h1 hLI
    have hk9 : ∀ M' : Mem, LI (k + 1) M' → V p l e room_1 s m #[Value.ref b] below meth c 9 cy D ad (fun q : Nat => s.heap.size ≤ q) (101 + k + 1) (820 + 6 * k + 6) (lw_Z below #[Value.ref b] s) 1495 (LH b ad k) [] M' := by
      intro M' hL9
      refine r_iinc (lv1 := [_, _, _, _, some (.int (i32 (4 * (k : Int) + 4))), _, _, _, _]) F dL_law_1495 rfl (by decide) rfl rfl ?_
      refine r_goto (tgt := 23) F dL_law_1498 (by decide) ?_
      rw [show 4 * (k : Int) + 4 = 4 * ((k + 1 : Nat) : Int) by omega]
      exact ih (k + 1) M' (by omega) hL9
    refine r_iload F dL_law_23 rfl ?_
    refine r_aload_n (i := 0) F dL_law_25 rfl rfl ?_
    refine r_slen F hX hbl hbA dL_law_26 ?_
    refine r_iconst F dL_law_27 ?_
    refine r_isub F dL_law_28 ?_
    refine r_icmp_gt (tgt := 1501) F dL_law_29 (by decide) (ir_of (by omega) (by omega)) (ir_of (by omega) (by omega)) (fun h29 => ?_) (fun h29 => ?_)
    · exact hend k M (by omega)
    · have hj : 4 * (k : Int) + 4 ≤ L := by omega
      have hR : (101 + k) + 1 ≤ room_1.cells ∧ (820 + 6 * k) + 6 ≤ room_1.slots := ⟨by show (101 + k) + 1 ≤ 657979; omega, by show (820 + 6 * k) + 6 ≤ 7122168; omega⟩
      refine r_aload_n (i := 0) F dL_law_32 rfl rfl ?_
      refine r_iload F dL_law_33 rfl ?_
      refine r_sld F hX hbl hbA (i32_of _).symm (by omega) (by omega) hL dL_law_35 ?_
      refine r_bipush F dL_law_36 (by decide) ?_
      refine r_iand F dL_law_38 ?_
      obtain ⟨z, hz, ez⟩ := and31 (i32 (xs (4 * (k : Int)).toNat).toInt)
      rw [ez]
      by_cases hz2 : z ≤ 21
      · have hq : z = 0 ∨ z = 1 ∨ z = 2 ∨ z = 3 ∨ z = 4 ∨ z = 5 ∨ z = 6 ∨ z = 7 ∨ z = 8 ∨ z = 9 ∨ z = 10 ∨ z = 11 ∨ z = 12 ∨ z = 13 ∨ z = 14 ∨ z = 15 ∨ z = 16 ∨ z = 17 ∨ z = 18 ∨ z = 19 ∨ z = 20 ∨ z = 21 := by omega
        rcases hq with rfl | rfl | rfl | rfl | rfl | rfl | rfl | rfl | rfl | rfl | rfl | rfl | rfl | rfl | rfl | rfl | rfl | rfl | rfl | rfl | rfl | rfl
        · refine r_swIn (tgt := 140) F dL_law_39 (ir_of (by decide) (by decide)) (by decide) (by decide) rfl (by decide) ?_
          exact L_setRoom F G hX hbl hbA hL hj hR hLI hk9
        · refine r_swIn (tgt := 208) F dL_law_39 (ir_of (by decide) (by decide)) (by decide) (by decide) rfl (by decide) ?_
          exact L_setCode F G hX hbl hbA hL hj hR hLI hk9
        · refine r_swIn (tgt := 276) F dL_law_39 (ir_of (by decide) (by decide)) (by decide) (by decide) rfl (by decide) ?_
          exact L_lantern F G hX hbl hbA hL hj hR hLI hk9
        · refine r_swIn (tgt := 332) F dL_law_39 (ir_of (by decide) (by decide)) (by decide) (by decide) rfl (by decide) ?_
          exact L_setShow F G hX hbl hbA hL hj hR hLI hk9
        · refine r_swIn (tgt := 412) F dL_law_39 (ir_of (by decide) (by decide)) (by decide) (by decide) rfl (by decide) ?_
          exact L_watchman F G hX hbl hbA hL hj hR hLI hk9
        · refine r_swIn (tgt := 492) F dL_law_39 (ir_of (by decide) (by decide)) (by decide) (by decide) rfl (by decide) ?_
          exact L_boat F G hX hbl hbA hL hj hR hLI hk9
        · refine r_swIn (tgt := 560) F dL_law_39 (ir_of (by decide) (by decide)) (by decide) (by decide) rfl (by decide) ?_
          exact L_send F G hX hbl hbA hL hj hR hLI hk9
        · refine r_swIn (tgt := 628) F dL_law_39 (ir_of (by decide) (by decide)) (by decide) (by decide) rfl (by decide) ?_
          exact L_carry F G hX hbl hbA hL hj hR hLI hk9
        · refine r_swIn (tgt := 696) F dL_law_39 (ir_of (by decide) (by decide)) (by decide) (by decide) rfl (by decide) ?_
          exact L_told F G hX hbl hbA hL hj hR hLI hk9
        · refine r_swIn (tgt := 764) F dL_law_39 (ir_of (by decide) (by decide)) (by decide) (by decide) rfl (by decide) ?_
          exact L_about F G hX hbl hbA hL hj hR hLI hk9
        · refine r_swIn (tgt := 832) F dL_law_39 (ir_of (by decide) (by decide)) (by decide) (by decide) rfl (by decide) ?_
          exact L_light F G hX hbl hbA hL hj hR hLI hk9
        · refine r_swIn (tgt := 900) F dL_law_39 (ir_of (by decide) (by decide)) (by decide) (by decide) rfl (by decide) ?_
          exact L_code F G hX hbl hbA hL hj hR hLI hk9
        · refine r_swIn (tgt := 968) F dL_law_39 (ir_of (by decide) (by decide)) (by decide) (by decide) rfl (by decide) ?_
          exact L_place F G hX hbl hbA hL hj hR hLI hk9
        · refine r_swIn (tgt := 1036) F dL_law_39 (ir_of (by decide) (by decide)) (by decide) (by decide) rfl (by decide) ?_
          exact L_moon F G hX hbl hbA hL hj hR hLI hk9
        · refine r_swIn (tgt := 1092) F dL_law_39 (ir_of (by decide) (by decide)) (by decide) (by decide) rfl (by decide) ?_
          exact L_count F G hX hbl hbA hL hj hR hLI hk9
        · refine r_swIn (tgt := 1148) F dL_law_39 (ir_of (by decide) (by decide)) (by decide) (by decide) rfl (by decide) ?_
          exact L_pass F G hX hbl hbA hL hj hR hLI hk9
        · refine r_swIn (tgt := 1204) F dL_law_39 (ir_of (by decide) (by decide)) (by decide) (by decide) rfl (by decide) ?_
          exact L_until F G hX hbl hbA hL hj hR hLI hk9
        · refine r_swIn (tgt := 1260) F dL_law_39 (ir_of (by decide) (by decide)) (by decide) (by decide) rfl (by decide) ?_
          exact L_foresee F G hX hbl hbA hL hj hR hLI hk9
        · refine r_swIn (tgt := 1328) F dL_law_39 (ir_of (by decide) (by decide)) (by decide) (by decide) rfl (by decide) ?_
          exact L_advise F G hX hbl hbA hL hj hR hLI hk9
        · refine r_swIn (tgt := 1384) F dL_law_39 (ir_of (by decide) (by decide)) (by decide) (by decide) rfl (by decide) ?_
          exact L_quiet F G hX hbl hbA hL hj hR hLI hk9
        · refine r_swIn (tgt := 1440) F dL_law_39 (ir_of (by decide) (by decide)) (by decide) (by decide) rfl (by decide) ?_
          exact L_mean F G hX hbl hbA hL hj hR hLI hk9
        · refine r_swIn (tgt := 1481) F dL_law_39 (ir_of (by decide) (by decide)) (by decide) (by decide) rfl (by decide) ?_
          exact L_digest F G hX hbl hbA hL hj hR hLI hk9
      · refine r_swOut (tgt := 1495) F dL_law_39 (ir_of (by omega) (by omega)) (by omega) (by decide) ?_
        refine V.wide (kc1 := 101 + k + 1) (ks1 := 820 + 6 * k + 6) (by omega) (by omega) ?_
        exact hk9 M (LI.same hLI rfl hLI.1 rfl)
theorem nest_on {w : Cond} (h : isNest w = true) : w.onTables = true := by
  match w, h with
  | .fieldLinkNest _ _ _ _ _ _, _ => rfl
  | .methodLinkNest _ _ _ _, _ => rfl
theorem arr_prim {args : Array Value} {s : State} {ty : FieldType} (hp : ∀ U : State, ∀ cA : ClassId, U.vm.findClass ("[" ++ ty.toString) = some cA → va_RA U cA ty) (h : (Cond.arrayClass ty).before args s = true) : ∃ cA : ClassId, ArrOfT s cA ty ∧ va_RA s cA ty := by
  obtain ⟨cA, kA, comp, h1, h2, h3⟩ := Cond.arrayClass_spec (args := args) (first := s) (o := none) (s := s) (idx := []) h
  exact ⟨cA, fun n z => ⟨fun k h => (by cases h), kA, h2, comp, h3⟩, hp s cA h1⟩
theorem arr_obj {args : Array Value} {s : State} {C : String} (h : (Cond.arrayOver (.object C)).before args s = true) : ∃ cA : ClassId, ArrOfT s cA (.object C) ∧ va_RA s cA (.object C) := by
  obtain ⟨comp, cA, kA, h1, -, h2, h3, h4⟩ := Cond.arrayOver_spec (args := args) (first := s) (o := none) (s := s) (idx := []) h
  exact ⟨cA, fun n z => ⟨fun k h => (by cases h), kA, h2, comp, h3⟩, kA, comp, h2, h3, h1, h4⟩
set_option maxHeartbeats 4000000 in
set_option maxRecDepth 100000 in
/-- from the entry, for every script of at most 2048 ints, the law comes to its end with true -/
theorem whole_start {p : Program} {e : Env} {s : State} {m : MethodId} {below : List Frame} {meth : Method} {c : Code} (l : Launch) (hflags : l.flags = flags0) {b L : Nat} {xs : Nat → Int32} (hL : L ≤ 2048) (C0 : lw_At p s m meth c b L xs) : W p l e room_1 s m #[Value.ref b] below meth c s.heap [] 0 0 (lw_Z below #[Value.ref b] s) (entryFrame m ([Value.ref b] : List Value).toArray 9) := by
  obtain ⟨hx, hb, hr, hml, hown, hts0, hX, hbl, hlocks, hgv⟩ := id C0
  have hts : ∀ w ∈ TB, w.before #[Value.ref b] s = true := fun w hw => hts0 w (tb_tbl hw)
  have hfl := flat_of_before _ hgv
  obtain ⟨cX0, iX0, kX0⟩ := u_known (C := RX0) (T := TX0) (N := 7) (n := 7) hts inT_X0 (hts _ jt_X0)
  obtain ⟨cX1, iX1, kX1⟩ := u_known (C := RX1) (T := TX1) (N := 13) (n := 13) hts inT_X1 (hts _ jt_X1)
  obtain ⟨cX2, iX2, kX2⟩ := u_known (C := RX2) (T := TX2) (N := 3) (n := 3) hts inT_X2 (hts _ jt_X2)
  obtain ⟨cX3, iX3, kX3⟩ := u_known (C := RX3) (T := TX3) (N := 6) (n := 6) hts inT_X3 (hts _ jt_X3)
  obtain ⟨cX4, iX4, kX4⟩ := u_known (C := RX4) (T := TX4) (N := 2) (n := 2) hts inT_X4 (hts _ jt_X4)
  obtain ⟨cX5, iX5, kX5⟩ := u_known (C := RX5) (T := TX5) (N := 26) (n := 26) hts inT_X5 (hts _ jt_X5)
  obtain ⟨cX6, iX6, kX6⟩ := u_known (C := RX6) (T := TX6) (N := 3) (n := 3) hts inT_X6 (hts _ jt_X6)
  obtain ⟨D, hD9⟩ : ∃ D : va_G, ∀ (k : Nat) (q : vw_C), vwCl[k]? = some q → u_Kn s q.1 q.2.1 q.2.2 (D.1 k) (D.2 k) := by
    refine ⟨(fun k => [cX0, cX1, cX2, cX3, cX4, cX5, cX6].getD k cX0, fun k => [iX0, iX1, iX2, iX3, iX4, iX5, iX6].getD k iX0), ?_⟩
    intro k q hq
    match k, hq with
    | 0, hq => cases hq; exact kX0
    | 1, hq => cases hq; exact kX1
    | 2, hq => cases hq; exact kX2
    | 3, hq => cases hq; exact kX3
    | 4, hq => cases hq; exact kX4
    | 5, hq => cases hq; exact kX5
    | 6, hq => cases hq; exact kX6
    | k + 7, hq => simp [vwCl] at hq
  obtain ⟨y0, r0⟩ := arr_prim (ty := .int) (fun U cA h => h) (hts _ ja_int)
  obtain ⟨y1, r1⟩ := arr_prim (ty := .long) (fun U cA h => h) (hts _ ja_long)
  have o2 : (Cond.arrayOver (.object "CoveSignals$Lantern")).before #[Value.ref b] s = true := hts0 _ (List.mem_of_getElem? (i := 56) (by decide +kernel))
  obtain ⟨y2, r2⟩ := arr_obj o2
  have o3 : (Cond.arrayOver (.object "CoveSignals$Watchman")).before #[Value.ref b] s = true := hts0 _ (List.mem_of_getElem? (i := 58) (by decide +kernel))
  obtain ⟨y3, r3⟩ := arr_obj o3
  have o4 : (Cond.arrayOver (.object "CoveSignals$Boat")).before #[Value.ref b] s = true := hts0 _ (List.mem_of_getElem? (i := 60) (by decide +kernel))
  obtain ⟨y4, r4⟩ := arr_obj o4
  obtain ⟨cy, hcy⟩ : ∃ cy : Nat → ClassId, ∀ (k : Nat) (q : ClassId × FieldType), (tyl cy)[k]? = some q → ArrOfT s q.1 q.2 ∧ va_RA s q.1 q.2 := by
    refine ⟨fun k => [y0, y1, y2, y3, y4].getD k y0, ?_⟩
    intro k q hq
    match k, hq with
    | 0, hq => cases hq; exact r0
    | 1, hq => cases hq; exact r1
    | 2, hq => cases hq; exact r2
    | 3, hq => cases hq; exact r3
    | 4, hq => cases hq; exact r4
    | k + 5, hq => simp [tyl] at hq
  have hKp : Kp cy D s := ⟨⟨hD9, hcy⟩, fun w hw hn => va_tabs (nest_on hn) rfl (hts0 w hw)⟩
  have hAO : AOK s := ⟨o2, o3, o4⟩
  have hSr : SrOK s := by
    intro o k tx hw
    have h := hts0 _ hw
    have hcur : ∃ cur, s.vm.findClass o = some cur := by
      have h1 := h
      simp only [Cond.before, Cond.holds, Cond.value] at h1
      cases hc : s.vm.findClass o with
      | none => simp [hc] at h1
      | some cur => exact ⟨cur, rfl⟩
    obtain ⟨cur, hcur⟩ := hcur
    obtain ⟨k9, cf, i, a, -, -, -, -, -, he⟩ := Cond.stringRef_spec (args := #[Value.ref b]) (first := s) (o := none) (s := s) (idx := []) hcur h
    exact ⟨a, vk_R.of h he⟩
  have hLx : Lx s := ⟨hSr, fun w hw hn => va_tabs (isCa_on hn) rfl (hts0 w hw), va_Nc.of (hfl (.not (.castable eI eA)) (by decide +kernel)), va_Nc.of (hfl (.not (.castable eI eS)) (by decide +kernel)), va_Nc.of (hfl (.not (.castable eA eI)) (by decide +kernel)), va_Nc.of (hfl (.not (.castable eA eS)) (by decide +kernel)), va_Nc.of (hfl (.not (.castable eS eI)) (by decide +kernel)), va_Nc.of (hfl (.not (.castable eS eA)) (by decide +kernel))⟩
  have hA0 : ∀ a : Nat, a < s.heap.size → ¬ (fun q : Nat => s.heap.size ≤ q) a := fun a h => Nat.not_le.mpr h
  have hit : (Cond.initialized Bundle.tN).before #[Value.ref b] s = true := hts0 _ (List.mem_of_getElem? (i := 33) (by decide +kernel))
  have hZq : ZqOK (fun q : Nat => s.heap.size ≤ q) s s.heap := ⟨vx_Zqof (hts0 _ (List.mem_of_getElem? (i := 254) (by decide +kernel))) hit (hfl (.isRef (.static Bundle.tN "UNASSIGNED_STACK" Bundle.steD)) (by decide +kernel)) hA0, vx_Zqof (hts0 _ (List.mem_of_getElem? (i := 256) (by decide +kernel))) hit (hfl (.isRef (.static Bundle.tN "SUPPRESSED_SENTINEL" Bundle.listD)) (by decide +kernel)) hA0⟩
  have hst : l.stackTraces = false := by unfold Launch.stackTraces; rw [hflags]; decide +kernel
  have hG : Gx l s (fun q : Nat => s.heap.size ≤ q) := ⟨hst, hLx, hZq⟩
  have F : FK p s m #[Value.ref b] meth c RL code 9 cy D (fun q : Nat => s.heap.size ≤ q) := ⟨hx, hb, hml, hown, hlocks, hts, hKp, hAO, fun q h => h⟩
  have key : UV p l e room_1 s m #[Value.ref b] below meth c 9 D (fun q : Nat => s.heap.size ≤ q) 0 0 (lw_Z below #[Value.ref b] s) 0 [some (.ref b), none, none, none, none, none, none, none, none] [] [] := by
    refine k_new (ci := 4) (fs := [.null, .null]) (T := TX4) F dL_law_0 jc_L_8 jt_X4 jn_X4 inT_X4 tyX4 tyX4_ok rfl (fun j hj => by rcases (show j = 0 ∨ j = 1 by omega) with rfl | rfl <;> rfl) ⟨Nat.le_of_ble_eq_true rfl, Nat.le_of_ble_eq_true rfl⟩ (fun x => ?_)
    refine k_dup F dL_law_3 rfl ?_
    refine k_callI (pre := []) F (I_X4_init (cy := cy)) rfl dL_law_4 jm_L_78 ji_X4 jn_X4 cd_X4_init rfl ⟨by decide, by decide, by decide +kernel⟩ (by decide) ⟨Nat.le_of_ble_eq_true rfl, Nat.le_of_ble_eq_true rfl⟩ (Nat.le_of_ble_eq_true rfl) (fun g9 => ?_)
    obtain ⟨⟨b1, g1⟩, ⟨b2, g2⟩⟩ := g9
    refine UV.cast (ws1 := w4 cy x b1 g1 b2 g2) rfl ?_
    refine k_astore_n (i := 1) (lv1 := [some (.ref b), some (.ref x), none, none, none, none, none, none, none]) F dL_law_7 rfl (by decide) rfl rfl ?_
    refine k_new (ci := 6) (fs := [.int 0, .null, .null]) (T := TX6) F dL_law_8 jc_L_79 jt_X6 jn_X6 inT_X6 tyX6 tyX6_ok rfl (fun j hj => by rcases (show j = 0 ∨ j = 1 ∨ j = 2 by omega) with rfl | rfl | rfl <;> rfl) ⟨Nat.le_of_ble_eq_true rfl, Nat.le_of_ble_eq_true rfl⟩ (fun mo => ?_)
    refine k_dup F dL_law_11 rfl ?_
    refine k_callI (pre := w4 cy x b1 g1 b2 g2) F (I_X6_init (cy := cy)) rfl dL_law_12 jm_L_81 ji_X6 jn_X6 cd_X6_init rfl ⟨by decide, by decide, by decide +kernel⟩ (by decide) ⟨Nat.le_of_ble_eq_true rfl, Nat.le_of_ble_eq_true rfl⟩ (Nat.le_of_ble_eq_true rfl) (fun g8 => ?_)
    obtain ⟨⟨a1, h1⟩, ⟨a2, h2⟩⟩ := g8
    refine UV.cast (ws1 := w4 cy x b1 g1 b2 g2 ++ w6 cy mo a1 h1 a2 h2) rfl ?_
    refine k_astore_n (i := 2) (lv1 := [some (.ref b), some (.ref x), some (.ref mo), none, none, none, none, none, none]) F dL_law_15 rfl (by decide) rfl rfl ?_
    refine k_iconst F dL_law_16 ?_
    refine k_newl F 1 dL_law_17 ja_long (by decide) ⟨Nat.le_of_ble_eq_true rfl, Nat.le_of_ble_eq_true rfl⟩ (fun ou => ?_)
    refine k_astore_n (i := 3) (lv1 := [some (.ref b), some (.ref x), some (.ref mo), some (.ref ou), none, none, none, none, none]) F dL_law_19 rfl (by decide) rfl rfl ?_
    refine k_iconst F dL_law_20 ?_
    refine k_istore (lv1 := [some (.ref b), some (.ref x), some (.ref mo), some (.ref ou), some (.int (i32 0)), none, none, none, none]) F dL_law_21 (by decide) rfl rfl ?_
    refine UV.cast (ws1 := wAll cy x b1 g1 b2 g2 mo a1 h1 a2 h2 ou) rfl ?_
    intro H locs ls hP hD hS hl
    obtain ⟨hInj, hA1⟩ := s0_inj hD
    have F9 : Fx p s m #[Value.ref b] meth c RL code 9 ret cy D (adF x b1 g1 b2 g2 mo a1 h1 a2 h2 ou) (fun q : Nat => s.heap.size ≤ q) := ⟨hx, hb, hml, hown, hr, hlocks, hts, hKp, hInj, hA1, fun q h => h⟩
    exact W.widen (Nat.le_of_ble_eq_true rfl) (Nat.le_of_ble_eq_true rfl) (law_loop F9 hG hX hbl hL 513 0 M00 rfl s0_LI H locs ls (s0_world hP) hS hl)
  have hl := lv_entry [Value.ref b] (n := 9) (Nat.le_of_ble_eq_true rfl)
  rw [lg_entry_eq]
  exact key s.heap [] _ (fun k q h => by simp at h) ⟨fun i j p q h => by simp at h, fun k q h => by simp at h⟩ va_S.rf (lvh_entry (As := [Value.ref b]) (n := 8) hl rfl)
