/-! The law, from its entry to its end. -/
def R_law : String := "CoveSignalsLaw"
def lw_P (b : Addr) (xs : List Int32) (args : Array Value) (s : State) : Prop := args = #[.ref b] ∧ s.IntsAt b xs ∧ xs.length ≤ 260 ∧ (Jvm.Cond.and given_1 narrow_1).before args s = true
/-- what a walk over the start with the record d0 says of its end, said of the start itself -/
theorem lw_closed {s t : State} {o : Outcome} {d0 : Drawn} {L : List Loc} {k n : Nat} (hd0 : s.drawn.sameBut d0 lw_cs) (hv : ∃ v, o = .returned v) (hW : (s.setDrawn d0).WarmedH t.vm) (hs : (s.setDrawn d0).sameButNew ({ t with vm := s.vm } : State) L k n) : State.butDraws s t lw_cs (fun t1 => Framed s o t1 L k n) := by
  have h2 : t.drawn = d0 := congrArg State.drawn hs.1
  refine ⟨⟨hv, hW, State.sameButNew.setDrawn hs s.drawn⟩, ?_, by decide⟩
  rw [h2]
  exact hd0
def lw_Q (_ : Array Value) (s : State) (o : Outcome) (t : State) : Prop := o = .returned (some (.int 1)) ∧ State.butDraws s t lw_cs (fun t1 => Framed s o t1 [] 630427 7210188)
def lw_Z (below : List Frame) (a : Array Value) (s : State) : State → Prop := fun t => ∃ o, t.status = .running ∧ Ended t below o ∧ lw_Q a s o t
/-- the law's own end, with 1 on the stack, nothing written that was there before, its room as the claim has it; d0: the record of draws at this point (at the entry s.drawn: begin with 'refine W.base ?_' and 'have hd0 := Drawn.sameBut.refl s.drawn lw_cs') -/
theorem lw_ret {p : Program} {l : Launch} {e : Env} {s : State} {m : MethodId} {below : List Frame} {meth : Method} {c : Code} {b : Nat} {d0 : Drawn} (hd0 : s.drawn.sameBut d0 lw_cs) (hx : p.tables.exec = Jvm.exec) (hb : c.code = code) (hr : meth.sig.returnType = ret) (hlocks : meth.locks = false) {pc : Nat} {H : Heap} {ls : Array Slot} (hdg : decode code pc = .ok (.ireturn, 1)) : W p l e room_1 (s.setDrawn d0) m #[Value.ref b] below meth c H [] 630427 7210188 (lw_Z below #[Value.ref b] s) (F0 m pc ls [.int 1]) := by
  intro T hT X
  obtain ⟨fs, hret, hrun, hended, hW, hframe⟩ := X.leave (v := some (.int 1)) (hlocks := hlocks) (fun h => by rw [hr] at h; cases h)
  have hmeth' : T.vm.method? m = some meth := X.method'
  refine ⟨T.setFrames fs, ?_, .returned (some (.int 1)), hrun, hended, rfl, lw_closed hd0 ⟨_, rfl⟩ hW hframe⟩
  jvm_step X.here [X.here.top, hx, hb, hdg, hmeth', hr, ret, narrow_b1]
  (try refine ⟨rfl, ?_⟩); (try refine ⟨rfl, ?_⟩)
  first | (intro acts; rw [hret _ acts rfl rfl rfl]) | rw [hret _ _ rfl rfl rfl]
  exact Steps.refl _
/-- what holds at the law's entry: the machine, the code, the tables' words (any of lw_tbl by 'hts w (by decide +kernel)'), the script of L ints xs at the cell b, what the Statement gives of the start (any of its parts by flat_of_before) -/
def lw_At (p : Program) (s : State) (m : MethodId) (meth : Method) (c : Code) (b L : Nat) (xs : Nat → Int32) : Prop :=
  p.tables.exec = Jvm.exec ∧ c.code = code ∧ meth.sig.returnType = ret ∧ c.maxLocals = 27 ∧ s.vm.findClass R_law = some m.cls ∧ (∀ w ∈ lw_tbl, w.before #[Value.ref b] s = true) ∧ va_X b L xs s s.heap ∧ b < s.heap.size ∧ meth.locks = false ∧ (Jvm.Cond.and given_1 narrow_1).before #[Value.ref b] s = true
section LAWT
variable {p : Program} {l : Launch} {e : Env} {s : State} {m : MethodId} {below : List Frame} {meth : Method} {c : Code} {ret : Option FieldType} {cy : Nat → ClassId} {D : va_G} {ad : Nat → Nat → Int → Nat} {A : Nat → Prop} {b L : Nat} {xs : Nat → Int32} {kc ks : Nat} {Q : State → Prop} {M : Mem}
theorem r_ifnn (F : Fx p s m #[Value.ref b] meth c RL cL_law 27 ret cy D ad A) {pc x : Nat} {off : Int} {tgt : Nat} {lv : List (Option Value)} {st : List Value} (d : decode cL_law pc = .ok (.ifnonnull off, 3)) (ht : (pc : Int) + off = (tgt : Int)) (kk : V p l e RW s m #[Value.ref b] below meth c 27 cy D ad A kc ks Q tgt lv st M) : V p l e RW s m #[Value.ref b] below meth c 27 cy D ad A kc ks Q pc lv (.ref x :: st) M := fun H locs ls hP hS hl => lv_ifnonnull F.1 F.2.1 d ht (kk H locs ls hP hS hl)
end LAWT
set_option maxHeartbeats 4000000 in
set_option maxRecDepth 100000 in
theorem law_tail {p : Program} {l : Launch} {e : Env} {s : State} {m : MethodId} {below : List Frame} {meth : Method} {c : Code} {cy : Nat → ClassId} {D : va_G} {ad : Nat → Nat → Int → Nat} {b L : Nat} {xs : Nat → Int32} {M : Mem} (hl9 : l.stackTraces = false) (F : Fx p s m #[Value.ref b] meth c RL cL_law 27 ret cy D ad (fun q : Nat => s.heap.size ≤ q)) (G : Gx l s (fun q : Nat => s.heap.size ≤ q)) (hX : va_X b L xs s s.heap) (hbl : b < s.heap.size) (hL : L ≤ 260) (h13 : ad 40 13 0 ≠ 1) (hz : Cl ad) : V p l e RW s m #[Value.ref b] below meth c 27 cy D ad (fun q : Nat => s.heap.size ≤ q) 57 416 (lw_Z below #[Value.ref b] s) 8 [some (.ref b), some (.ref (ad 0 0 0)), none, none, none, none, none, none, none, none, none, none, none, none, none, none, none, none, none, none, none, none, none, none, none, none, none] [] (mm S0 S0 S0 M) := by
  have hbA : ¬ (fun q : Nat => s.heap.size ≤ q) b := Nat.not_le.mpr hbl
  have hend : ∀ (ad1 : Nat → Nat → Int → Nat) (S T : St) (M1 : Mem), Fx p s m #[Value.ref b] meth c RL cL_law 27 ret cy D ad1 (fun q : Nat => s.heap.size ≤ q) → OK S 8000 → Sh ad1 S → Cl ad1 → V p l e RW s m #[Value.ref b] below meth c 27 cy D ad1 (fun q : Nat => s.heap.size ≤ q) (241 + 96) (2498 + 720) (lw_Z below #[Value.ref b] s) 1214 [some (.ref b), some (.ref (ad1 0 0 0)), some (.ref (ad1 13 2 0)), none, none, none, none, none, none, none, none, none, none, none, none, none, none, none, none, none, none, none, none, none, none, none, none] [] (mm S T S M1) := by
    intro ad1 S T M1 F ok sh cl
    have hs := sh.1
    have hhs : 0 ≤ S 20 0 ∧ S 20 0 < 9000 := ⟨ok.2.2.2.1, by have := ok.2.2.2.2; omega⟩
    refine r_aload_n (i := 2) F dL_law_1214 rfl rfl ?_
    refine r_aload_n (i := 1) F dL_law_1215 rfl rfl ?_
    refine r_callM F (Cm.mm2 (a := S) (b := T) (c := S) (C_X5_isSame sh ok.1 hhs rfl (cl 29 (by decide) (by decide)) (cl 32 (by decide) (by decide)) (cl 30 (by decide) (by decide)))) dL_law_1216 lkv_L_137 rfl rfl (dm13 hs) rfl rfl cd_X5_isSame (by decide) ⟨by show _ ≤ 630427; omega, by show _ ≤ 7210188; omega⟩ (Nat.le_of_ble_eq_true rfl) ?_
    obtain ⟨hx, hb, hml, hown, hr, hlk, hts, hK, hI, hA1, hA2⟩ := F
    intro H locs ls hP hS hl
    refine va_forget (fun q hq => hS.2.2 q hq) ?_
    refine W.widen (k := 630427) (n := 7210188) (by omega) (by omega) ?_
    exact lw_ret (d0 := s.drawn) (Drawn.sameBut.refl s.drawn lw_cs) hx hb hr hlk dL_law_1219
  refine r_aload_n (i := 1) F dL_law_8 rfl rfl ?_
  refine r_aload_n (i := 0) F dL_law_9 rfl rfl ?_
  refine r_callSG F (C_L_build hl9 hL h13 hz) (fun sz => EB_blind _ _ _ _ sz) (fun H locs hS U hU hW => ⟨es_at F hX hbl hbA H locs hS U hU hW, ex_at F G H locs hS U hU hW⟩) dL_law_10 lks_L_101 rfl rfl cd_L_build (by decide) ⟨by show _ ≤ 630427; omega, by show _ ≤ 7210188; omega⟩ (Nat.le_of_ble_eq_true rfl) (fun r9 ad1 M9 hP9 F => ?_)
  obtain ⟨rfl, low1, cl1, S1, M1, rfl, ok1, sh1⟩ := hP9
  refine V.cg (lv1 := [some (.ref b), some (.ref (ad1 0 0 0)), none, none, none, none, none, none, none, none, none, none, none, none, none, none, none, none, none, none, none, none, none, none, none, none, none]) (st1 := [.ref (ad1 13 2 0)]) (by rw [low1 0 0 0 (by decide)]) rfl ?_
  refine r_astore_n (i := 2) (lv1 := [_, _, _, _, _, _, _, _, _, _, _, _, _, _, _, _, _, _, _, _, _, _, _, _, _, _, _]) F dL_law_13 rfl (by decide) rfl rfl ?_
  refine r_aload_n (i := 2) F dL_law_14 rfl rfl ?_
  refine r_ifnn (tgt := 20) F dL_law_15 (by decide) ?_
  refine r_iconst F dL_law_20 ?_
  refine r_istore_n (i := 3) (lv1 := [_, _, _, _, _, _, _, _, _, _, _, _, _, _, _, _, _, _, _, _, _, _, _, _, _, _, _]) F dL_law_21 rfl (by decide) rfl rfl ?_
  have ic := ok1.1.pc
  refine V.wide (kc1 := 241 + 8 * (0 : Int).toNat) (ks1 := 2498 + 60 * (0 : Int).toNat) (by decide) (by decide) ?_
  exact law_loop hl9 G hX hbl hbA hL ⟨by decide, by decide⟩ hend 12 0 ad1 S1 S0 M1 (by decide) (by decide) F (ok1.le (by decide)) sh1 cl1 ⟨ok_S0.2.1, ⟨ic.2.1, ic.2.2.2.1, ic.2.2.2.2.2.1⟩⟩
theorem nest_on {w : Cond} (h : isNest w = true) : w.onTables = true := by
  match w, h with
  | .fieldLinkNest _ _ _ _ _ _, _ => rfl
  | .methodLinkNest _ _ _ _, _ => rfl
theorem arr_prim {args : Array Value} {s : State} {ty : FieldType} (hp : ∀ U : State, ∀ cA : ClassId, U.vm.findClass ("[" ++ ty.toString) = some cA → va_RA U cA ty) (h : (Cond.arrayClass ty).before args s = true) : ∃ cA : ClassId, ArrOfT s cA ty ∧ va_RA s cA ty := by
  obtain ⟨cA, kA, comp, h1, h2, h3⟩ := Cond.arrayClass_spec (args := args) (first := s) (o := none) (s := s) (idx := []) h
  exact ⟨cA, fun n z => ⟨fun k h => (by cases h), kA, h2, comp, h3⟩, hp s cA h1⟩
theorem arr_arr {args : Array Value} {s : State} {ty : FieldType} (h : (Cond.arrayOver (.array ty)).before args s = true) : ∃ cA : ClassId, ArrOfT s cA (.array ty) ∧ va_RA s cA (.array ty) := by
  obtain ⟨comp, cA, kA, h1, -, h2, h3, h4⟩ := arrayOverA_spec (args := args) (first := s) (o := none) (s := s) (idx := []) h
  exact ⟨cA, fun n z => ⟨fun k h => (by cases h), kA, h2, comp, h3⟩, h4⟩
theorem arr_obj {args : Array Value} {s : State} {C : String} (h : (Cond.arrayOver (.object C)).before args s = true) : ∃ cA : ClassId, ArrOfT s cA (.object C) ∧ va_RA s cA (.object C) := by
  obtain ⟨comp, cA, kA, h1, -, h2, h3, h4⟩ := Cond.arrayOver_spec (args := args) (first := s) (o := none) (s := s) (idx := []) h
  exact ⟨cA, fun n z => ⟨fun k h => (by cases h), kA, h2, comp, h3⟩, kA, comp, h2, h3, h1, h4⟩
set_option maxHeartbeats 4000000 in
set_option maxRecDepth 100000 in
/-- from the entry, for every script of at most 260 ints, the law comes to its end with true -/
theorem whole_start {p : Program} {e : Env} {s : State} {m : MethodId} {below : List Frame} {meth : Method} {c : Code} (l : Launch) (hflags : l.flags = flags0) {b L : Nat} {xs : Nat → Int32} (hL : L ≤ 260) (C0 : lw_At p s m meth c b L xs) : W p l e room_1 s m #[Value.ref b] below meth c s.heap [] 0 0 (lw_Z below #[Value.ref b] s) (entryFrame m ([Value.ref b] : List Value).toArray 27) := by
  obtain ⟨hx, hb, hr, hml, hown, hts0, hX, hbl, hlocks, hgv⟩ := id C0
  have hts : ∀ w ∈ TB, w.before #[Value.ref b] s = true := fun w hw => hts0 w (tb_tbl hw)
  have hfl := flat_of_before _ hgv
  obtain ⟨cX0, iX0, kX0⟩ := u_known (C := RX0) (T := TX0) (N := 7) (n := 7) hts inT_X0 (hts _ jt_X0)
  obtain ⟨cX1, iX1, kX1⟩ := u_known (C := RX1) (T := TX1) (N := 13) (n := 13) hts inT_X1 (hts _ jt_X1)
  obtain ⟨cX2, iX2, kX2⟩ := u_known (C := RX2) (T := TX2) (N := 3) (n := 3) hts inT_X2 (hts _ jt_X2)
  obtain ⟨cX3, iX3, kX3⟩ := u_known (C := RX3) (T := TX3) (N := 6) (n := 6) hts inT_X3 (hts _ jt_X3)
  obtain ⟨cX4, iX4, kX4⟩ := u_known (C := RX4) (T := TX4) (N := 2) (n := 2) hts inT_X4 (hts _ jt_X4)
  obtain ⟨cX5, iX5, kX5⟩ := u_known (C := RX5) (T := TX5) (N := 10) (n := 10) hts inT_X5 (hts _ jt_X5)
  obtain ⟨D, hD9⟩ : ∃ D : va_G, ∀ (k : Nat) (q : vw_C), vwCl[k]? = some q → u_Kn s q.1 q.2.1 q.2.2 (D.1 k) (D.2 k) := by
    refine ⟨(fun k => [cX0, cX1, cX2, cX3, cX4, cX5].getD k cX0, fun k => [iX0, iX1, iX2, iX3, iX4, iX5].getD k iX0), ?_⟩
    intro k q hq
    match k, hq with
    | 0, hq => cases hq; exact kX0
    | 1, hq => cases hq; exact kX1
    | 2, hq => cases hq; exact kX2
    | 3, hq => cases hq; exact kX3
    | 4, hq => cases hq; exact kX4
    | 5, hq => cases hq; exact kX5
    | k + 6, hq => simp [vwCl] at hq
  obtain ⟨y0, r0⟩ := arr_prim (ty := .int) (fun U cA h => h) (hts _ ja_int)
  have oA : (Cond.arrayOver (.array .int)).before #[Value.ref b] s = true := hts0 _ (List.mem_of_getElem? (i := 634) (by decide +kernel))
  obtain ⟨y1, r1⟩ := arr_arr oA
  have o2 : (Cond.arrayOver (.object "CoveSignals$Lantern")).before #[Value.ref b] s = true := hts0 _ (List.mem_of_getElem? (i := 38) (by decide +kernel))
  obtain ⟨y2, r2⟩ := arr_obj o2
  have o3 : (Cond.arrayOver (.object "CoveSignals$Watchman")).before #[Value.ref b] s = true := hts0 _ (List.mem_of_getElem? (i := 40) (by decide +kernel))
  obtain ⟨y3, r3⟩ := arr_obj o3
  have o4 : (Cond.arrayOver (.object "CoveSignals$Boat")).before #[Value.ref b] s = true := hts0 _ (List.mem_of_getElem? (i := 42) (by decide +kernel))
  obtain ⟨y4, r4⟩ := arr_obj o4
  obtain ⟨cy, hcy⟩ : ∃ cy : Nat → ClassId, ∀ (k : Nat) (q : ClassId × FieldType), (tyl cy)[k]? = some q → ArrOfT s q.1 q.2 ∧ va_RA s q.1 q.2 := by
    refine ⟨fun k => [y0, y1, y2, y3, y4].getD k y0, ?_⟩
    intro k q hq
    match k, hq with
    | 0, hq => cases hq; exact r0
    | 1, hq => cases hq; exact r1
    | 2, hq => cases hq; exact r2
    | 3, hq => cases hq; exact r3
    | 4, hq => cases hq; exact r4
    | k + 5, hq => simp [tyl] at hq
  have hAO : AOK s := ⟨o2, o3, o4, oA⟩
  have hKp : Kp cy D s := ⟨⟨hD9, hcy⟩, fun w hw hn => va_tabs (nest_on hn) rfl (hts0 w hw), hAO⟩
  have hSr : SrOK s := by
    intro o k tx hw
    have h := hts0 _ hw
    have hcur : ∃ cur, s.vm.findClass o = some cur := by
      have h1 := h
      simp only [Cond.before, Cond.holds, Cond.value] at h1
      cases hc : s.vm.findClass o with
      | none => simp [hc] at h1
      | some cur => exact ⟨cur, rfl⟩
    obtain ⟨cur, hcur⟩ := hcur
    obtain ⟨k9, cf, i, a, -, -, -, -, -, he⟩ := Cond.stringRef_spec (args := #[Value.ref b]) (first := s) (o := none) (s := s) (idx := []) hcur h
    exact ⟨a, vk_R.of h he⟩
  have hLx : Lx s := ⟨hSr, fun w hw hn => va_tabs (isCa_on hn) rfl (hts0 w hw), trivial⟩
  have hA0 : ∀ a : Nat, a < s.heap.size → ¬ (fun q : Nat => s.heap.size ≤ q) a := fun a h => Nat.not_le.mpr h
  have hit : (Cond.initialized Bundle.tN).before #[Value.ref b] s = true := hts0 _ (List.mem_of_getElem? (i := 15) (by decide +kernel))
  have hZq : ZqOK (fun q : Nat => s.heap.size ≤ q) s s.heap := ⟨vx_Zqof (hts0 _ (List.mem_of_getElem? (i := 219) (by decide +kernel))) hit (hfl (.isRef (.static Bundle.tN "UNASSIGNED_STACK" Bundle.steD)) (by decide +kernel)) hA0, vx_Zqof (hts0 _ (List.mem_of_getElem? (i := 221) (by decide +kernel))) hit (hfl (.isRef (.static Bundle.tN "SUPPRESSED_SENTINEL" Bundle.listD)) (by decide +kernel)) hA0⟩
  have hst : l.stackTraces = false := by unfold Launch.stackTraces; rw [hflags]; decide +kernel
  have hG : Gx l s (fun q : Nat => s.heap.size ≤ q) := ⟨hst, hLx, hZq⟩
  have F : FK p s m #[Value.ref b] meth c RL code 27 cy D (fun q : Nat => s.heap.size ≤ q) := ⟨hx, hb, hml, hown, hlocks, hts, hKp, hAO, fun q h => h⟩
  have key : UV p l e room_1 s m #[Value.ref b] below meth c 27 D (fun q : Nat => s.heap.size ≤ q) 0 0 (lw_Z below #[Value.ref b] s) 0 [some (.ref b), none, none, none, none, none, none, none, none, none, none, none, none, none, none, none, none, none, none, none, none, none, none, none, none, none, none] [] [] := by
    refine k_new (ci := 4) (fs := [.null, .null]) (T := TX4) F dL_law_0 jc_L_32 jt_X4 jn_X4 inT_X4 tyX4 tyX4_ok rfl (fun j hj => by rcases (show j = 0 ∨ j = 1 by omega) with rfl | rfl <;> rfl) ⟨Nat.le_of_ble_eq_true rfl, Nat.le_of_ble_eq_true rfl⟩ (fun x => ?_)
    refine k_dup F dL_law_3 rfl ?_
    refine k_callI (pre := []) F (I_X4_init (cy := cy)) rfl dL_law_4 jm_L_100 ji_X4 jn_X4 cd_X4_init rfl ⟨by decide, by decide, by decide +kernel⟩ (by decide) ⟨Nat.le_of_ble_eq_true rfl, Nat.le_of_ble_eq_true rfl⟩ (Nat.le_of_ble_eq_true rfl) (fun g9 => ?_)
    obtain ⟨⟨b1, g1⟩, ⟨b2, g2⟩⟩ := g9
    refine UV.cast (ws1 := w4 cy x b1 g1 b2 g2) rfl ?_
    refine k_astore_n (i := 1) (lv1 := [some (.ref b), some (.ref x), none, none, none, none, none, none, none, none, none, none, none, none, none, none, none, none, none, none, none, none, none, none, none, none, none]) F dL_law_7 rfl (by decide) rfl rfl ?_
    intro H locs ls hP hD hS hl
    obtain ⟨hInj, hA1⟩ := s0_inj hD
    have F9 : Fx p s m #[Value.ref b] meth c RL cL_law 27 ret cy D (adF x b1 g1 b2 g2) (fun q : Nat => s.heap.size ≤ q) := ⟨hx, hb, hml, hown, hr, hlocks, hts, hKp, hInj, hA1, fun q h => h⟩
    have hW0 := s0_world hP
    rw [← mm_00] at hW0
    exact law_tail hst F9 hG hX hbl hL (show (0 : Nat) ≠ 1 by decide) s0_cl H locs ls hW0 hS hl
  have hl := lv_entry [Value.ref b] (n := 27) (Nat.le_of_ble_eq_true rfl)
  rw [lg_entry_eq]
  exact key s.heap [] _ (fun k q h => by simp at h) ⟨fun i j p q h => by simp at h, fun k q h => by simp at h⟩ va_S.rf (lvh_entry (As := [Value.ref b]) (n := 26) hl rfl)
