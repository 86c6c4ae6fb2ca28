/-! The law's own rows: the script, compares of like things, its end. -/
abbrev LH (b : Nat) (ad : Nat → Nat → Int → Nat) (k : Nat) : List (Option Value) := [some (.ref b), some (.ref (ad 0 0 0)), some (.ref (ad 13 0 0)), some (.ref (ad 35 0 0)), some (.int (i32 (4 * (k : Int)))), none, none, none, none]
section LROWS
variable {p : Program} {l : Launch} {e : Env} {R : Room} {s : State} {m : MethodId} {args : Array Value} {below : List Frame} {meth : Method} {c : Code} {nL : Nat} {cy : Nat → ClassId} {D : va_G} {ad : Nat → Nat → Int → Nat} {A : Nat → Prop} {kc ks : Nat} {Q : State → Prop} {pc : Nat} {lv : List (Option Value)} {st : List Value} {M : Mem} {own : String} {cc : ByteArray} {ret : Option FieldType}
theorem r_sld (F : Fx p s m args meth c own cc nL ret cy D ad A) {b L : Nat} {xs : Nat → Int32} (hX : va_X b L xs s s.heap) (hbl : b < s.heap.size) (hbA : ¬ A b) {j x : Int} (hv : xs j.toNat = i32 x) (h1 : 0 ≤ j) (h2 : j < L) (hL : L ≤ 2048) (d : decode cc pc = .ok (.iaload, 1)) (kk : V p l e R s m args below meth c nL cy D ad A kc ks Q (pc + 1) lv (.int (i32 x) :: st) M) : V p l e R s m args below meth c nL cy D ad A kc ks Q pc lv (.int (i32 j) :: .ref b :: st) M := by
  obtain ⟨hx, hb, -⟩ := F
  intro H locs ls hP hS hl
  refine va_sld hx hb hX hbl hbA hS (i32_in h1 h2 (by omega)) d ?_
  rw [i32_cl h1 (by omega), hv]
  exact kk H locs ls hP hS hl
theorem r_slen (F : Fx p s m args meth c own cc nL ret cy D ad A) {b L : Nat} {xs : Nat → Int32} (hX : va_X b L xs s s.heap) (hbl : b < s.heap.size) (hbA : ¬ A b) (d : decode cc pc = .ok (.arraylength, 1)) (kk : V p l e R s m args below meth c nL cy D ad A kc ks Q (pc + 1) lv (.int (i32 (L : Int)) :: st) M) : V p l e R s m args below meth c nL cy D ad A kc ks Q pc lv (.ref b :: st) M := by
  obtain ⟨hx, hb, -⟩ := F
  intro H locs ls hP hS hl
  refine va_slen hx hb hX hbl hbA hS d ?_
  rw [show Int32.ofNat L = i32 (L : Int) from by show Int32.ofNat _ = Int32.ofInt _; rw [Int32.ofInt_eq_ofNat]]
  exact kk H locs ls hP hS hl
theorem r_iand (F : Fx p s m args meth c own cc nL ret cy D ad A) {x y : Int32} (d : decode cc pc = .ok (.iand, 1)) (kk : V p l e R s m args below meth c nL cy D ad A kc ks Q (pc + 1) lv (.int (x &&& y) :: st) M) : V p l e R s m args below meth c nL cy D ad A kc ks Q pc lv (.int y :: .int x :: st) M := by
  obtain ⟨hx, hb, -⟩ := F
  intro H locs ls hP hS hl
  exact lv_iand hx hb d (kk H locs ls hP hS hl)
theorem r_lcmpE (F : Fx p s m args meth c own cc nL ret cy D ad A) {x : Int64} (d : decode cc pc = .ok (.lcmp, 1)) (kk : V p l e R s m args below meth c nL cy D ad A kc ks Q (pc + 1) lv (.int (i32 0) :: st) M) : V p l e R s m args below meth c nL cy D ad A kc ks Q pc lv (.long x :: .long x :: st) M := by
  obtain ⟨hx, hb, -⟩ := F
  intro H locs ls hP hS hl
  refine W.lcmp hx hb d ?_
  rw [show lg_cmp x x = i32 0 from by unfold lg_cmp; rw [if_neg (by intro h; rw [gt_iff_lt, Int64.lt_iff_toInt_lt] at h; omega), if_pos rfl]; rfl]
  exact kk H locs ls hP hS hl
theorem r_dcmpE (F : Fx p s m args meth c own cc nL ret cy D ad A) {x : UInt64} (d : decode cc pc = .ok (.dcmp .l, 1)) (h : Op.cmpValue (FP.dcmp x x) .l = 0) (kk : V p l e R s m args below meth c nL cy D ad A kc ks Q (pc + 1) lv (.int (i32 0) :: st) M) : V p l e R s m args below meth c nL cy D ad A kc ks Q pc lv (.double x :: .double x :: st) M := by
  obtain ⟨hx, hb, -⟩ := F
  intro H locs ls hP hS hl
  refine lv_dcmp hx hb d ?_
  rw [h]
  exact kk H locs ls hP hS hl
theorem r_sameq (F : Fx p s m args meth c own cc nL ret cy D ad A) {x : Int32} {off : Int} {tgt : Nat} (d : decode cc pc = .ok (.if_icmp .eq off, 3)) (ht : (pc : Int) + off = (tgt : Int)) (kk : V p l e R s m args below meth c nL cy D ad A kc ks Q tgt lv st M) : V p l e R s m args below meth c nL cy D ad A kc ks Q pc lv (.int x :: .int x :: st) M := by
  obtain ⟨hx, hb, -⟩ := F
  intro H locs ls hP hS hl
  exact lv_icmp_eq hx hb d ht (fun _ => kk H locs ls hP hS hl) (fun h => absurd rfl h)
end LROWS
theorem mean_cmp {S : St} (hI : Inv S) : Op.cmpValue (FP.dcmp (meanF S) (meanF S)) .l = 0 := by
  have ic := hI.pc
  have ib := cnt_bd (isF S 0) (S 20 3).toNat
  have ib2 : 0 ≤ inF S 0 ∧ inF S 0 ≤ 6 := by unfold inF; omega
  have sb := sm_bd (f := balF S) (B := 20) (fun i => by have := hI.p14 i; unfold balF; split <;> omega) (S 20 3).toNat
  unfold meanF
  by_cases h : inF S 0 = 0
  · rw [if_pos h]; exact fp_zero
  · rw [if_neg h]
    exact (fp_two (by omega) (by omega)).2
theorem thr_rd (M : Mem) (v : Int) (S2 : St) : (setc (thr M v) 2 S2) 4 0 0 = v := by
  unfold thr
  rw [setc_ne _ _ (by decide), setc_at, u2_at]
theorem thr_rd3 (M : Mem) (v : Int) (S2 S3 : St) : (setc (setc (thr M v) 2 S2) 3 S3) 4 0 0 = v := by
  rw [setc_ne _ _ (by decide), thr_rd]
theorem out_rd (M : Mem) (a v : Int) (S2 : St) : (setc (thr (outM M a) v) 2 S2) 4 1 0 = a := by
  unfold thr outM
  rw [setc_ne _ _ (by decide), setc_at, u2_k (by decide), setc_at, u2_at]
theorem out_rd3 (M : Mem) (a v : Int) (S2 S3 : St) : (setc (setc (thr (outM M a) v) 2 S2) 3 S3) 4 1 0 = a := by
  rw [setc_ne _ _ (by decide), out_rd]
theorem thr_ne (M : Mem) (v : Int) {c : Nat} (h : c ≠ 4) : (thr M v) c = M c := by unfold thr; exact setc_ne _ _ h
theorem outM_ne (M : Mem) (v : Int) {c : Nat} (h : c ≠ 4) : (outM M v) c = M c := by unfold outM; exact setc_ne _ _ h
theorem self2 {M : Mem} {S : St} (h : M 2 = S) : M = setc M 2 S := by rw [← h, setc_self]
theorem self0 {M : Mem} {S : St} (h : S = M 0) : M = setc M 0 S := by rw [h, setc_self]
theorem self10 {M : Mem} {S T : St} (h : S = M 0) (h1 : T = M 1) : M = setc (setc M 1 T) 0 S := by rw [h1, setc_self, h, setc_self]
