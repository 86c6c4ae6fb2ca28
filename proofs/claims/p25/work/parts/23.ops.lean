/-! The calls: which exception (0: none), which answer, which coast. -/
def inn (v lo hi : Int) : Bool := decide (lo ≤ v) && decide (v ≤ hi)
theorem inn_t {v lo hi : Int} : inn v lo hi = true ↔ lo ≤ v ∧ v ≤ hi := by simp [inn]
theorem inn_f {v lo hi : Int} (h : inn v lo hi = false) : ¬ (lo ≤ v ∧ v ≤ hi) := by
  intro h2
  rw [inn_t.mpr h2] at h
  cases h
def thr (M : Mem) (v : Int) : Mem := setc M 4 (u2 (M 4) 0 0 v)
theorem thr_thr (M : Mem) (a b : Int) : thr (thr M a) b = thr M b := by
  unfold thr
  rw [setc_at, setc_setc, u2_u2]
theorem thr_eq (M : Mem) (S : St) (v : Int) : setc (setc M 2 S) 4 (u2 ((setc M 2 S) 4) 0 0 v) = setc (thr M v) 2 S := by
  unfold thr
  rw [setc_ne M S (by decide : 4 ≠ 2), setc_comm M S _ (by decide)]
def cSetRoom (S : St) (p q : Int) : Int := if ¬ (0 ≤ p ∧ p ≤ 15) then 1 else if ¬ (0 ≤ q ∧ q ≤ 30) then 2 else if q < S 1 p then 3 else 0
def cSetCode (c p : Int) : Int := if ¬ (1 ≤ c ∧ c ≤ 7) then 1 else if ¬ (-1 ≤ p ∧ p ≤ 15) then 1 else 0
def cLantern (S : St) (p : Int) : Int := if ¬ (0 ≤ p ∧ p ≤ 15) then 1 else if 5 ≤ S 20 1 then 2 else if lanQ S p (S 20 1).toNat = true then 2 else 0
def cSetShow (S : St) (x h c : Int) : Int := if ¬ (0 ≤ x ∧ x ≤ S 20 1 - 1) then 1 else if ¬ (0 ≤ h ∧ h ≤ 9) then 1 else if ¬ (0 ≤ c ∧ c ≤ 7) then 2 else 0
def cWatch (S : St) (f t g : Int) : Int := if ¬ (0 ≤ f ∧ f ≤ 15) then 1 else if ¬ (0 ≤ t ∧ t ≤ 15) then 1 else if t < f then 2 else if ¬ (0 ≤ g ∧ g ≤ 3) then 2 else if 4 ≤ S 20 2 then 3 else 0
def cBoat (S : St) (p b : Int) : Int := if ¬ (0 ≤ p ∧ p ≤ 15) then 1 else if ¬ (1 ≤ b ∧ b ≤ 20) then 2 else if 6 ≤ S 20 3 then 3 else 0
def cSend (S : St) (b p : Int) : Int := if ¬ (0 ≤ b ∧ b ≤ S 20 3 - 1) then 1 else if ¬ (-1 ≤ p ∧ p ≤ 15) then 1 else if S 18 b ≠ 0 then 2 else 0
def cCarry (S : St) (p m : Int) : Int := if ¬ (0 ≤ p ∧ p ≤ 15) then 1 else if ¬ (1 ≤ m ∧ m ≤ 30) then 2 else if S 1 p < m then 3 else 0
/-- two bounds, then nothing more -/
def cRng (v lo hi w lo2 hi2 : Int) : Int := if ¬ (lo ≤ v ∧ v ≤ hi) then 1 else if ¬ (lo2 ≤ w ∧ w ≤ hi2) then 1 else 0
def cRng1 (v lo hi : Int) : Int := if ¬ (lo ≤ v ∧ v ≤ hi) then 1 else 0
def cForesee (h w : Int) : Int := if ¬ (1 ≤ h ∧ h ≤ 60) then 1 else if ¬ (4 ≤ w ∧ w ≤ 10) then 2 else 0
def cAdvise (S : St) (b : Int) : Int := if ¬ (0 ≤ b ∧ b ≤ S 20 3 - 1) then 1 else if S 18 b ≠ 0 then 2 else 0
def sLantern (S : St) (p : Int) : St := u2 (u2 S 4 (S 20 1) p) 20 1 (S 20 1 + 1)
def sWatch (S : St) (f t g : Int) : St := u2 (wat0 S (S 20 2) f t g) 20 2 (S 20 2 + 1)
def sBoat (S : St) (p b : Int) : St := u2 (boat0 S (S 20 3) p b) 20 3 (S 20 3 + 1)
def sCarry (S : St) (p m : Int) : St := u2 (u2 S 1 p (S 1 p - m)) 20 5 (S 20 5 + m)
def unt (S : St) (b : Int) : Nat → Nat → Nat
  | 0, h => h
  | n + 1, h => if goN S h 18 b = 0 then unt S b n (h + 1) else h
def untR (S : St) (b : Int) : Int := if goN S (unt S b 120 0) 18 b = 1 then (unt S b 120 0 : Int) else -1
def qui (S : St) (q : Int) : Nat → Nat → Nat
  | 0, h => h
  | n + 1, h => if wP (goN S h) q = 0 then h else qui S q n (h + 1)
def quiR (S : St) (q : Int) : Int := if wP (goN S (qui S q 40 0)) q = 0 then (qui S q 40 0 : Int) else -1
def advV (S : St) (b p : Int) : Int := caves (goN (sendS S b p) 40)
def adv (S : St) (b : Int) : Nat → Int × Int
  | 0 => (0, -1)
  | n + 1 => if (adv S b n).2 < advV S b n then ((n : Int), advV S b n) else adv S b n
theorem adv_S (S : St) (b : Int) {j : Int} (h : 0 ≤ j) : adv S b (j + 1).toNat = if (adv S b j.toNat).2 < advV S b j then (j, advV S b j) else adv S b j.toNat := by
  rw [tn_S h]
  show (if (adv S b j.toNat).2 < advV S b ((j.toNat : Nat) : Int) then (((j.toNat : Nat) : Int), advV S b ((j.toNat : Nat) : Int)) else adv S b j.toNat) = _
  rw [tn_c h]
section IZ
variable {p : Program} {l : Launch} {e : Env} {R : Room} {s : State} {m : MethodId} {args : Array Value} {below : List Frame} {meth : Method} {c : Code} {nL : Nat} {cy : Nat → ClassId} {D : va_G} {ad : Nat → Nat → Int → Nat} {A : Nat → Prop} {kc ks : Nat} {Q : State → Prop} {pc : Nat} {lv : List (Option Value)} {st : List Value} {M : Mem} {cc : ByteArray} {ret : Option FieldType} {own : String} {S : St}
theorem r_iz_eq (F : Fx p s m args meth c own cc nL ret cy D ad A) {v lo hi : Int} {off : Int} {tgt : Nat} (d : decode cc pc = .ok (.ifCond .eq off, 3)) (ht : (pc : Int) + off = (tgt : Int)) (kt : ¬ (lo ≤ v ∧ v ≤ hi) → V p l e R s m args below meth c nL cy D ad A kc ks Q tgt lv st M) (kf : (lo ≤ v ∧ v ≤ hi) → V p l e R s m args below meth c nL cy D ad A kc ks Q (pc + 3) lv st M) : V p l e R s m args below meth c nL cy D ad A kc ks Q pc lv (.int (i32 (bi (inn v lo hi))) :: st) M :=
  r_bz_eq F d ht (fun h => kt (inn_f h)) (fun h => kf (inn_t.mp h))
theorem r_iz_ne (F : Fx p s m args meth c own cc nL ret cy D ad A) {v lo hi : Int} {off : Int} {tgt : Nat} (d : decode cc pc = .ok (.ifCond .ne off, 3)) (ht : (pc : Int) + off = (tgt : Int)) (kt : (lo ≤ v ∧ v ≤ hi) → V p l e R s m args below meth c nL cy D ad A kc ks Q tgt lv st M) (kf : ¬ (lo ≤ v ∧ v ≤ hi) → V p l e R s m args below meth c nL cy D ad A kc ks Q (pc + 3) lv st M) : V p l e R s m args below meth c nL cy D ad A kc ks Q pc lv (.int (i32 (bi (inn v lo hi))) :: st) M :=
  r_bz_ne F d ht (fun h => kt (inn_t.mp h)) (fun h => kf (inn_f h))
end IZ
