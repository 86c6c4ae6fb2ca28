/-! Sums on longs, means, and what a coast written over is. -/
theorem V.cast {p : Program} {l : Launch} {e : Env} {R : Room} {s : State} {m : MethodId} {args : Array Value} {below : List Frame} {meth : Method} {c : Code} {nL : Nat} {cy : Nat → ClassId} {D : va_G} {ad : Nat → Nat → Int → Nat} {A : Nat → Prop} {kc ks : Nat} {Q : State → Prop} {pc : Nat} {lv : List (Option Value)} {st : List Value} {M M1 : Mem} (h : M = M1) (k : V p l e R s m args below meth c nL cy D ad A kc ks Q pc lv st M1) : V p l e R s m args below meth c nL cy D ad A kc ks Q pc lv st M := h ▸ k
theorem sendS_inv {S : St} (h : Inv S) {b q : Int} (hq : -1 ≤ q ∧ q ≤ 15) : Inv (sendS S b q) := by
  unfold sendS
  exact inv16 (inv17 (inv15 h hq) (by split <;> omega)) (by decide)
theorem sendS_20 {S : St} {b q i : Int} : sendS S b q 20 i = S 20 i := rfl
def stp (d : Int64) (x : Int) : Int64 := d * 31 + (i32 x).toInt64
def dgF (f : Int → Int) : Nat → Int64 → Int64
  | 0, d => d
  | n + 1, d => stp (dgF f n d) (f n)
def dgG (g : Int64 → Int → Int64) : Nat → Int64 → Int64
  | 0, d => d
  | n + 1, d => g (dgG g n d) n
theorem dgF_S (f : Int → Int) (d : Int64) {j : Int} (h : 0 ≤ j) : dgF f (j + 1).toNat d = stp (dgF f j.toNat d) (f j) := by
  rw [tn_S h]
  show stp (dgF f j.toNat d) (f ((j.toNat : Nat) : Int)) = _
  rw [tn_c h]
theorem dgG_S (g : Int64 → Int → Int64) (d : Int64) {j : Int} (h : 0 ≤ j) : dgG g (j + 1).toNat d = g (dgG g j.toNat d) j := by
  rw [tn_S h]
  show g (dgG g j.toNat d) ((j.toNat : Nat) : Int) = _
  rw [tn_c h]
def gP (S : St) (d : Int64) (p : Int) : Int64 := dgF (placeF S p) 5 d
def gK (S : St) (d : Int64) (c : Int) : Int64 := dgF (codeF S (c + 1)) 4 d
def tabF (S : St) (x h : Int) : Int := S 5 (10 * x + h)
def gL (S : St) (d : Int64) (x : Int) : Int64 := dgF (tabF S x) 10 (dgF (lightF S x) 4 d)
def gW (S : St) (d : Int64) (x : Int) : Int64 := dgF (aboutF S x) 5 d
def gB (S : St) (d : Int64) (x : Int) : Int64 := dgF (toldF S x) 7 d
def dC (S : St) : Int64 := dgF (counted S) 11 1669
def dP (S : St) : Int64 := dgG (gP S) 16 (dC S)
def dK (S : St) : Int64 := dgG (gK S) 7 (dP S)
def dL (S : St) : Int64 := dgG (gL S) (S 20 1).toNat (dK S)
def dW (S : St) : Int64 := dgG (gW S) (S 20 2).toNat (dL S)
def dB (S : St) : Int64 := dgG (gB S) (S 20 3).toNat (dW S)
def balF (S : St) (b : Int) : Int := if S 18 b = 0 then S 14 b else 0
def meanF (S : St) : UInt64 := if inF S 0 = 0 then FP.dconst0 else FP.ddiv (FP.i2d (i32 (sm (balF S) (S 20 3).toNat))) (FP.i2d (i32 (inF S 0)))
theorem sm_congr {f g : Int → Int} : ∀ {n : Nat}, (∀ i : Int, 0 ≤ i → i < n → f i = g i) → sm f n = sm g n
  | 0, _ => rfl
  | n + 1, h => by
    show sm f n + f n = sm g n + g n
    rw [sm_congr (fun i h1 h2 => h i h1 (by omega)), h n (by omega) (by omega)]
theorem bal_eq {S : St} (h : Inv S) (n : Nat) : sm (S 14) n = sm (balF S) n := sm_congr fun i _ _ => by
  unfold balF
  split
  · rfl
  · exact h.pg i (by assumption)
theorem sm_bd {f : Int → Int} {B : Int} (h : ∀ i, 0 ≤ f i ∧ f i ≤ B) : ∀ n : Nat, 0 ≤ sm f n ∧ sm f n ≤ B * n
  | 0 => by simp [sm]
  | n + 1 => by
    have h1 := sm_bd h n
    have h2 := h n
    have e : sm f (n + 1) = sm f n + f n := rfl
    have e2 : B * ((n + 1 : Nat) : Int) = B * n + B := by rw [show ((n + 1 : Nat) : Int) = (n : Int) + 1 from rfl, Int.mul_add, Int.mul_one]
    rw [e, e2]
    omega
theorem fp_all : (List.range 121).all (fun a => (List.range 6).all fun b => decide (FP.ddiv (FP.i2d (i32 (a : Int))) (FP.i2d (i32 ((b : Int) + 1))) &&& 0x7fffffffffffffff ≤ 0x7ff0000000000000) && decide (Op.cmpValue (FP.dcmp (FP.ddiv (FP.i2d (i32 (a : Int))) (FP.i2d (i32 ((b : Int) + 1)))) (FP.ddiv (FP.i2d (i32 (a : Int))) (FP.i2d (i32 ((b : Int) + 1))))) .l = 0)) = true := by decide +kernel
theorem fp_two {a b : Int} (h1 : 0 ≤ a ∧ a ≤ 120) (h2 : 1 ≤ b ∧ b ≤ 6) : vf_n64 (FP.ddiv (FP.i2d (i32 a)) (FP.i2d (i32 b))) ∧ Op.cmpValue (FP.dcmp (FP.ddiv (FP.i2d (i32 a)) (FP.i2d (i32 b))) (FP.ddiv (FP.i2d (i32 a)) (FP.i2d (i32 b)))) .l = 0 := by
  have h := List.all_eq_true.mp (List.all_eq_true.mp fp_all a.toNat (List.mem_range.mpr (by omega))) (b - 1).toNat (List.mem_range.mpr (by omega))
  rw [show ((a.toNat : Nat) : Int) = a by omega, show (((b - 1).toNat : Nat) : Int) + 1 = b by omega] at h
  simp only [Bool.and_eq_true, decide_eq_true_eq] at h
  exact h
theorem fp_zero : Op.cmpValue (FP.dcmp FP.dconst0 FP.dconst0) .l = 0 := by decide +kernel
section MEAN
variable {p : Program} {l : Launch} {e : Env} {R : Room} {s : State} {m : MethodId} {args : Array Value} {below : List Frame} {meth : Method} {c : Code} {nL : Nat} {cy : Nat → ClassId} {D : va_G} {ad : Nat → Nat → Int → Nat} {A : Nat → Prop} {kc ks : Nat} {Q : State → Prop} {pc : Nat} {lv : List (Option Value)} {st : List Value} {M : Mem} {cc : ByteArray} {ret : Option FieldType} {own : String} {S : St}
theorem r_i2d (F : Fx p s m args meth c own cc nL ret cy D ad A) {x : Int32} (d : decode cc pc = .ok (.i2d, 1)) (k : V p l e R s m args below meth c nL cy D ad A kc ks Q (pc + 1) lv (.double (FP.i2d x) :: st) M) : V p l e R s m args below meth c nL cy D ad A kc ks Q pc lv (.int x :: st) M := fun H locs ls hP hS hl => lv_i2d F.1 F.2.1 d (k H locs ls hP hS hl)
theorem r_dconst0 (F : Fx p s m args meth c own cc nL ret cy D ad A) (d : decode cc pc = .ok (.dconst 0, 1)) (k : V p l e R s m args below meth c nL cy D ad A kc ks Q (pc + 1) lv (.double FP.dconst0 :: st) M) : V p l e R s m args below meth c nL cy D ad A kc ks Q pc lv st M := fun H locs ls hP hS hl => lv_dconst0 F.1 F.2.1 d (k H locs ls hP hS hl)
theorem r_ddiv (F : Fx p s m args meth c own cc nL ret cy D ad A) {x y : UInt64} (d : decode cc pc = .ok (.ddiv, 1)) (hne : vf_n64 (FP.ddiv x y)) (k : V p l e R s m args below meth c nL cy D ad A kc ks Q (pc + 1) lv (.double (FP.ddiv x y) :: st) M) : V p l e R s m args below meth c nL cy D ad A kc ks Q pc lv (.double y :: .double x :: st) M := fun H locs ls hP hS hl => lv_ddiv F.1 F.2.1 d hne (k H locs ls hP hS hl)
end MEAN
theorem dgF_0 (f : Int → Int) (d : Int64) : dgF f (0 : Int).toNat d = d := rfl
theorem dgG_0 (g : Int64 → Int → Int64) (d : Int64) : dgG g (0 : Int).toNat d = d := rfl
theorem adv_0 (S : St) (b : Int) : adv S b (0 : Int).toNat = (0, -1) := rfl
