/-! What the coast is, in whole numbers. -/
theorem u2_at (S : St) (k : Nat) (i v : Int) : u2 S k i v k i = v := if_pos ⟨rfl, rfl⟩
theorem u2_k {S : St} {k k' : Nat} {i i' v : Int} (h : k' ≠ k) : u2 S k i v k' i' = S k' i' := if_neg (fun z => h z.1)
theorem u2_i {S : St} {k k' : Nat} {i i' v : Int} (h : i' ≠ i) : u2 S k i v k' i' = S k' i' := if_neg (fun z => h z.2)
theorem u2_self (S : St) (k : Nat) (i : Int) : u2 S k i (S k i) = S := by
  funext k' i'
  unfold u2
  by_cases h : k' = k ∧ i' = i
  · rw [if_pos h, h.1, h.2]
  · rw [if_neg h]
theorem u2_comm (S : St) {k k2 : Nat} {i i2 v v2 : Int} (h : k ≠ k2 ∨ i ≠ i2) : u2 (u2 S k i v) k2 i2 v2 = u2 (u2 S k2 i2 v2) k i v := by
  funext k' i'
  unfold u2
  by_cases h1 : k' = k ∧ i' = i
  · have h2 : ¬ (k' = k2 ∧ i' = i2) := by
      rintro ⟨h2, h3⟩
      rcases h with h | h
      · exact h (h1.1.symm.trans h2)
      · exact h (h1.2.symm.trans h3)
    simp only [if_pos h1, if_neg h2]
  · by_cases h2 : k' = k2 ∧ i' = i2
    · simp only [if_neg h1, if_pos h2]
    · simp only [if_neg h1, if_neg h2]
theorem u2_u2 (S : St) (k : Nat) (i v v2 : Int) : u2 (u2 S k i v) k i v2 = u2 S k i v2 := by
  funext k' i'
  unfold u2
  by_cases h1 : k' = k ∧ i' = i
  · rw [if_pos h1, if_pos h1]
  · rw [if_neg h1, if_neg h1, if_neg h1]
def moonOf (n : Int) : Int := iabs (n % 12 - 6)
def mo (S : St) : Int := moonOf (S 20 0 / 10)
def hn (S : St) : Int := S 20 0 % 10
def shw (S : St) (l : Int) : Int := S 5 (10 * l + hn S)
def sgP (S : St) (w : Int) : Int := S 9 w + mo S / 2
def sgL (S : St) (w : Int) : Int := 2 * S 9 w + 6 - mo S
def cnt (P : Int → Bool) : Nat → Int
  | 0 => 0
  | n + 1 => cnt P n + bi (P (n : Int))
def sm (f : Int → Int) : Nat → Int
  | 0 => 0
  | n + 1 => sm f n + f (n : Int)
def fstB (P : Int → Bool) : Nat → Int
  | 0 => -1
  | n + 1 => if fstB P n ≠ -1 then fstB P n else if P (n : Int) = true then (n : Int) else -1
def seesL (S : St) (l w : Int) : Bool := decide (iabs (S 10 w - S 4 l) ≤ sgL S w)
def seesP (S : St) (q w : Int) : Bool := decide (iabs (S 10 w - q) ≤ sgP S w)
def wL (S : St) (l : Int) : Int := cnt (seesL S l) (S 20 2).toNat
def wP (S : St) (q : Int) : Int := cnt (seesP S q) (S 20 2).toNat
def kn (S : St) (c : Int) : Bool := decide (0 < c) && !decide (i32 (S 3 c) < i32 3)
def there (S : St) (b : Int) : Bool := decide (S 18 b = 0) && decide (S 15 b = S 13 b)
def noteS (S : St) (l : Int) : St := if shw S l = 0 ∨ wL S l = 0 then S else u2 (u2 S 3 (shw S l) (S 3 (shw S l) + 1)) 6 l (S 6 l + 1)
def noteN (S : St) : Nat → St
  | 0 => S
  | n + 1 => noteS (noteN S n) (n : Int)
def unlM (S : St) (b : Int) : Int := min (min 4 (S 14 b)) (S 0 (S 13 b) - S 1 (S 13 b))
def unlS (S : St) (b : Int) : St :=
  let S3 := u2 (u2 (u2 S 1 (S 13 b) (S 1 (S 13 b) + unlM S b)) 14 b (S 14 b - unlM S b)) 19 b (S 19 b + unlM S b)
  if S 14 b - unlM S b = 0 then u2 S3 18 b 1 else S3
def bst (S : St) (b : Int) : Nat → Int
  | 0 => -1
  | n + 1 => if shw S n = 0 ∨ S 2 (shw S n) = -1 ∨ 9 - mo S < iabs (S 4 n - S 13 b) ∨ (bst S b n ≠ -1 ∧ iabs (S 4 (bst S b n) - S 13 b) ≤ iabs (S 4 n - S 13 b)) then bst S b n else (n : Int)
def readS (S : St) (b : Int) : St :=
  if bst S b (S 20 1).toNat = -1 then S else u2 (u2 S 16 b (shw S (bst S b (S 20 1).toNat))) 15 b (S 2 (shw S (bst S b (S 20 1).toNat)))
def mvS (S : St) (b : Int) : St := if S 15 b = -1 then S else u2 S 13 b (S 13 b + max (-2) (min 2 (S 15 b - S 13 b)))
def sailS (S : St) (b : Int) : St := mvS (if S 17 b = 1 then readS S b else S) b
def boatS (S : St) (b : Int) : St := if S 18 b ≠ 0 then S else if S 15 b = S 13 b then unlS S b else sailS S b
def boatN (S : St) : Nat → St
  | 0 => S
  | n + 1 => boatS (boatN S n) (n : Int)
def boatM (S : St) : Nat → Int
  | 0 => 0
  | n + 1 => boatM S n + (if there (boatN S n) n = true then unlM (boatN S n) n else 0)
def wg (S : St) (w : Int) : Int := if S 10 w = (if 0 < S 11 w then S 8 w else S 7 w) then -S 11 w else S 11 w
def walkS (S : St) (w : Int) : St := if S 7 w = S 8 w then S else u2 (u2 S 11 w (wg S w)) 10 w (S 10 w + wg S w)
def catB (S : St) (w b : Int) : Bool := there S b && decide (iabs (S 10 w - S 13 b) ≤ sgP S w + (if kn S (S 16 b) = true then 3 else 0))
def catS (S : St) (w b : Int) : St := u2 (u2 (u2 (u2 S 20 4 (S 20 4 + S 14 b)) 14 b 0) 18 b 2) 12 w (S 12 w + 1)
def seizeS (S : St) (w : Int) : St := if fstB (catB S w) (S 20 3).toNat = -1 then S else catS S w (fstB (catB S w) (S 20 3).toNat)
def watchS (S : St) (w : Int) : St := seizeS (walkS S w) w
def watchN (S : St) : Nat → St
  | 0 => S
  | n + 1 => watchS (watchN S n) (n : Int)
def go1 (S : St) : St := noteN S (S 20 1).toNat
def go2 (S : St) : St := boatN (go1 S) (S 20 3).toNat
def go3 (S : St) : St := watchN (go2 S) (S 20 2).toNat
def go (S : St) : St := u2 (go3 S) 20 0 (S 20 0 + 1)
def goM (S : St) : Int := boatM (go1 S) (S 20 3).toNat
def goN (S : St) : Nat → St
  | 0 => S
  | n + 1 => go (goN S n)
def goS (S : St) : Nat → Int
  | 0 => 0
  | n + 1 => goS S n + goM (goN S n)
def isF (S : St) (f b : Int) : Bool := decide (S 18 b = f)
def atW (S : St) (q w : Int) : Bool := decide (S 10 w = q)
def atB (S : St) (q b : Int) : Bool := decide (S 18 b = 0) && decide (S 13 b = q)
def ldB (S : St) (c b : Int) : Bool := decide (S 18 b = 0) && decide (S 16 b = c)
def inF (S : St) (f : Int) : Int := cnt (isF S f) (S 20 3).toNat
def nAtW (S : St) (q : Int) : Int := cnt (atW S q) (S 20 2).toNat
def nAtB (S : St) (q : Int) : Int := cnt (atB S q) (S 20 3).toNat
def nLdB (S : St) (c : Int) : Int := cnt (ldB S c) (S 20 3).toNat
def kn1 (S : St) (i : Int) : Bool := kn S (i + 1)
def caves (S : St) : Int := sm (S 1) 16
def known (S : St) : Int := cnt (kn1 S) 7
def counted (S : St) (w : Int) : Int :=
  if w = 0 then S 20 0 else if w = 1 then S 20 1 else if w = 2 then S 20 2 else if w = 3 then S 20 3 else if w = 4 then inF S 0 else if w = 5 then inF S 1 else if w = 6 then inF S 2
  else if w = 7 then caves S else if w = 8 then S 20 4 else if w = 9 then S 20 5 else known S
def sendS (S : St) (b q : Int) : St := u2 (u2 (u2 S 15 b q) 17 b (if q = -1 then 1 else 0)) 16 b 0
/-- what holds between calls -/
def Inv (S : St) : Prop :=
  (∀ i, 0 ≤ S 13 i ∧ S 13 i ≤ 15) ∧ (∀ i, 0 ≤ S 14 i ∧ S 14 i ≤ 20) ∧ (∀ i, -1 ≤ S 15 i ∧ S 15 i ≤ 15) ∧ (∀ i, 0 ≤ S 16 i ∧ S 16 i ≤ 7) ∧ (∀ i, S 17 i = 0 ∨ S 17 i = 1) ∧ (∀ i, 0 ≤ S 18 i ∧ S 18 i ≤ 2) ∧
  (∀ i, 0 ≤ S 1 i ∧ S 1 i ≤ S 0 i ∧ S 0 i ≤ 30) ∧ (∀ i, -1 ≤ S 2 i ∧ S 2 i ≤ 15) ∧ S 3 0 = 0 ∧ (∀ i, 0 ≤ S 4 i ∧ S 4 i ≤ 15) ∧ (∀ i, 0 ≤ S 5 i ∧ S 5 i ≤ 7) ∧
  (∀ i, 0 ≤ S 7 i ∧ S 7 i ≤ S 10 i ∧ S 10 i ≤ S 8 i ∧ S 8 i ≤ 15) ∧ (∀ i, 0 ≤ S 9 i ∧ S 9 i ≤ 3) ∧ (∀ i, 0 ≤ i → i < S 20 2 → S 11 i = 1 ∨ S 11 i = -1) ∧
  (0 ≤ S 20 0 ∧ 0 ≤ S 20 1 ∧ S 20 1 ≤ 5 ∧ 0 ≤ S 20 2 ∧ S 20 2 ≤ 4 ∧ 0 ≤ S 20 3 ∧ S 20 3 ≤ 6) ∧ (∀ i, S 18 i ≠ 0 → S 14 i = 0)
def stg (S : St) (b : Int) : Int := if S 18 b = 1 then 3 else if S 18 b = 2 then 4 else if S 15 b = -1 then 0 else if S 15 b = S 13 b then 2 else 1
def toldF (S : St) (b w : Int) : Int := if w = 0 then S 13 b else if w = 1 then S 14 b else if w = 2 then S 15 b else if w = 3 then stg S b else if w = 4 then S 19 b else if w = 5 then S 16 b else S 17 b
def aboutF (S : St) (x w : Int) : Int := if w = 0 then S 10 x else if w = 1 then S 11 x else if w = 2 then sgP S x else if w = 3 then sgL S x else S 12 x
def lightF (S : St) (x w : Int) : Int := if w = 0 then S 4 x else if w = 1 then shw S x else if w = 2 then wL S x else S 6 x
def codeF (S : St) (x w : Int) : Int := if w = 0 then S 2 x else if w = 1 then S 3 x else if w = 2 then bi (kn S x) else nLdB S x
def placeF (S : St) (x w : Int) : Int := if w = 0 then S 0 x else if w = 1 then S 1 x else if w = 2 then nAtW S x else if w = 3 then nAtB S x else wP S x
def sLq (S : St) (q mn w : Int) : Bool := decide (iabs (S 10 w - q) ≤ 2 * S 9 w + 6 - mn)
def lanQ (S : St) (q : Int) : Nat → Bool
  | 0 => false
  | n + 1 => lanQ S q n || decide (S 4 n = q)
def boat0 (S : St) (x q b : Int) : St := u2 (u2 (u2 (u2 (u2 (u2 (u2 S 13 x q) 14 x b) 15 x (-1)) 16 x 0) 17 x 1) 18 x 0) 19 x 0
def wat0 (S : St) (x f t e : Int) : St := u2 (u2 (u2 (u2 (u2 (u2 S 7 x f) 8 x t) 9 x e) 10 x f) 11 x 1) 12 x 0
/-- beyond the counts there is nothing -/
def Dead (S : St) : Prop := (∀ i, S 20 1 ≤ i → S 4 i = 0 ∧ S 6 i = 0) ∧ (∀ i, 10 * S 20 1 ≤ i → S 5 i = 0) ∧ (∀ (k : Nat) (i : Int), 7 ≤ k → k ≤ 12 → S 20 2 ≤ i → S k i = 0) ∧ (∀ (k : Nat) (i : Int), 13 ≤ k → k ≤ 19 → S 20 3 ≤ i → S k i = 0)
