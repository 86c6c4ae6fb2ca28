/-! Rows on whole machine numbers, as they stand. -/
section RAW
variable {p : Program} {l : Launch} {e : Env} {R : Room} {s : State} {m : MethodId} {args : Array Value} {below : List Frame} {meth : Method} {c : Code} {nL : Nat} {cy : Nat → ClassId} {D : va_G} {ad : Nat → Nat → Int → Nat} {A : Nat → Prop} {kc ks : Nat} {Q : State → Prop} {pc : Nat} {lv : List (Option Value)} {st : List Value} {M : Mem} {own : String} {cc : ByteArray} {ret : Option FieldType}
theorem r_rcmp_le (F : Fx p s m args meth c own cc nL ret cy D ad A) {a b off : Int} {tgt : Nat} (d : decode cc pc = .ok (.if_icmp .le off, 3)) (ht : (pc : Int) + off = (tgt : Int)) (kt : i32 a ≤ i32 b → V p l e R s m args below meth c nL cy D ad A kc ks Q tgt lv st M) (kf : ¬ i32 a ≤ i32 b → V p l e R s m args below meth c nL cy D ad A kc ks Q (pc + 3) lv st M) : V p l e R s m args below meth c nL cy D ad A kc ks Q pc lv (.int (i32 b) :: .int (i32 a) :: st) M := by
  obtain ⟨hx, hb, hml, hown, hr, hlk, hts, hK, hI, hA1, hA2⟩ := F
  intro H locs ls hP hS hl
  exact lv_icmp_le hx hb d ht (fun h => kt h H locs ls hP hS hl) (fun h => kf h H locs ls hP hS hl)
theorem r_rcmp_eq (F : Fx p s m args meth c own cc nL ret cy D ad A) {a b off : Int} {tgt : Nat} (d : decode cc pc = .ok (.if_icmp .eq off, 3)) (ht : (pc : Int) + off = (tgt : Int)) (kt : i32 a = i32 b → V p l e R s m args below meth c nL cy D ad A kc ks Q tgt lv st M) (kf : ¬ i32 a = i32 b → V p l e R s m args below meth c nL cy D ad A kc ks Q (pc + 3) lv st M) : V p l e R s m args below meth c nL cy D ad A kc ks Q pc lv (.int (i32 b) :: .int (i32 a) :: st) M := by
  obtain ⟨hx, hb, hml, hown, hr, hlk, hts, hK, hI, hA1, hA2⟩ := F
  intro H locs ls hP hS hl
  exact lv_icmp_eq hx hb d ht (fun h => kt h H locs ls hP hS hl) (fun h => kf h H locs ls hP hS hl)
theorem r_rcmp_ne (F : Fx p s m args meth c own cc nL ret cy D ad A) {a b off : Int} {tgt : Nat} (d : decode cc pc = .ok (.if_icmp .ne off, 3)) (ht : (pc : Int) + off = (tgt : Int)) (kt : ¬ i32 a = i32 b → V p l e R s m args below meth c nL cy D ad A kc ks Q tgt lv st M) (kf : i32 a = i32 b → V p l e R s m args below meth c nL cy D ad A kc ks Q (pc + 3) lv st M) : V p l e R s m args below meth c nL cy D ad A kc ks Q pc lv (.int (i32 b) :: .int (i32 a) :: st) M := by
  obtain ⟨hx, hb, hml, hown, hr, hlk, hts, hK, hI, hA1, hA2⟩ := F
  intro H locs ls hP hS hl
  exact lv_icmp_ne hx hb d ht (fun h => kt h H locs ls hP hS hl) (fun h => kf h H locs ls hP hS hl)
/-- a compare of one number with itself -/
theorem r_ceq (F : Fx p s m args meth c own cc nL ret cy D ad A) {a b off : Int} {tgt : Nat} (d : decode cc pc = .ok (.if_icmp .eq off, 3)) (ht : (pc : Int) + off = (tgt : Int)) (h : a = b) (kk : V p l e R s m args below meth c nL cy D ad A kc ks Q tgt lv st M) : V p l e R s m args below meth c nL cy D ad A kc ks Q pc lv (.int (i32 b) :: .int (i32 a) :: st) M := by
  obtain ⟨hx, hb, hml, hown, hr, hlk, hts, hK, hI, hA1, hA2⟩ := F
  subst h
  intro H locs ls hP hS hl
  exact lv_icmp_eq hx hb d ht (fun _ => kk H locs ls hP hS hl) (fun h => absurd rfl h)
theorem r_cne (F : Fx p s m args meth c own cc nL ret cy D ad A) {a b off : Int} {tgt : Nat} (d : decode cc pc = .ok (.if_icmp .ne off, 3)) (ht : (pc : Int) + off = (tgt : Int)) (h : a = b) (kk : V p l e R s m args below meth c nL cy D ad A kc ks Q (pc + 3) lv st M) : V p l e R s m args below meth c nL cy D ad A kc ks Q pc lv (.int (i32 b) :: .int (i32 a) :: st) M := by
  obtain ⟨hx, hb, hml, hown, hr, hlk, hts, hK, hI, hA1, hA2⟩ := F
  subst h
  intro H locs ls hP hS hl
  exact lv_icmp_ne hx hb d ht (fun h => absurd rfl h) (fun _ => kk H locs ls hP hS hl)
theorem r_iandX (F : Fx p s m args meth c own cc nL ret cy D ad A) {x y : Int32} (d : decode cc pc = .ok (.iand, 1)) (kk : V p l e R s m args below meth c nL cy D ad A kc ks Q (pc + 1) lv (.int (x &&& y) :: st) M) : V p l e R s m args below meth c nL cy D ad A kc ks Q pc lv (.int y :: .int x :: st) M := by
  obtain ⟨hx, hb, -⟩ := F
  intro H locs ls hP hS hl
  exact lv_iand hx hb d (kk H locs ls hP hS hl)
/-- a number named -/
theorem V.top {x : Int32} (kk : ∀ v : Int, ir v → V p l e R s m args below meth c nL cy D ad A kc ks Q pc lv (.int (i32 v) :: st) M) : V p l e R s m args below meth c nL cy D ad A kc ks Q pc lv (.int x :: st) M := by
  have h := kk x.toInt (ir_toInt x)
  rw [i32_of] at h
  exact h
theorem r_ishr (F : Fx p s m args meth c own cc nL ret cy D ad A) {x y : Int32} (d : decode cc pc = .ok (.ishr, 1)) (kk : ∀ v : Int, ir v → V p l e R s m args below meth c nL cy D ad A kc ks Q (pc + 1) lv (.int (i32 v) :: st) M) : V p l e R s m args below meth c nL cy D ad A kc ks Q pc lv (.int y :: .int x :: st) M := by
  obtain ⟨hx, hb, -⟩ := F
  intro H locs ls hP hS hl
  exact lv_ishr hx hb d (V.top kk H locs ls hP hS hl)
end RAW
