/-! Rows a field, an array: printed by program out of the tables. -/
theorem oth {M0 : Mem} {cc1 : Nat} {S : St} {kd t c2 : Nat} {i i2 v : Int} (ho : owner cc1 kd i = (t, c2, i2)) : ∀ (c1 k1 : Nat) (i1 : Int), owner c1 k1 i1 ≠ (t, c2, i2) → setc M0 cc1 (u2 S kd i v) c1 k1 i1 = setc M0 cc1 S c1 k1 i1 := by
  intro c1 k1 i1 h
  unfold setc
  by_cases h1 : c1 = cc1
  · rw [if_pos h1, if_pos h1]
    unfold u2
    rw [if_neg]
    rintro ⟨rfl, rfl⟩
    exact h (by rw [h1, ho])
  · rw [if_neg h1, if_neg h1]
theorem oth0 {M0 : Mem} {cc1 : Nat} {kd t c2 : Nat} {i i2 v : Int} (ho : owner cc1 kd i = (t, c2, i2)) : ∀ (c1 k1 : Nat) (i1 : Int), owner c1 k1 i1 ≠ (t, c2, i2) → setc M0 cc1 (u2 (M0 cc1) kd i v) c1 k1 i1 = M0 c1 k1 i1 := by
  intro c1 k1 i1 h
  rw [oth ho c1 k1 i1 h, setc_self]
theorem dm1 {ad : Nat → Nat → Int → Nat} {t c : Nat} (ht : 1 ≤ t ∧ t ≤ 8) (hc : c < 2) : dmb ad t c 0 = true := by
  have : t = 1 ∨ t = 2 ∨ t = 3 ∨ t = 4 ∨ t = 5 ∨ t = 6 ∨ t = 7 ∨ t = 8 := by omega
  rcases this with rfl | rfl | rfl | rfl | rfl | rfl | rfl | rfl <;> simp [dmb, hc]
theorem dm9 {ad : Nat → Nat → Int → Nat} {c : Nat} {i : Int} (hc : c < 2) (h1 : 0 ≤ i) (h2 : i < 5) : dmb ad 9 c i = true := by simp [dmb, hc, h1, h2]
theorem dm10 {ad : Nat → Nat → Int → Nat} {c : Nat} {i : Int} (hc : c < 2) (h1 : 0 ≤ i) (h2 : i < 5) : dmb ad 10 c i = true := by simp [dmb, hc, h1, h2]
theorem dm11 {ad : Nat → Nat → Int → Nat} {c : Nat} {i : Int} (hc : c < 2) (h1 : 0 ≤ i) (h2 : i < 4) : dmb ad 11 c i = true := by simp [dmb, hc, h1, h2]
theorem dm12 {ad : Nat → Nat → Int → Nat} {c : Nat} {i : Int} (hc : c < 2) (h1 : 0 ≤ i) (h2 : i < 6) : dmb ad 12 c i = true := by simp [dmb, hc, h1, h2]

theorem dm13 {ad : Nat → Nat → Int → Nat} (hs : ad 40 13 0 = 1) : dmb ad 13 2 0 = true := by simp [dmb, hs]
theorem dm14 {ad : Nat → Nat → Int → Nat} (hs : ad 40 13 0 = 1) : dmb ad 14 2 0 = true := by simp [dmb, hs]
theorem dm15 {ad : Nat → Nat → Int → Nat} (hs : ad 40 13 0 = 1) : dmb ad 15 2 0 = true := by simp [dmb, hs]
theorem dm16 {ad : Nat → Nat → Int → Nat} (hs : ad 40 13 0 = 1) : dmb ad 16 2 0 = true := by simp [dmb, hs]
theorem dm17 {ad : Nat → Nat → Int → Nat} (hs : ad 40 13 0 = 1) : dmb ad 17 2 0 = true := by simp [dmb, hs]
theorem dm18 {ad : Nat → Nat → Int → Nat} (hs : ad 40 13 0 = 1) : dmb ad 18 2 0 = true := by simp [dmb, hs]
theorem dm19 {ad : Nat → Nat → Int → Nat} (hs : ad 40 13 0 = 1) : dmb ad 19 2 0 = true := by simp [dmb, hs]
theorem dm20 {ad : Nat → Nat → Int → Nat} (hs : ad 40 13 0 = 1) : dmb ad 20 2 0 = true := by simp [dmb, hs]
theorem dm21 {ad : Nat → Nat → Int → Nat} {i : Int} (hs : ad 40 13 0 = 1) (h1 : 0 ≤ i) (h2 : i < 5) (h3 : i < (ad 41 18 0 : Int)) : dmb ad 21 2 i = true := by simp [dmb, hs, h1, h2, h3]
theorem dm22 {ad : Nat → Nat → Int → Nat} {i : Int} (hs : ad 40 13 0 = 1) (h1 : 0 ≤ i) (h2 : i < 4) (h3 : i < (ad 41 19 0 : Int)) : dmb ad 22 2 i = true := by simp [dmb, hs, h1, h2, h3]
theorem dm23 {ad : Nat → Nat → Int → Nat} {i : Int} (hs : ad 40 13 0 = 1) (h1 : 0 ≤ i) (h2 : i < 6) (h3 : i < (ad 41 20 0 : Int)) : dmb ad 23 2 i = true := by simp [dmb, hs, h1, h2, h3]
theorem dm24 {ad : Nat → Nat → Int → Nat} (hs : ad 40 24 0 = 1) : dmb ad 24 2 0 = true := by simp [dmb, hs]
theorem dm25 {ad : Nat → Nat → Int → Nat} (hs : ad 40 25 0 = 1) : dmb ad 25 2 0 = true := by simp [dmb, hs]
theorem dm26 {ad : Nat → Nat → Int → Nat} (hs : ad 40 26 0 = 1) : dmb ad 26 2 0 = true := by simp [dmb, hs]
theorem dm27 {ad : Nat → Nat → Int → Nat} (hs : ad 40 27 0 = 1) : dmb ad 27 2 0 = true := by simp [dmb, hs]
theorem dm28 {ad : Nat → Nat → Int → Nat} (hs : ad 40 28 0 = 1) : dmb ad 28 2 0 = true := by simp [dmb, hs]
theorem dm29 {ad : Nat → Nat → Int → Nat} (hs : ad 40 29 0 = 1) : dmb ad 29 2 0 = true := by simp [dmb, hs]
theorem dm30 {ad : Nat → Nat → Int → Nat} (hs : ad 40 30 0 = 1) : dmb ad 30 2 0 = true := by simp [dmb, hs]
theorem dm31 {ad : Nat → Nat → Int → Nat} (hs : ad 40 31 0 = 1) : dmb ad 31 2 0 = true := by simp [dmb, hs]
theorem dm32 {ad : Nat → Nat → Int → Nat} (hs : ad 40 32 0 = 1) : dmb ad 32 2 0 = true := by simp [dmb, hs]
theorem kill_le (lv : List (Option Value)) (i : Nat) : ∀ (j : Nat) (v : Value), (lv.set i none)[j]? = some (some v) → lv[j]? = some (some v) := by
  intro j v h
  by_cases e : j = i
  · subst e
    rw [List.getElem?_set] at h
    simp only [if_true] at h
    split at h <;> cases h
  · rwa [List.getElem?_set_ne (Ne.symm e)] at h
section FROWS
variable {p : Program} {l : Launch} {e : Env} {R : Room} {s : State} {m : MethodId} {args : Array Value} {below : List Frame} {meth : Method} {c : Code} {nL : Nat} {cy : Nat → ClassId} {D : va_G} {ad : Nat → Nat → Int → Nat} {A : Nat → Prop} {kc ks : Nat} {Q : State → Prop} {pc : Nat} {lv : List (Option Value)} {st : List Value} {M : Mem} {cc : ByteArray} {ret : Option FieldType} {k : Nat} {S : St} {i : Int}
theorem gf_X2_9 (F : Fx p s m args meth c RX2 cc nL ret cy D ad A) (d : decode cc pc = .ok (.getfield 9, 3)) (hc : k < 2) (h1 : 0 ≤ i) (h2 : i < 5) (kk : V p l e R s m args below meth c nL cy D ad A kc ks Q (pc + 3) lv (.ref (ad 10 k i) :: st) (M)) : V p l e R s m args below meth c nL cy D ad A kc ks Q pc lv (.ref (ad 9 k i) :: st) (M) := r_getF F d (dm9 hc h1 h2) (fs := [.ref (ad 10 k i), .int (i32 (M k 4 i)), .int (i32 (M k 6 i))]) rfl (ci := 2) (C := RX2) (T := TX2) (N := 3) rfl (k := 0) (by decide) inT_X2 lf_X2_9 rfl kk
theorem gf_X4_85 (F : Fx p s m args meth c RX4 cc nL ret cy D ad A) (d : decode cc pc = .ok (.getfield 85, 3)) (hc : k < 2) (h1 : 0 ≤ i) (h2 : i < 5) (kk : V p l e R s m args below meth c nL cy D ad A kc ks Q (pc + 3) lv (.ref (ad 10 k i) :: st) (M)) : V p l e R s m args below meth c nL cy D ad A kc ks Q pc lv (.ref (ad 9 k i) :: st) (M) := r_getF F d (dm9 hc h1 h2) (fs := [.ref (ad 10 k i), .int (i32 (M k 4 i)), .int (i32 (M k 6 i))]) rfl (ci := 2) (C := RX2) (T := TX2) (N := 3) rfl (k := 0) (by decide) inT_X2 lf_X4_85 rfl kk
theorem gf_X1_114 (F : Fx p s m args meth c RX1 cc nL ret cy D ad A) (d : decode cc pc = .ok (.getfield 114, 3)) (hc : k < 2) (h1 : 0 ≤ i) (h2 : i < 5) (kk : V p l e R s m args below meth c nL cy D ad A kc ks Q (pc + 3) lv (.ref (ad 10 k i) :: st) (M)) : V p l e R s m args below meth c nL cy D ad A kc ks Q pc lv (.ref (ad 9 k i) :: st) (M) := r_getF F d (dm9 hc h1 h2) (fs := [.ref (ad 10 k i), .int (i32 (M k 4 i)), .int (i32 (M k 6 i))]) rfl (ci := 2) (C := RX2) (T := TX2) (N := 3) rfl (k := 0) (by decide) inT_X2 lf_X1_114 rfl kk
theorem gg_X2_21 (F : Fx p s m args meth c RX2 cc nL ret cy D ad A) (d : decode cc pc = .ok (.getfield 21, 3)) (hc : k < 2) (h1 : 0 ≤ i) (h2 : i < 5) (kk : V p l e R s m args below meth c nL cy D ad A kc ks Q (pc + 3) lv (.int (i32 (M k 4 i)) :: st) (M)) : V p l e R s m args below meth c nL cy D ad A kc ks Q pc lv (.ref (ad 9 k i) :: st) (M) := r_getF F d (dm9 hc h1 h2) (fs := [.ref (ad 10 k i), .int (i32 (M k 4 i)), .int (i32 (M k 6 i))]) rfl (ci := 2) (C := RX2) (T := TX2) (N := 3) rfl (k := 1) (by decide) inT_X2 lf_X2_21 rfl kk
theorem gf_X2_21 (F : Fx p s m args meth c RX2 cc nL ret cy D ad A) (d : decode cc pc = .ok (.getfield 21, 3)) (hc : k < 2) (h1 : 0 ≤ i) (h2 : i < 5) (kk : V p l e R s m args below meth c nL cy D ad A kc ks Q (pc + 3) lv (.int (i32 (S 4 i)) :: st) (setc M k S)) : V p l e R s m args below meth c nL cy D ad A kc ks Q pc lv (.ref (ad 9 k i) :: st) (setc M k S) := gg_X2_21 F d hc h1 h2 (by rw [setc_at]; exact kk)
theorem pf_X2_21 (F : Fx p s m args meth c RX2 cc nL ret cy D ad A) {v : Int} (d : decode cc pc = .ok (.putfield 21, 3)) (hc : k < 2) (h1 : 0 ≤ i) (h2 : i < 5) (kk : V p l e R s m args below meth c nL cy D ad A kc ks Q (pc + 3) lv st (setc M k (u2 S 4 i v))) : V p l e R s m args below meth c nL cy D ad A kc ks Q pc lv (.int (i32 v) :: .ref (ad 9 k i) :: st) (setc M k S) := by
  refine r_putF F d (dm9 hc h1 h2) (fs := [.ref (ad 10 k i), .int (i32 (S 4 i)), .int (i32 (S 6 i))]) (by simp only [cel, setc_at]) (ci := 2) (C := RX2) (T := TX2) (N := 3) rfl rfl (k := 1) (by decide) inT_X2 tyX2 tyX2_ok nmX2 lf_X2_21 rfl (ty := .int) (by decide +kernel) rfl rfl ?_ (oth (by simp [owner, hc])) kk
  simp [cel, setc_at, u2]
theorem gg_X4_70 (F : Fx p s m args meth c RX4 cc nL ret cy D ad A) (d : decode cc pc = .ok (.getfield 70, 3)) (hc : k < 2) (h1 : 0 ≤ i) (h2 : i < 5) (kk : V p l e R s m args below meth c nL cy D ad A kc ks Q (pc + 3) lv (.int (i32 (M k 4 i)) :: st) (M)) : V p l e R s m args below meth c nL cy D ad A kc ks Q pc lv (.ref (ad 9 k i) :: st) (M) := r_getF F d (dm9 hc h1 h2) (fs := [.ref (ad 10 k i), .int (i32 (M k 4 i)), .int (i32 (M k 6 i))]) rfl (ci := 2) (C := RX2) (T := TX2) (N := 3) rfl (k := 1) (by decide) inT_X2 lf_X4_70 rfl kk
theorem gf_X4_70 (F : Fx p s m args meth c RX4 cc nL ret cy D ad A) (d : decode cc pc = .ok (.getfield 70, 3)) (hc : k < 2) (h1 : 0 ≤ i) (h2 : i < 5) (kk : V p l e R s m args below meth c nL cy D ad A kc ks Q (pc + 3) lv (.int (i32 (S 4 i)) :: st) (setc M k S)) : V p l e R s m args below meth c nL cy D ad A kc ks Q pc lv (.ref (ad 9 k i) :: st) (setc M k S) := gg_X4_70 F d hc h1 h2 (by rw [setc_at]; exact kk)
theorem pf_X4_70 (F : Fx p s m args meth c RX4 cc nL ret cy D ad A) {v : Int} (d : decode cc pc = .ok (.putfield 70, 3)) (hc : k < 2) (h1 : 0 ≤ i) (h2 : i < 5) (kk : V p l e R s m args below meth c nL cy D ad A kc ks Q (pc + 3) lv st (setc M k (u2 S 4 i v))) : V p l e R s m args below meth c nL cy D ad A kc ks Q pc lv (.int (i32 v) :: .ref (ad 9 k i) :: st) (setc M k S) := by
  refine r_putF F d (dm9 hc h1 h2) (fs := [.ref (ad 10 k i), .int (i32 (S 4 i)), .int (i32 (S 6 i))]) (by simp only [cel, setc_at]) (ci := 2) (C := RX2) (T := TX2) (N := 3) rfl rfl (k := 1) (by decide) inT_X2 tyX2 tyX2_ok nmX2 lf_X4_70 rfl (ty := .int) (by decide +kernel) rfl rfl ?_ (oth (by simp [owner, hc])) kk
  simp [cel, setc_at, u2]
theorem gg_X1_90 (F : Fx p s m args meth c RX1 cc nL ret cy D ad A) (d : decode cc pc = .ok (.getfield 90, 3)) (hc : k < 2) (h1 : 0 ≤ i) (h2 : i < 5) (kk : V p l e R s m args below meth c nL cy D ad A kc ks Q (pc + 3) lv (.int (i32 (M k 4 i)) :: st) (M)) : V p l e R s m args below meth c nL cy D ad A kc ks Q pc lv (.ref (ad 9 k i) :: st) (M) := r_getF F d (dm9 hc h1 h2) (fs := [.ref (ad 10 k i), .int (i32 (M k 4 i)), .int (i32 (M k 6 i))]) rfl (ci := 2) (C := RX2) (T := TX2) (N := 3) rfl (k := 1) (by decide) inT_X2 lf_X1_90 rfl kk
theorem gf_X1_90 (F : Fx p s m args meth c RX1 cc nL ret cy D ad A) (d : decode cc pc = .ok (.getfield 90, 3)) (hc : k < 2) (h1 : 0 ≤ i) (h2 : i < 5) (kk : V p l e R s m args below meth c nL cy D ad A kc ks Q (pc + 3) lv (.int (i32 (S 4 i)) :: st) (setc M k S)) : V p l e R s m args below meth c nL cy D ad A kc ks Q pc lv (.ref (ad 9 k i) :: st) (setc M k S) := gg_X1_90 F d hc h1 h2 (by rw [setc_at]; exact kk)
theorem pf_X1_90 (F : Fx p s m args meth c RX1 cc nL ret cy D ad A) {v : Int} (d : decode cc pc = .ok (.putfield 90, 3)) (hc : k < 2) (h1 : 0 ≤ i) (h2 : i < 5) (kk : V p l e R s m args below meth c nL cy D ad A kc ks Q (pc + 3) lv st (setc M k (u2 S 4 i v))) : V p l e R s m args below meth c nL cy D ad A kc ks Q pc lv (.int (i32 v) :: .ref (ad 9 k i) :: st) (setc M k S) := by
  refine r_putF F d (dm9 hc h1 h2) (fs := [.ref (ad 10 k i), .int (i32 (S 4 i)), .int (i32 (S 6 i))]) (by simp only [cel, setc_at]) (ci := 2) (C := RX2) (T := TX2) (N := 3) rfl rfl (k := 1) (by decide) inT_X2 tyX2 tyX2_ok nmX2 lf_X1_90 rfl (ty := .int) (by decide +kernel) rfl rfl ?_ (oth (by simp [owner, hc])) kk
  simp [cel, setc_at, u2]
theorem gg_X2_25 (F : Fx p s m args meth c RX2 cc nL ret cy D ad A) (d : decode cc pc = .ok (.getfield 25, 3)) (hc : k < 2) (h1 : 0 ≤ i) (h2 : i < 5) (kk : V p l e R s m args below meth c nL cy D ad A kc ks Q (pc + 3) lv (.int (i32 (M k 6 i)) :: st) (M)) : V p l e R s m args below meth c nL cy D ad A kc ks Q pc lv (.ref (ad 9 k i) :: st) (M) := r_getF F d (dm9 hc h1 h2) (fs := [.ref (ad 10 k i), .int (i32 (M k 4 i)), .int (i32 (M k 6 i))]) rfl (ci := 2) (C := RX2) (T := TX2) (N := 3) rfl (k := 2) (by decide) inT_X2 lf_X2_25 rfl kk
theorem gf_X2_25 (F : Fx p s m args meth c RX2 cc nL ret cy D ad A) (d : decode cc pc = .ok (.getfield 25, 3)) (hc : k < 2) (h1 : 0 ≤ i) (h2 : i < 5) (kk : V p l e R s m args below meth c nL cy D ad A kc ks Q (pc + 3) lv (.int (i32 (S 6 i)) :: st) (setc M k S)) : V p l e R s m args below meth c nL cy D ad A kc ks Q pc lv (.ref (ad 9 k i) :: st) (setc M k S) := gg_X2_25 F d hc h1 h2 (by rw [setc_at]; exact kk)
theorem pf_X2_25 (F : Fx p s m args meth c RX2 cc nL ret cy D ad A) {v : Int} (d : decode cc pc = .ok (.putfield 25, 3)) (hc : k < 2) (h1 : 0 ≤ i) (h2 : i < 5) (kk : V p l e R s m args below meth c nL cy D ad A kc ks Q (pc + 3) lv st (setc M k (u2 S 6 i v))) : V p l e R s m args below meth c nL cy D ad A kc ks Q pc lv (.int (i32 v) :: .ref (ad 9 k i) :: st) (setc M k S) := by
  refine r_putF F d (dm9 hc h1 h2) (fs := [.ref (ad 10 k i), .int (i32 (S 4 i)), .int (i32 (S 6 i))]) (by simp only [cel, setc_at]) (ci := 2) (C := RX2) (T := TX2) (N := 3) rfl rfl (k := 2) (by decide) inT_X2 tyX2 tyX2_ok nmX2 lf_X2_25 rfl (ty := .int) (by decide +kernel) rfl rfl ?_ (oth (by simp [owner, hc])) kk
  simp [cel, setc_at, u2]
theorem gg_X1_120 (F : Fx p s m args meth c RX1 cc nL ret cy D ad A) (d : decode cc pc = .ok (.getfield 120, 3)) (hc : k < 2) (h1 : 0 ≤ i) (h2 : i < 5) (kk : V p l e R s m args below meth c nL cy D ad A kc ks Q (pc + 3) lv (.int (i32 (M k 6 i)) :: st) (M)) : V p l e R s m args below meth c nL cy D ad A kc ks Q pc lv (.ref (ad 9 k i) :: st) (M) := r_getF F d (dm9 hc h1 h2) (fs := [.ref (ad 10 k i), .int (i32 (M k 4 i)), .int (i32 (M k 6 i))]) rfl (ci := 2) (C := RX2) (T := TX2) (N := 3) rfl (k := 2) (by decide) inT_X2 lf_X1_120 rfl kk
theorem gf_X1_120 (F : Fx p s m args meth c RX1 cc nL ret cy D ad A) (d : decode cc pc = .ok (.getfield 120, 3)) (hc : k < 2) (h1 : 0 ≤ i) (h2 : i < 5) (kk : V p l e R s m args below meth c nL cy D ad A kc ks Q (pc + 3) lv (.int (i32 (S 6 i)) :: st) (setc M k S)) : V p l e R s m args below meth c nL cy D ad A kc ks Q pc lv (.ref (ad 9 k i) :: st) (setc M k S) := gg_X1_120 F d hc h1 h2 (by rw [setc_at]; exact kk)
theorem pf_X1_120 (F : Fx p s m args meth c RX1 cc nL ret cy D ad A) {v : Int} (d : decode cc pc = .ok (.putfield 120, 3)) (hc : k < 2) (h1 : 0 ≤ i) (h2 : i < 5) (kk : V p l e R s m args below meth c nL cy D ad A kc ks Q (pc + 3) lv st (setc M k (u2 S 6 i v))) : V p l e R s m args below meth c nL cy D ad A kc ks Q pc lv (.int (i32 v) :: .ref (ad 9 k i) :: st) (setc M k S) := by
  refine r_putF F d (dm9 hc h1 h2) (fs := [.ref (ad 10 k i), .int (i32 (S 4 i)), .int (i32 (S 6 i))]) (by simp only [cel, setc_at]) (ci := 2) (C := RX2) (T := TX2) (N := 3) rfl rfl (k := 2) (by decide) inT_X2 tyX2 tyX2_ok nmX2 lf_X1_120 rfl (ty := .int) (by decide +kernel) rfl rfl ?_ (oth (by simp [owner, hc])) kk
  simp [cel, setc_at, u2]
theorem gg_X3_7 (F : Fx p s m args meth c RX3 cc nL ret cy D ad A) (d : decode cc pc = .ok (.getfield 7, 3)) (hc : k < 2) (h1 : 0 ≤ i) (h2 : i < 4) (kk : V p l e R s m args below meth c nL cy D ad A kc ks Q (pc + 3) lv (.int (i32 (M k 7 i)) :: st) (M)) : V p l e R s m args below meth c nL cy D ad A kc ks Q pc lv (.ref (ad 11 k i) :: st) (M) := r_getF F d (dm11 hc h1 h2) (fs := [.int (i32 (M k 7 i)), .int (i32 (M k 8 i)), .int (i32 (M k 9 i)), .int (i32 (M k 10 i)), .int (i32 (M k 11 i)), .int (i32 (M k 12 i))]) rfl (ci := 3) (C := RX3) (T := TX3) (N := 6) rfl (k := 0) (by decide) inT_X3 lf_X3_7 rfl kk
theorem gf_X3_7 (F : Fx p s m args meth c RX3 cc nL ret cy D ad A) (d : decode cc pc = .ok (.getfield 7, 3)) (hc : k < 2) (h1 : 0 ≤ i) (h2 : i < 4) (kk : V p l e R s m args below meth c nL cy D ad A kc ks Q (pc + 3) lv (.int (i32 (S 7 i)) :: st) (setc M k S)) : V p l e R s m args below meth c nL cy D ad A kc ks Q pc lv (.ref (ad 11 k i) :: st) (setc M k S) := gg_X3_7 F d hc h1 h2 (by rw [setc_at]; exact kk)
theorem pf_X3_7 (F : Fx p s m args meth c RX3 cc nL ret cy D ad A) {v : Int} (d : decode cc pc = .ok (.putfield 7, 3)) (hc : k < 2) (h1 : 0 ≤ i) (h2 : i < 4) (kk : V p l e R s m args below meth c nL cy D ad A kc ks Q (pc + 3) lv st (setc M k (u2 S 7 i v))) : V p l e R s m args below meth c nL cy D ad A kc ks Q pc lv (.int (i32 v) :: .ref (ad 11 k i) :: st) (setc M k S) := by
  refine r_putF F d (dm11 hc h1 h2) (fs := [.int (i32 (S 7 i)), .int (i32 (S 8 i)), .int (i32 (S 9 i)), .int (i32 (S 10 i)), .int (i32 (S 11 i)), .int (i32 (S 12 i))]) (by simp only [cel, setc_at]) (ci := 3) (C := RX3) (T := TX3) (N := 6) rfl rfl (k := 0) (by decide) inT_X3 tyX3 tyX3_ok nmX3 lf_X3_7 rfl (ty := .int) (by decide +kernel) rfl rfl ?_ (oth (by simp [owner, hc])) kk
  simp [cel, setc_at, u2]
theorem gg_X3_13 (F : Fx p s m args meth c RX3 cc nL ret cy D ad A) (d : decode cc pc = .ok (.getfield 13, 3)) (hc : k < 2) (h1 : 0 ≤ i) (h2 : i < 4) (kk : V p l e R s m args below meth c nL cy D ad A kc ks Q (pc + 3) lv (.int (i32 (M k 8 i)) :: st) (M)) : V p l e R s m args below meth c nL cy D ad A kc ks Q pc lv (.ref (ad 11 k i) :: st) (M) := r_getF F d (dm11 hc h1 h2) (fs := [.int (i32 (M k 7 i)), .int (i32 (M k 8 i)), .int (i32 (M k 9 i)), .int (i32 (M k 10 i)), .int (i32 (M k 11 i)), .int (i32 (M k 12 i))]) rfl (ci := 3) (C := RX3) (T := TX3) (N := 6) rfl (k := 1) (by decide) inT_X3 lf_X3_13 rfl kk
theorem gf_X3_13 (F : Fx p s m args meth c RX3 cc nL ret cy D ad A) (d : decode cc pc = .ok (.getfield 13, 3)) (hc : k < 2) (h1 : 0 ≤ i) (h2 : i < 4) (kk : V p l e R s m args below meth c nL cy D ad A kc ks Q (pc + 3) lv (.int (i32 (S 8 i)) :: st) (setc M k S)) : V p l e R s m args below meth c nL cy D ad A kc ks Q pc lv (.ref (ad 11 k i) :: st) (setc M k S) := gg_X3_13 F d hc h1 h2 (by rw [setc_at]; exact kk)
theorem pf_X3_13 (F : Fx p s m args meth c RX3 cc nL ret cy D ad A) {v : Int} (d : decode cc pc = .ok (.putfield 13, 3)) (hc : k < 2) (h1 : 0 ≤ i) (h2 : i < 4) (kk : V p l e R s m args below meth c nL cy D ad A kc ks Q (pc + 3) lv st (setc M k (u2 S 8 i v))) : V p l e R s m args below meth c nL cy D ad A kc ks Q pc lv (.int (i32 v) :: .ref (ad 11 k i) :: st) (setc M k S) := by
  refine r_putF F d (dm11 hc h1 h2) (fs := [.int (i32 (S 7 i)), .int (i32 (S 8 i)), .int (i32 (S 9 i)), .int (i32 (S 10 i)), .int (i32 (S 11 i)), .int (i32 (S 12 i))]) (by simp only [cel, setc_at]) (ci := 3) (C := RX3) (T := TX3) (N := 6) rfl rfl (k := 1) (by decide) inT_X3 tyX3 tyX3_ok nmX3 lf_X3_13 rfl (ty := .int) (by decide +kernel) rfl rfl ?_ (oth (by simp [owner, hc])) kk
  simp [cel, setc_at, u2]
theorem gg_X3_16 (F : Fx p s m args meth c RX3 cc nL ret cy D ad A) (d : decode cc pc = .ok (.getfield 16, 3)) (hc : k < 2) (h1 : 0 ≤ i) (h2 : i < 4) (kk : V p l e R s m args below meth c nL cy D ad A kc ks Q (pc + 3) lv (.int (i32 (M k 9 i)) :: st) (M)) : V p l e R s m args below meth c nL cy D ad A kc ks Q pc lv (.ref (ad 11 k i) :: st) (M) := r_getF F d (dm11 hc h1 h2) (fs := [.int (i32 (M k 7 i)), .int (i32 (M k 8 i)), .int (i32 (M k 9 i)), .int (i32 (M k 10 i)), .int (i32 (M k 11 i)), .int (i32 (M k 12 i))]) rfl (ci := 3) (C := RX3) (T := TX3) (N := 6) rfl (k := 2) (by decide) inT_X3 lf_X3_16 rfl kk
theorem gf_X3_16 (F : Fx p s m args meth c RX3 cc nL ret cy D ad A) (d : decode cc pc = .ok (.getfield 16, 3)) (hc : k < 2) (h1 : 0 ≤ i) (h2 : i < 4) (kk : V p l e R s m args below meth c nL cy D ad A kc ks Q (pc + 3) lv (.int (i32 (S 9 i)) :: st) (setc M k S)) : V p l e R s m args below meth c nL cy D ad A kc ks Q pc lv (.ref (ad 11 k i) :: st) (setc M k S) := gg_X3_16 F d hc h1 h2 (by rw [setc_at]; exact kk)
theorem pf_X3_16 (F : Fx p s m args meth c RX3 cc nL ret cy D ad A) {v : Int} (d : decode cc pc = .ok (.putfield 16, 3)) (hc : k < 2) (h1 : 0 ≤ i) (h2 : i < 4) (kk : V p l e R s m args below meth c nL cy D ad A kc ks Q (pc + 3) lv st (setc M k (u2 S 9 i v))) : V p l e R s m args below meth c nL cy D ad A kc ks Q pc lv (.int (i32 v) :: .ref (ad 11 k i) :: st) (setc M k S) := by
  refine r_putF F d (dm11 hc h1 h2) (fs := [.int (i32 (S 7 i)), .int (i32 (S 8 i)), .int (i32 (S 9 i)), .int (i32 (S 10 i)), .int (i32 (S 11 i)), .int (i32 (S 12 i))]) (by simp only [cel, setc_at]) (ci := 3) (C := RX3) (T := TX3) (N := 6) rfl rfl (k := 2) (by decide) inT_X3 tyX3 tyX3_ok nmX3 lf_X3_16 rfl (ty := .int) (by decide +kernel) rfl rfl ?_ (oth (by simp [owner, hc])) kk
  simp [cel, setc_at, u2]
theorem gg_X3_19 (F : Fx p s m args meth c RX3 cc nL ret cy D ad A) (d : decode cc pc = .ok (.getfield 19, 3)) (hc : k < 2) (h1 : 0 ≤ i) (h2 : i < 4) (kk : V p l e R s m args below meth c nL cy D ad A kc ks Q (pc + 3) lv (.int (i32 (M k 10 i)) :: st) (M)) : V p l e R s m args below meth c nL cy D ad A kc ks Q pc lv (.ref (ad 11 k i) :: st) (M) := r_getF F d (dm11 hc h1 h2) (fs := [.int (i32 (M k 7 i)), .int (i32 (M k 8 i)), .int (i32 (M k 9 i)), .int (i32 (M k 10 i)), .int (i32 (M k 11 i)), .int (i32 (M k 12 i))]) rfl (ci := 3) (C := RX3) (T := TX3) (N := 6) rfl (k := 3) (by decide) inT_X3 lf_X3_19 rfl kk
theorem gf_X3_19 (F : Fx p s m args meth c RX3 cc nL ret cy D ad A) (d : decode cc pc = .ok (.getfield 19, 3)) (hc : k < 2) (h1 : 0 ≤ i) (h2 : i < 4) (kk : V p l e R s m args below meth c nL cy D ad A kc ks Q (pc + 3) lv (.int (i32 (S 10 i)) :: st) (setc M k S)) : V p l e R s m args below meth c nL cy D ad A kc ks Q pc lv (.ref (ad 11 k i) :: st) (setc M k S) := gg_X3_19 F d hc h1 h2 (by rw [setc_at]; exact kk)
theorem pf_X3_19 (F : Fx p s m args meth c RX3 cc nL ret cy D ad A) {v : Int} (d : decode cc pc = .ok (.putfield 19, 3)) (hc : k < 2) (h1 : 0 ≤ i) (h2 : i < 4) (kk : V p l e R s m args below meth c nL cy D ad A kc ks Q (pc + 3) lv st (setc M k (u2 S 10 i v))) : V p l e R s m args below meth c nL cy D ad A kc ks Q pc lv (.int (i32 v) :: .ref (ad 11 k i) :: st) (setc M k S) := by
  refine r_putF F d (dm11 hc h1 h2) (fs := [.int (i32 (S 7 i)), .int (i32 (S 8 i)), .int (i32 (S 9 i)), .int (i32 (S 10 i)), .int (i32 (S 11 i)), .int (i32 (S 12 i))]) (by simp only [cel, setc_at]) (ci := 3) (C := RX3) (T := TX3) (N := 6) rfl rfl (k := 3) (by decide) inT_X3 tyX3 tyX3_ok nmX3 lf_X3_19 rfl (ty := .int) (by decide +kernel) rfl rfl ?_ (oth (by simp [owner, hc])) kk
  simp [cel, setc_at, u2]
theorem gg_X1_174 (F : Fx p s m args meth c RX1 cc nL ret cy D ad A) (d : decode cc pc = .ok (.getfield 174, 3)) (hc : k < 2) (h1 : 0 ≤ i) (h2 : i < 4) (kk : V p l e R s m args below meth c nL cy D ad A kc ks Q (pc + 3) lv (.int (i32 (M k 10 i)) :: st) (M)) : V p l e R s m args below meth c nL cy D ad A kc ks Q pc lv (.ref (ad 11 k i) :: st) (M) := r_getF F d (dm11 hc h1 h2) (fs := [.int (i32 (M k 7 i)), .int (i32 (M k 8 i)), .int (i32 (M k 9 i)), .int (i32 (M k 10 i)), .int (i32 (M k 11 i)), .int (i32 (M k 12 i))]) rfl (ci := 3) (C := RX3) (T := TX3) (N := 6) rfl (k := 3) (by decide) inT_X3 lf_X1_174 rfl kk
theorem gf_X1_174 (F : Fx p s m args meth c RX1 cc nL ret cy D ad A) (d : decode cc pc = .ok (.getfield 174, 3)) (hc : k < 2) (h1 : 0 ≤ i) (h2 : i < 4) (kk : V p l e R s m args below meth c nL cy D ad A kc ks Q (pc + 3) lv (.int (i32 (S 10 i)) :: st) (setc M k S)) : V p l e R s m args below meth c nL cy D ad A kc ks Q pc lv (.ref (ad 11 k i) :: st) (setc M k S) := gg_X1_174 F d hc h1 h2 (by rw [setc_at]; exact kk)
theorem pf_X1_174 (F : Fx p s m args meth c RX1 cc nL ret cy D ad A) {v : Int} (d : decode cc pc = .ok (.putfield 174, 3)) (hc : k < 2) (h1 : 0 ≤ i) (h2 : i < 4) (kk : V p l e R s m args below meth c nL cy D ad A kc ks Q (pc + 3) lv st (setc M k (u2 S 10 i v))) : V p l e R s m args below meth c nL cy D ad A kc ks Q pc lv (.int (i32 v) :: .ref (ad 11 k i) :: st) (setc M k S) := by
  refine r_putF F d (dm11 hc h1 h2) (fs := [.int (i32 (S 7 i)), .int (i32 (S 8 i)), .int (i32 (S 9 i)), .int (i32 (S 10 i)), .int (i32 (S 11 i)), .int (i32 (S 12 i))]) (by simp only [cel, setc_at]) (ci := 3) (C := RX3) (T := TX3) (N := 6) rfl rfl (k := 3) (by decide) inT_X3 tyX3 tyX3_ok nmX3 lf_X1_174 rfl (ty := .int) (by decide +kernel) rfl rfl ?_ (oth (by simp [owner, hc])) kk
  simp [cel, setc_at, u2]
theorem gg_X3_22 (F : Fx p s m args meth c RX3 cc nL ret cy D ad A) (d : decode cc pc = .ok (.getfield 22, 3)) (hc : k < 2) (h1 : 0 ≤ i) (h2 : i < 4) (kk : V p l e R s m args below meth c nL cy D ad A kc ks Q (pc + 3) lv (.int (i32 (M k 11 i)) :: st) (M)) : V p l e R s m args below meth c nL cy D ad A kc ks Q pc lv (.ref (ad 11 k i) :: st) (M) := r_getF F d (dm11 hc h1 h2) (fs := [.int (i32 (M k 7 i)), .int (i32 (M k 8 i)), .int (i32 (M k 9 i)), .int (i32 (M k 10 i)), .int (i32 (M k 11 i)), .int (i32 (M k 12 i))]) rfl (ci := 3) (C := RX3) (T := TX3) (N := 6) rfl (k := 4) (by decide) inT_X3 lf_X3_22 rfl kk
theorem gf_X3_22 (F : Fx p s m args meth c RX3 cc nL ret cy D ad A) (d : decode cc pc = .ok (.getfield 22, 3)) (hc : k < 2) (h1 : 0 ≤ i) (h2 : i < 4) (kk : V p l e R s m args below meth c nL cy D ad A kc ks Q (pc + 3) lv (.int (i32 (S 11 i)) :: st) (setc M k S)) : V p l e R s m args below meth c nL cy D ad A kc ks Q pc lv (.ref (ad 11 k i) :: st) (setc M k S) := gg_X3_22 F d hc h1 h2 (by rw [setc_at]; exact kk)
theorem pf_X3_22 (F : Fx p s m args meth c RX3 cc nL ret cy D ad A) {v : Int} (d : decode cc pc = .ok (.putfield 22, 3)) (hc : k < 2) (h1 : 0 ≤ i) (h2 : i < 4) (kk : V p l e R s m args below meth c nL cy D ad A kc ks Q (pc + 3) lv st (setc M k (u2 S 11 i v))) : V p l e R s m args below meth c nL cy D ad A kc ks Q pc lv (.int (i32 v) :: .ref (ad 11 k i) :: st) (setc M k S) := by
  refine r_putF F d (dm11 hc h1 h2) (fs := [.int (i32 (S 7 i)), .int (i32 (S 8 i)), .int (i32 (S 9 i)), .int (i32 (S 10 i)), .int (i32 (S 11 i)), .int (i32 (S 12 i))]) (by simp only [cel, setc_at]) (ci := 3) (C := RX3) (T := TX3) (N := 6) rfl rfl (k := 4) (by decide) inT_X3 tyX3 tyX3_ok nmX3 lf_X3_22 rfl (ty := .int) (by decide +kernel) rfl rfl ?_ (oth (by simp [owner, hc])) kk
  simp [cel, setc_at, u2]
theorem gg_X3_25 (F : Fx p s m args meth c RX3 cc nL ret cy D ad A) (d : decode cc pc = .ok (.getfield 25, 3)) (hc : k < 2) (h1 : 0 ≤ i) (h2 : i < 4) (kk : V p l e R s m args below meth c nL cy D ad A kc ks Q (pc + 3) lv (.int (i32 (M k 12 i)) :: st) (M)) : V p l e R s m args below meth c nL cy D ad A kc ks Q pc lv (.ref (ad 11 k i) :: st) (M) := r_getF F d (dm11 hc h1 h2) (fs := [.int (i32 (M k 7 i)), .int (i32 (M k 8 i)), .int (i32 (M k 9 i)), .int (i32 (M k 10 i)), .int (i32 (M k 11 i)), .int (i32 (M k 12 i))]) rfl (ci := 3) (C := RX3) (T := TX3) (N := 6) rfl (k := 5) (by decide) inT_X3 lf_X3_25 rfl kk
theorem gf_X3_25 (F : Fx p s m args meth c RX3 cc nL ret cy D ad A) (d : decode cc pc = .ok (.getfield 25, 3)) (hc : k < 2) (h1 : 0 ≤ i) (h2 : i < 4) (kk : V p l e R s m args below meth c nL cy D ad A kc ks Q (pc + 3) lv (.int (i32 (S 12 i)) :: st) (setc M k S)) : V p l e R s m args below meth c nL cy D ad A kc ks Q pc lv (.ref (ad 11 k i) :: st) (setc M k S) := gg_X3_25 F d hc h1 h2 (by rw [setc_at]; exact kk)
theorem pf_X3_25 (F : Fx p s m args meth c RX3 cc nL ret cy D ad A) {v : Int} (d : decode cc pc = .ok (.putfield 25, 3)) (hc : k < 2) (h1 : 0 ≤ i) (h2 : i < 4) (kk : V p l e R s m args below meth c nL cy D ad A kc ks Q (pc + 3) lv st (setc M k (u2 S 12 i v))) : V p l e R s m args below meth c nL cy D ad A kc ks Q pc lv (.int (i32 v) :: .ref (ad 11 k i) :: st) (setc M k S) := by
  refine r_putF F d (dm11 hc h1 h2) (fs := [.int (i32 (S 7 i)), .int (i32 (S 8 i)), .int (i32 (S 9 i)), .int (i32 (S 10 i)), .int (i32 (S 11 i)), .int (i32 (S 12 i))]) (by simp only [cel, setc_at]) (ci := 3) (C := RX3) (T := TX3) (N := 6) rfl rfl (k := 5) (by decide) inT_X3 tyX3 tyX3_ok nmX3 lf_X3_25 rfl (ty := .int) (by decide +kernel) rfl rfl ?_ (oth (by simp [owner, hc])) kk
  simp [cel, setc_at, u2]
theorem gg_X1_175 (F : Fx p s m args meth c RX1 cc nL ret cy D ad A) (d : decode cc pc = .ok (.getfield 175, 3)) (hc : k < 2) (h1 : 0 ≤ i) (h2 : i < 4) (kk : V p l e R s m args below meth c nL cy D ad A kc ks Q (pc + 3) lv (.int (i32 (M k 12 i)) :: st) (M)) : V p l e R s m args below meth c nL cy D ad A kc ks Q pc lv (.ref (ad 11 k i) :: st) (M) := r_getF F d (dm11 hc h1 h2) (fs := [.int (i32 (M k 7 i)), .int (i32 (M k 8 i)), .int (i32 (M k 9 i)), .int (i32 (M k 10 i)), .int (i32 (M k 11 i)), .int (i32 (M k 12 i))]) rfl (ci := 3) (C := RX3) (T := TX3) (N := 6) rfl (k := 5) (by decide) inT_X3 lf_X1_175 rfl kk
theorem gf_X1_175 (F : Fx p s m args meth c RX1 cc nL ret cy D ad A) (d : decode cc pc = .ok (.getfield 175, 3)) (hc : k < 2) (h1 : 0 ≤ i) (h2 : i < 4) (kk : V p l e R s m args below meth c nL cy D ad A kc ks Q (pc + 3) lv (.int (i32 (S 12 i)) :: st) (setc M k S)) : V p l e R s m args below meth c nL cy D ad A kc ks Q pc lv (.ref (ad 11 k i) :: st) (setc M k S) := gg_X1_175 F d hc h1 h2 (by rw [setc_at]; exact kk)
theorem pf_X1_175 (F : Fx p s m args meth c RX1 cc nL ret cy D ad A) {v : Int} (d : decode cc pc = .ok (.putfield 175, 3)) (hc : k < 2) (h1 : 0 ≤ i) (h2 : i < 4) (kk : V p l e R s m args below meth c nL cy D ad A kc ks Q (pc + 3) lv st (setc M k (u2 S 12 i v))) : V p l e R s m args below meth c nL cy D ad A kc ks Q pc lv (.int (i32 v) :: .ref (ad 11 k i) :: st) (setc M k S) := by
  refine r_putF F d (dm11 hc h1 h2) (fs := [.int (i32 (S 7 i)), .int (i32 (S 8 i)), .int (i32 (S 9 i)), .int (i32 (S 10 i)), .int (i32 (S 11 i)), .int (i32 (S 12 i))]) (by simp only [cel, setc_at]) (ci := 3) (C := RX3) (T := TX3) (N := 6) rfl rfl (k := 5) (by decide) inT_X3 tyX3 tyX3_ok nmX3 lf_X1_175 rfl (ty := .int) (by decide +kernel) rfl rfl ?_ (oth (by simp [owner, hc])) kk
  simp [cel, setc_at, u2]
theorem gg_X0_9 (F : Fx p s m args meth c RX0 cc nL ret cy D ad A) (d : decode cc pc = .ok (.getfield 9, 3)) (hc : k < 2) (h1 : 0 ≤ i) (h2 : i < 6) (kk : V p l e R s m args below meth c nL cy D ad A kc ks Q (pc + 3) lv (.int (i32 (M k 13 i)) :: st) (M)) : V p l e R s m args below meth c nL cy D ad A kc ks Q pc lv (.ref (ad 12 k i) :: st) (M) := r_getF F d (dm12 hc h1 h2) (fs := [.int (i32 (M k 13 i)), .int (i32 (M k 14 i)), .int (i32 (M k 15 i)), .int (i32 (M k 16 i)), .int (i32 (M k 17 i)), .int (i32 (M k 18 i)), .int (i32 (M k 19 i))]) rfl (ci := 0) (C := RX0) (T := TX0) (N := 7) rfl (k := 0) (by decide) inT_X0 lf_X0_9 rfl kk
theorem gf_X0_9 (F : Fx p s m args meth c RX0 cc nL ret cy D ad A) (d : decode cc pc = .ok (.getfield 9, 3)) (hc : k < 2) (h1 : 0 ≤ i) (h2 : i < 6) (kk : V p l e R s m args below meth c nL cy D ad A kc ks Q (pc + 3) lv (.int (i32 (S 13 i)) :: st) (setc M k S)) : V p l e R s m args below meth c nL cy D ad A kc ks Q pc lv (.ref (ad 12 k i) :: st) (setc M k S) := gg_X0_9 F d hc h1 h2 (by rw [setc_at]; exact kk)
theorem pf_X0_9 (F : Fx p s m args meth c RX0 cc nL ret cy D ad A) {v : Int} (d : decode cc pc = .ok (.putfield 9, 3)) (hc : k < 2) (h1 : 0 ≤ i) (h2 : i < 6) (kk : V p l e R s m args below meth c nL cy D ad A kc ks Q (pc + 3) lv st (setc M k (u2 S 13 i v))) : V p l e R s m args below meth c nL cy D ad A kc ks Q pc lv (.int (i32 v) :: .ref (ad 12 k i) :: st) (setc M k S) := by
  refine r_putF F d (dm12 hc h1 h2) (fs := [.int (i32 (S 13 i)), .int (i32 (S 14 i)), .int (i32 (S 15 i)), .int (i32 (S 16 i)), .int (i32 (S 17 i)), .int (i32 (S 18 i)), .int (i32 (S 19 i))]) (by simp only [cel, setc_at]) (ci := 0) (C := RX0) (T := TX0) (N := 7) rfl rfl (k := 0) (by decide) inT_X0 tyX0 tyX0_ok nmX0 lf_X0_9 rfl (ty := .int) (by decide +kernel) rfl rfl ?_ (oth (by simp [owner, hc])) kk
  simp [cel, setc_at, u2]
theorem gg_X1_144 (F : Fx p s m args meth c RX1 cc nL ret cy D ad A) (d : decode cc pc = .ok (.getfield 144, 3)) (hc : k < 2) (h1 : 0 ≤ i) (h2 : i < 6) (kk : V p l e R s m args below meth c nL cy D ad A kc ks Q (pc + 3) lv (.int (i32 (M k 13 i)) :: st) (M)) : V p l e R s m args below meth c nL cy D ad A kc ks Q pc lv (.ref (ad 12 k i) :: st) (M) := r_getF F d (dm12 hc h1 h2) (fs := [.int (i32 (M k 13 i)), .int (i32 (M k 14 i)), .int (i32 (M k 15 i)), .int (i32 (M k 16 i)), .int (i32 (M k 17 i)), .int (i32 (M k 18 i)), .int (i32 (M k 19 i))]) rfl (ci := 0) (C := RX0) (T := TX0) (N := 7) rfl (k := 0) (by decide) inT_X0 lf_X1_144 rfl kk
theorem gf_X1_144 (F : Fx p s m args meth c RX1 cc nL ret cy D ad A) (d : decode cc pc = .ok (.getfield 144, 3)) (hc : k < 2) (h1 : 0 ≤ i) (h2 : i < 6) (kk : V p l e R s m args below meth c nL cy D ad A kc ks Q (pc + 3) lv (.int (i32 (S 13 i)) :: st) (setc M k S)) : V p l e R s m args below meth c nL cy D ad A kc ks Q pc lv (.ref (ad 12 k i) :: st) (setc M k S) := gg_X1_144 F d hc h1 h2 (by rw [setc_at]; exact kk)
theorem pf_X1_144 (F : Fx p s m args meth c RX1 cc nL ret cy D ad A) {v : Int} (d : decode cc pc = .ok (.putfield 144, 3)) (hc : k < 2) (h1 : 0 ≤ i) (h2 : i < 6) (kk : V p l e R s m args below meth c nL cy D ad A kc ks Q (pc + 3) lv st (setc M k (u2 S 13 i v))) : V p l e R s m args below meth c nL cy D ad A kc ks Q pc lv (.int (i32 v) :: .ref (ad 12 k i) :: st) (setc M k S) := by
  refine r_putF F d (dm12 hc h1 h2) (fs := [.int (i32 (S 13 i)), .int (i32 (S 14 i)), .int (i32 (S 15 i)), .int (i32 (S 16 i)), .int (i32 (S 17 i)), .int (i32 (S 18 i)), .int (i32 (S 19 i))]) (by simp only [cel, setc_at]) (ci := 0) (C := RX0) (T := TX0) (N := 7) rfl rfl (k := 0) (by decide) inT_X0 tyX0 tyX0_ok nmX0 lf_X1_144 rfl (ty := .int) (by decide +kernel) rfl rfl ?_ (oth (by simp [owner, hc])) kk
  simp [cel, setc_at, u2]
theorem gg_X0_15 (F : Fx p s m args meth c RX0 cc nL ret cy D ad A) (d : decode cc pc = .ok (.getfield 15, 3)) (hc : k < 2) (h1 : 0 ≤ i) (h2 : i < 6) (kk : V p l e R s m args below meth c nL cy D ad A kc ks Q (pc + 3) lv (.int (i32 (M k 14 i)) :: st) (M)) : V p l e R s m args below meth c nL cy D ad A kc ks Q pc lv (.ref (ad 12 k i) :: st) (M) := r_getF F d (dm12 hc h1 h2) (fs := [.int (i32 (M k 13 i)), .int (i32 (M k 14 i)), .int (i32 (M k 15 i)), .int (i32 (M k 16 i)), .int (i32 (M k 17 i)), .int (i32 (M k 18 i)), .int (i32 (M k 19 i))]) rfl (ci := 0) (C := RX0) (T := TX0) (N := 7) rfl (k := 1) (by decide) inT_X0 lf_X0_15 rfl kk
theorem gf_X0_15 (F : Fx p s m args meth c RX0 cc nL ret cy D ad A) (d : decode cc pc = .ok (.getfield 15, 3)) (hc : k < 2) (h1 : 0 ≤ i) (h2 : i < 6) (kk : V p l e R s m args below meth c nL cy D ad A kc ks Q (pc + 3) lv (.int (i32 (S 14 i)) :: st) (setc M k S)) : V p l e R s m args below meth c nL cy D ad A kc ks Q pc lv (.ref (ad 12 k i) :: st) (setc M k S) := gg_X0_15 F d hc h1 h2 (by rw [setc_at]; exact kk)
theorem pf_X0_15 (F : Fx p s m args meth c RX0 cc nL ret cy D ad A) {v : Int} (d : decode cc pc = .ok (.putfield 15, 3)) (hc : k < 2) (h1 : 0 ≤ i) (h2 : i < 6) (kk : V p l e R s m args below meth c nL cy D ad A kc ks Q (pc + 3) lv st (setc M k (u2 S 14 i v))) : V p l e R s m args below meth c nL cy D ad A kc ks Q pc lv (.int (i32 v) :: .ref (ad 12 k i) :: st) (setc M k S) := by
  refine r_putF F d (dm12 hc h1 h2) (fs := [.int (i32 (S 13 i)), .int (i32 (S 14 i)), .int (i32 (S 15 i)), .int (i32 (S 16 i)), .int (i32 (S 17 i)), .int (i32 (S 18 i)), .int (i32 (S 19 i))]) (by simp only [cel, setc_at]) (ci := 0) (C := RX0) (T := TX0) (N := 7) rfl rfl (k := 1) (by decide) inT_X0 tyX0 tyX0_ok nmX0 lf_X0_15 rfl (ty := .int) (by decide +kernel) rfl rfl ?_ (oth (by simp [owner, hc])) kk
  simp [cel, setc_at, u2]
theorem gg_X1_145 (F : Fx p s m args meth c RX1 cc nL ret cy D ad A) (d : decode cc pc = .ok (.getfield 145, 3)) (hc : k < 2) (h1 : 0 ≤ i) (h2 : i < 6) (kk : V p l e R s m args below meth c nL cy D ad A kc ks Q (pc + 3) lv (.int (i32 (M k 14 i)) :: st) (M)) : V p l e R s m args below meth c nL cy D ad A kc ks Q pc lv (.ref (ad 12 k i) :: st) (M) := r_getF F d (dm12 hc h1 h2) (fs := [.int (i32 (M k 13 i)), .int (i32 (M k 14 i)), .int (i32 (M k 15 i)), .int (i32 (M k 16 i)), .int (i32 (M k 17 i)), .int (i32 (M k 18 i)), .int (i32 (M k 19 i))]) rfl (ci := 0) (C := RX0) (T := TX0) (N := 7) rfl (k := 1) (by decide) inT_X0 lf_X1_145 rfl kk
theorem gf_X1_145 (F : Fx p s m args meth c RX1 cc nL ret cy D ad A) (d : decode cc pc = .ok (.getfield 145, 3)) (hc : k < 2) (h1 : 0 ≤ i) (h2 : i < 6) (kk : V p l e R s m args below meth c nL cy D ad A kc ks Q (pc + 3) lv (.int (i32 (S 14 i)) :: st) (setc M k S)) : V p l e R s m args below meth c nL cy D ad A kc ks Q pc lv (.ref (ad 12 k i) :: st) (setc M k S) := gg_X1_145 F d hc h1 h2 (by rw [setc_at]; exact kk)
theorem pf_X1_145 (F : Fx p s m args meth c RX1 cc nL ret cy D ad A) {v : Int} (d : decode cc pc = .ok (.putfield 145, 3)) (hc : k < 2) (h1 : 0 ≤ i) (h2 : i < 6) (kk : V p l e R s m args below meth c nL cy D ad A kc ks Q (pc + 3) lv st (setc M k (u2 S 14 i v))) : V p l e R s m args below meth c nL cy D ad A kc ks Q pc lv (.int (i32 v) :: .ref (ad 12 k i) :: st) (setc M k S) := by
  refine r_putF F d (dm12 hc h1 h2) (fs := [.int (i32 (S 13 i)), .int (i32 (S 14 i)), .int (i32 (S 15 i)), .int (i32 (S 16 i)), .int (i32 (S 17 i)), .int (i32 (S 18 i)), .int (i32 (S 19 i))]) (by simp only [cel, setc_at]) (ci := 0) (C := RX0) (T := TX0) (N := 7) rfl rfl (k := 1) (by decide) inT_X0 tyX0 tyX0_ok nmX0 lf_X1_145 rfl (ty := .int) (by decide +kernel) rfl rfl ?_ (oth (by simp [owner, hc])) kk
  simp [cel, setc_at, u2]
theorem gg_X0_18 (F : Fx p s m args meth c RX0 cc nL ret cy D ad A) (d : decode cc pc = .ok (.getfield 18, 3)) (hc : k < 2) (h1 : 0 ≤ i) (h2 : i < 6) (kk : V p l e R s m args below meth c nL cy D ad A kc ks Q (pc + 3) lv (.int (i32 (M k 15 i)) :: st) (M)) : V p l e R s m args below meth c nL cy D ad A kc ks Q pc lv (.ref (ad 12 k i) :: st) (M) := r_getF F d (dm12 hc h1 h2) (fs := [.int (i32 (M k 13 i)), .int (i32 (M k 14 i)), .int (i32 (M k 15 i)), .int (i32 (M k 16 i)), .int (i32 (M k 17 i)), .int (i32 (M k 18 i)), .int (i32 (M k 19 i))]) rfl (ci := 0) (C := RX0) (T := TX0) (N := 7) rfl (k := 2) (by decide) inT_X0 lf_X0_18 rfl kk
theorem gf_X0_18 (F : Fx p s m args meth c RX0 cc nL ret cy D ad A) (d : decode cc pc = .ok (.getfield 18, 3)) (hc : k < 2) (h1 : 0 ≤ i) (h2 : i < 6) (kk : V p l e R s m args below meth c nL cy D ad A kc ks Q (pc + 3) lv (.int (i32 (S 15 i)) :: st) (setc M k S)) : V p l e R s m args below meth c nL cy D ad A kc ks Q pc lv (.ref (ad 12 k i) :: st) (setc M k S) := gg_X0_18 F d hc h1 h2 (by rw [setc_at]; exact kk)
theorem pf_X0_18 (F : Fx p s m args meth c RX0 cc nL ret cy D ad A) {v : Int} (d : decode cc pc = .ok (.putfield 18, 3)) (hc : k < 2) (h1 : 0 ≤ i) (h2 : i < 6) (kk : V p l e R s m args below meth c nL cy D ad A kc ks Q (pc + 3) lv st (setc M k (u2 S 15 i v))) : V p l e R s m args below meth c nL cy D ad A kc ks Q pc lv (.int (i32 v) :: .ref (ad 12 k i) :: st) (setc M k S) := by
  refine r_putF F d (dm12 hc h1 h2) (fs := [.int (i32 (S 13 i)), .int (i32 (S 14 i)), .int (i32 (S 15 i)), .int (i32 (S 16 i)), .int (i32 (S 17 i)), .int (i32 (S 18 i)), .int (i32 (S 19 i))]) (by simp only [cel, setc_at]) (ci := 0) (C := RX0) (T := TX0) (N := 7) rfl rfl (k := 2) (by decide) inT_X0 tyX0 tyX0_ok nmX0 lf_X0_18 rfl (ty := .int) (by decide +kernel) rfl rfl ?_ (oth (by simp [owner, hc])) kk
  simp [cel, setc_at, u2]
theorem gg_X4_129 (F : Fx p s m args meth c RX4 cc nL ret cy D ad A) (d : decode cc pc = .ok (.getfield 129, 3)) (hc : k < 2) (h1 : 0 ≤ i) (h2 : i < 6) (kk : V p l e R s m args below meth c nL cy D ad A kc ks Q (pc + 3) lv (.int (i32 (M k 15 i)) :: st) (M)) : V p l e R s m args below meth c nL cy D ad A kc ks Q pc lv (.ref (ad 12 k i) :: st) (M) := r_getF F d (dm12 hc h1 h2) (fs := [.int (i32 (M k 13 i)), .int (i32 (M k 14 i)), .int (i32 (M k 15 i)), .int (i32 (M k 16 i)), .int (i32 (M k 17 i)), .int (i32 (M k 18 i)), .int (i32 (M k 19 i))]) rfl (ci := 0) (C := RX0) (T := TX0) (N := 7) rfl (k := 2) (by decide) inT_X0 lf_X4_129 rfl kk
theorem gf_X4_129 (F : Fx p s m args meth c RX4 cc nL ret cy D ad A) (d : decode cc pc = .ok (.getfield 129, 3)) (hc : k < 2) (h1 : 0 ≤ i) (h2 : i < 6) (kk : V p l e R s m args below meth c nL cy D ad A kc ks Q (pc + 3) lv (.int (i32 (S 15 i)) :: st) (setc M k S)) : V p l e R s m args below meth c nL cy D ad A kc ks Q pc lv (.ref (ad 12 k i) :: st) (setc M k S) := gg_X4_129 F d hc h1 h2 (by rw [setc_at]; exact kk)
theorem pf_X4_129 (F : Fx p s m args meth c RX4 cc nL ret cy D ad A) {v : Int} (d : decode cc pc = .ok (.putfield 129, 3)) (hc : k < 2) (h1 : 0 ≤ i) (h2 : i < 6) (kk : V p l e R s m args below meth c nL cy D ad A kc ks Q (pc + 3) lv st (setc M k (u2 S 15 i v))) : V p l e R s m args below meth c nL cy D ad A kc ks Q pc lv (.int (i32 v) :: .ref (ad 12 k i) :: st) (setc M k S) := by
  refine r_putF F d (dm12 hc h1 h2) (fs := [.int (i32 (S 13 i)), .int (i32 (S 14 i)), .int (i32 (S 15 i)), .int (i32 (S 16 i)), .int (i32 (S 17 i)), .int (i32 (S 18 i)), .int (i32 (S 19 i))]) (by simp only [cel, setc_at]) (ci := 0) (C := RX0) (T := TX0) (N := 7) rfl rfl (k := 2) (by decide) inT_X0 tyX0 tyX0_ok nmX0 lf_X4_129 rfl (ty := .int) (by decide +kernel) rfl rfl ?_ (oth (by simp [owner, hc])) kk
  simp [cel, setc_at, u2]
theorem gg_X1_154 (F : Fx p s m args meth c RX1 cc nL ret cy D ad A) (d : decode cc pc = .ok (.getfield 154, 3)) (hc : k < 2) (h1 : 0 ≤ i) (h2 : i < 6) (kk : V p l e R s m args below meth c nL cy D ad A kc ks Q (pc + 3) lv (.int (i32 (M k 15 i)) :: st) (M)) : V p l e R s m args below meth c nL cy D ad A kc ks Q pc lv (.ref (ad 12 k i) :: st) (M) := r_getF F d (dm12 hc h1 h2) (fs := [.int (i32 (M k 13 i)), .int (i32 (M k 14 i)), .int (i32 (M k 15 i)), .int (i32 (M k 16 i)), .int (i32 (M k 17 i)), .int (i32 (M k 18 i)), .int (i32 (M k 19 i))]) rfl (ci := 0) (C := RX0) (T := TX0) (N := 7) rfl (k := 2) (by decide) inT_X0 lf_X1_154 rfl kk
theorem gf_X1_154 (F : Fx p s m args meth c RX1 cc nL ret cy D ad A) (d : decode cc pc = .ok (.getfield 154, 3)) (hc : k < 2) (h1 : 0 ≤ i) (h2 : i < 6) (kk : V p l e R s m args below meth c nL cy D ad A kc ks Q (pc + 3) lv (.int (i32 (S 15 i)) :: st) (setc M k S)) : V p l e R s m args below meth c nL cy D ad A kc ks Q pc lv (.ref (ad 12 k i) :: st) (setc M k S) := gg_X1_154 F d hc h1 h2 (by rw [setc_at]; exact kk)
theorem pf_X1_154 (F : Fx p s m args meth c RX1 cc nL ret cy D ad A) {v : Int} (d : decode cc pc = .ok (.putfield 154, 3)) (hc : k < 2) (h1 : 0 ≤ i) (h2 : i < 6) (kk : V p l e R s m args below meth c nL cy D ad A kc ks Q (pc + 3) lv st (setc M k (u2 S 15 i v))) : V p l e R s m args below meth c nL cy D ad A kc ks Q pc lv (.int (i32 v) :: .ref (ad 12 k i) :: st) (setc M k S) := by
  refine r_putF F d (dm12 hc h1 h2) (fs := [.int (i32 (S 13 i)), .int (i32 (S 14 i)), .int (i32 (S 15 i)), .int (i32 (S 16 i)), .int (i32 (S 17 i)), .int (i32 (S 18 i)), .int (i32 (S 19 i))]) (by simp only [cel, setc_at]) (ci := 0) (C := RX0) (T := TX0) (N := 7) rfl rfl (k := 2) (by decide) inT_X0 tyX0 tyX0_ok nmX0 lf_X1_154 rfl (ty := .int) (by decide +kernel) rfl rfl ?_ (oth (by simp [owner, hc])) kk
  simp [cel, setc_at, u2]
theorem gg_X0_21 (F : Fx p s m args meth c RX0 cc nL ret cy D ad A) (d : decode cc pc = .ok (.getfield 21, 3)) (hc : k < 2) (h1 : 0 ≤ i) (h2 : i < 6) (kk : V p l e R s m args below meth c nL cy D ad A kc ks Q (pc + 3) lv (.int (i32 (M k 16 i)) :: st) (M)) : V p l e R s m args below meth c nL cy D ad A kc ks Q pc lv (.ref (ad 12 k i) :: st) (M) := r_getF F d (dm12 hc h1 h2) (fs := [.int (i32 (M k 13 i)), .int (i32 (M k 14 i)), .int (i32 (M k 15 i)), .int (i32 (M k 16 i)), .int (i32 (M k 17 i)), .int (i32 (M k 18 i)), .int (i32 (M k 19 i))]) rfl (ci := 0) (C := RX0) (T := TX0) (N := 7) rfl (k := 3) (by decide) inT_X0 lf_X0_21 rfl kk
theorem gf_X0_21 (F : Fx p s m args meth c RX0 cc nL ret cy D ad A) (d : decode cc pc = .ok (.getfield 21, 3)) (hc : k < 2) (h1 : 0 ≤ i) (h2 : i < 6) (kk : V p l e R s m args below meth c nL cy D ad A kc ks Q (pc + 3) lv (.int (i32 (S 16 i)) :: st) (setc M k S)) : V p l e R s m args below meth c nL cy D ad A kc ks Q pc lv (.ref (ad 12 k i) :: st) (setc M k S) := gg_X0_21 F d hc h1 h2 (by rw [setc_at]; exact kk)
theorem pf_X0_21 (F : Fx p s m args meth c RX0 cc nL ret cy D ad A) {v : Int} (d : decode cc pc = .ok (.putfield 21, 3)) (hc : k < 2) (h1 : 0 ≤ i) (h2 : i < 6) (kk : V p l e R s m args below meth c nL cy D ad A kc ks Q (pc + 3) lv st (setc M k (u2 S 16 i v))) : V p l e R s m args below meth c nL cy D ad A kc ks Q pc lv (.int (i32 v) :: .ref (ad 12 k i) :: st) (setc M k S) := by
  refine r_putF F d (dm12 hc h1 h2) (fs := [.int (i32 (S 13 i)), .int (i32 (S 14 i)), .int (i32 (S 15 i)), .int (i32 (S 16 i)), .int (i32 (S 17 i)), .int (i32 (S 18 i)), .int (i32 (S 19 i))]) (by simp only [cel, setc_at]) (ci := 0) (C := RX0) (T := TX0) (N := 7) rfl rfl (k := 3) (by decide) inT_X0 tyX0 tyX0_ok nmX0 lf_X0_21 rfl (ty := .int) (by decide +kernel) rfl rfl ?_ (oth (by simp [owner, hc])) kk
  simp [cel, setc_at, u2]
theorem gg_X1_157 (F : Fx p s m args meth c RX1 cc nL ret cy D ad A) (d : decode cc pc = .ok (.getfield 157, 3)) (hc : k < 2) (h1 : 0 ≤ i) (h2 : i < 6) (kk : V p l e R s m args below meth c nL cy D ad A kc ks Q (pc + 3) lv (.int (i32 (M k 16 i)) :: st) (M)) : V p l e R s m args below meth c nL cy D ad A kc ks Q pc lv (.ref (ad 12 k i) :: st) (M) := r_getF F d (dm12 hc h1 h2) (fs := [.int (i32 (M k 13 i)), .int (i32 (M k 14 i)), .int (i32 (M k 15 i)), .int (i32 (M k 16 i)), .int (i32 (M k 17 i)), .int (i32 (M k 18 i)), .int (i32 (M k 19 i))]) rfl (ci := 0) (C := RX0) (T := TX0) (N := 7) rfl (k := 3) (by decide) inT_X0 lf_X1_157 rfl kk
theorem gf_X1_157 (F : Fx p s m args meth c RX1 cc nL ret cy D ad A) (d : decode cc pc = .ok (.getfield 157, 3)) (hc : k < 2) (h1 : 0 ≤ i) (h2 : i < 6) (kk : V p l e R s m args below meth c nL cy D ad A kc ks Q (pc + 3) lv (.int (i32 (S 16 i)) :: st) (setc M k S)) : V p l e R s m args below meth c nL cy D ad A kc ks Q pc lv (.ref (ad 12 k i) :: st) (setc M k S) := gg_X1_157 F d hc h1 h2 (by rw [setc_at]; exact kk)
theorem pf_X1_157 (F : Fx p s m args meth c RX1 cc nL ret cy D ad A) {v : Int} (d : decode cc pc = .ok (.putfield 157, 3)) (hc : k < 2) (h1 : 0 ≤ i) (h2 : i < 6) (kk : V p l e R s m args below meth c nL cy D ad A kc ks Q (pc + 3) lv st (setc M k (u2 S 16 i v))) : V p l e R s m args below meth c nL cy D ad A kc ks Q pc lv (.int (i32 v) :: .ref (ad 12 k i) :: st) (setc M k S) := by
  refine r_putF F d (dm12 hc h1 h2) (fs := [.int (i32 (S 13 i)), .int (i32 (S 14 i)), .int (i32 (S 15 i)), .int (i32 (S 16 i)), .int (i32 (S 17 i)), .int (i32 (S 18 i)), .int (i32 (S 19 i))]) (by simp only [cel, setc_at]) (ci := 0) (C := RX0) (T := TX0) (N := 7) rfl rfl (k := 3) (by decide) inT_X0 tyX0 tyX0_ok nmX0 lf_X1_157 rfl (ty := .int) (by decide +kernel) rfl rfl ?_ (oth (by simp [owner, hc])) kk
  simp [cel, setc_at, u2]
theorem gg_X0_24 (F : Fx p s m args meth c RX0 cc nL ret cy D ad A) (d : decode cc pc = .ok (.getfield 24, 3)) (hc : k < 2) (h1 : 0 ≤ i) (h2 : i < 6) (kk : V p l e R s m args below meth c nL cy D ad A kc ks Q (pc + 3) lv (.int (i32 (M k 17 i)) :: st) (M)) : V p l e R s m args below meth c nL cy D ad A kc ks Q pc lv (.ref (ad 12 k i) :: st) (M) := r_getF F d (dm12 hc h1 h2) (fs := [.int (i32 (M k 13 i)), .int (i32 (M k 14 i)), .int (i32 (M k 15 i)), .int (i32 (M k 16 i)), .int (i32 (M k 17 i)), .int (i32 (M k 18 i)), .int (i32 (M k 19 i))]) rfl (ci := 0) (C := RX0) (T := TX0) (N := 7) rfl (k := 4) (by decide) inT_X0 lf_X0_24 rfl kk
theorem gf_X0_24 (F : Fx p s m args meth c RX0 cc nL ret cy D ad A) (d : decode cc pc = .ok (.getfield 24, 3)) (hc : k < 2) (h1 : 0 ≤ i) (h2 : i < 6) (kk : V p l e R s m args below meth c nL cy D ad A kc ks Q (pc + 3) lv (.int (i32 (S 17 i)) :: st) (setc M k S)) : V p l e R s m args below meth c nL cy D ad A kc ks Q pc lv (.ref (ad 12 k i) :: st) (setc M k S) := gg_X0_24 F d hc h1 h2 (by rw [setc_at]; exact kk)
theorem pf_X0_24 (F : Fx p s m args meth c RX0 cc nL ret cy D ad A) {v : Int} (d : decode cc pc = .ok (.putfield 24, 3)) (hc : k < 2) (h1 : 0 ≤ i) (h2 : i < 6) (hz : v = 0 ∨ v = 1) (kk : V p l e R s m args below meth c nL cy D ad A kc ks Q (pc + 3) lv st (setc M k (u2 S 17 i v))) : V p l e R s m args below meth c nL cy D ad A kc ks Q pc lv (.int (i32 v) :: .ref (ad 12 k i) :: st) (setc M k S) := by
  refine r_putF F d (dm12 hc h1 h2) (fs := [.int (i32 (S 13 i)), .int (i32 (S 14 i)), .int (i32 (S 15 i)), .int (i32 (S 16 i)), .int (i32 (S 17 i)), .int (i32 (S 18 i)), .int (i32 (S 19 i))]) (by simp only [cel, setc_at]) (ci := 0) (C := RX0) (T := TX0) (N := 7) rfl rfl (k := 4) (by decide) inT_X0 tyX0 tyX0_ok nmX0 lf_X0_24 rfl (ty := .boolean) (by decide +kernel) (by rcases hz with rfl | rfl <;> rfl) (by rcases hz with rfl | rfl <;> rfl) ?_ (oth (by simp [owner, hc])) kk
  simp [cel, setc_at, u2]
theorem gg_X1_133 (F : Fx p s m args meth c RX1 cc nL ret cy D ad A) (d : decode cc pc = .ok (.getfield 133, 3)) (hc : k < 2) (h1 : 0 ≤ i) (h2 : i < 6) (kk : V p l e R s m args below meth c nL cy D ad A kc ks Q (pc + 3) lv (.int (i32 (M k 17 i)) :: st) (M)) : V p l e R s m args below meth c nL cy D ad A kc ks Q pc lv (.ref (ad 12 k i) :: st) (M) := r_getF F d (dm12 hc h1 h2) (fs := [.int (i32 (M k 13 i)), .int (i32 (M k 14 i)), .int (i32 (M k 15 i)), .int (i32 (M k 16 i)), .int (i32 (M k 17 i)), .int (i32 (M k 18 i)), .int (i32 (M k 19 i))]) rfl (ci := 0) (C := RX0) (T := TX0) (N := 7) rfl (k := 4) (by decide) inT_X0 lf_X1_133 rfl kk
theorem gf_X1_133 (F : Fx p s m args meth c RX1 cc nL ret cy D ad A) (d : decode cc pc = .ok (.getfield 133, 3)) (hc : k < 2) (h1 : 0 ≤ i) (h2 : i < 6) (kk : V p l e R s m args below meth c nL cy D ad A kc ks Q (pc + 3) lv (.int (i32 (S 17 i)) :: st) (setc M k S)) : V p l e R s m args below meth c nL cy D ad A kc ks Q pc lv (.ref (ad 12 k i) :: st) (setc M k S) := gg_X1_133 F d hc h1 h2 (by rw [setc_at]; exact kk)
theorem pf_X1_133 (F : Fx p s m args meth c RX1 cc nL ret cy D ad A) {v : Int} (d : decode cc pc = .ok (.putfield 133, 3)) (hc : k < 2) (h1 : 0 ≤ i) (h2 : i < 6) (hz : v = 0 ∨ v = 1) (kk : V p l e R s m args below meth c nL cy D ad A kc ks Q (pc + 3) lv st (setc M k (u2 S 17 i v))) : V p l e R s m args below meth c nL cy D ad A kc ks Q pc lv (.int (i32 v) :: .ref (ad 12 k i) :: st) (setc M k S) := by
  refine r_putF F d (dm12 hc h1 h2) (fs := [.int (i32 (S 13 i)), .int (i32 (S 14 i)), .int (i32 (S 15 i)), .int (i32 (S 16 i)), .int (i32 (S 17 i)), .int (i32 (S 18 i)), .int (i32 (S 19 i))]) (by simp only [cel, setc_at]) (ci := 0) (C := RX0) (T := TX0) (N := 7) rfl rfl (k := 4) (by decide) inT_X0 tyX0 tyX0_ok nmX0 lf_X1_133 rfl (ty := .boolean) (by decide +kernel) (by rcases hz with rfl | rfl <;> rfl) (by rcases hz with rfl | rfl <;> rfl) ?_ (oth (by simp [owner, hc])) kk
  simp [cel, setc_at, u2]
theorem gg_X0_28 (F : Fx p s m args meth c RX0 cc nL ret cy D ad A) (d : decode cc pc = .ok (.getfield 28, 3)) (hc : k < 2) (h1 : 0 ≤ i) (h2 : i < 6) (kk : V p l e R s m args below meth c nL cy D ad A kc ks Q (pc + 3) lv (.int (i32 (M k 18 i)) :: st) (M)) : V p l e R s m args below meth c nL cy D ad A kc ks Q pc lv (.ref (ad 12 k i) :: st) (M) := r_getF F d (dm12 hc h1 h2) (fs := [.int (i32 (M k 13 i)), .int (i32 (M k 14 i)), .int (i32 (M k 15 i)), .int (i32 (M k 16 i)), .int (i32 (M k 17 i)), .int (i32 (M k 18 i)), .int (i32 (M k 19 i))]) rfl (ci := 0) (C := RX0) (T := TX0) (N := 7) rfl (k := 5) (by decide) inT_X0 lf_X0_28 rfl kk
theorem gf_X0_28 (F : Fx p s m args meth c RX0 cc nL ret cy D ad A) (d : decode cc pc = .ok (.getfield 28, 3)) (hc : k < 2) (h1 : 0 ≤ i) (h2 : i < 6) (kk : V p l e R s m args below meth c nL cy D ad A kc ks Q (pc + 3) lv (.int (i32 (S 18 i)) :: st) (setc M k S)) : V p l e R s m args below meth c nL cy D ad A kc ks Q pc lv (.ref (ad 12 k i) :: st) (setc M k S) := gg_X0_28 F d hc h1 h2 (by rw [setc_at]; exact kk)
theorem pf_X0_28 (F : Fx p s m args meth c RX0 cc nL ret cy D ad A) {v : Int} (d : decode cc pc = .ok (.putfield 28, 3)) (hc : k < 2) (h1 : 0 ≤ i) (h2 : i < 6) (kk : V p l e R s m args below meth c nL cy D ad A kc ks Q (pc + 3) lv st (setc M k (u2 S 18 i v))) : V p l e R s m args below meth c nL cy D ad A kc ks Q pc lv (.int (i32 v) :: .ref (ad 12 k i) :: st) (setc M k S) := by
  refine r_putF F d (dm12 hc h1 h2) (fs := [.int (i32 (S 13 i)), .int (i32 (S 14 i)), .int (i32 (S 15 i)), .int (i32 (S 16 i)), .int (i32 (S 17 i)), .int (i32 (S 18 i)), .int (i32 (S 19 i))]) (by simp only [cel, setc_at]) (ci := 0) (C := RX0) (T := TX0) (N := 7) rfl rfl (k := 5) (by decide) inT_X0 tyX0 tyX0_ok nmX0 lf_X0_28 rfl (ty := .int) (by decide +kernel) rfl rfl ?_ (oth (by simp [owner, hc])) kk
  simp [cel, setc_at, u2]
theorem gg_X1_130 (F : Fx p s m args meth c RX1 cc nL ret cy D ad A) (d : decode cc pc = .ok (.getfield 130, 3)) (hc : k < 2) (h1 : 0 ≤ i) (h2 : i < 6) (kk : V p l e R s m args below meth c nL cy D ad A kc ks Q (pc + 3) lv (.int (i32 (M k 18 i)) :: st) (M)) : V p l e R s m args below meth c nL cy D ad A kc ks Q pc lv (.ref (ad 12 k i) :: st) (M) := r_getF F d (dm12 hc h1 h2) (fs := [.int (i32 (M k 13 i)), .int (i32 (M k 14 i)), .int (i32 (M k 15 i)), .int (i32 (M k 16 i)), .int (i32 (M k 17 i)), .int (i32 (M k 18 i)), .int (i32 (M k 19 i))]) rfl (ci := 0) (C := RX0) (T := TX0) (N := 7) rfl (k := 5) (by decide) inT_X0 lf_X1_130 rfl kk
theorem gf_X1_130 (F : Fx p s m args meth c RX1 cc nL ret cy D ad A) (d : decode cc pc = .ok (.getfield 130, 3)) (hc : k < 2) (h1 : 0 ≤ i) (h2 : i < 6) (kk : V p l e R s m args below meth c nL cy D ad A kc ks Q (pc + 3) lv (.int (i32 (S 18 i)) :: st) (setc M k S)) : V p l e R s m args below meth c nL cy D ad A kc ks Q pc lv (.ref (ad 12 k i) :: st) (setc M k S) := gg_X1_130 F d hc h1 h2 (by rw [setc_at]; exact kk)
theorem pf_X1_130 (F : Fx p s m args meth c RX1 cc nL ret cy D ad A) {v : Int} (d : decode cc pc = .ok (.putfield 130, 3)) (hc : k < 2) (h1 : 0 ≤ i) (h2 : i < 6) (kk : V p l e R s m args below meth c nL cy D ad A kc ks Q (pc + 3) lv st (setc M k (u2 S 18 i v))) : V p l e R s m args below meth c nL cy D ad A kc ks Q pc lv (.int (i32 v) :: .ref (ad 12 k i) :: st) (setc M k S) := by
  refine r_putF F d (dm12 hc h1 h2) (fs := [.int (i32 (S 13 i)), .int (i32 (S 14 i)), .int (i32 (S 15 i)), .int (i32 (S 16 i)), .int (i32 (S 17 i)), .int (i32 (S 18 i)), .int (i32 (S 19 i))]) (by simp only [cel, setc_at]) (ci := 0) (C := RX0) (T := TX0) (N := 7) rfl rfl (k := 5) (by decide) inT_X0 tyX0 tyX0_ok nmX0 lf_X1_130 rfl (ty := .int) (by decide +kernel) rfl rfl ?_ (oth (by simp [owner, hc])) kk
  simp [cel, setc_at, u2]
theorem gg_X4_189 (F : Fx p s m args meth c RX4 cc nL ret cy D ad A) (d : decode cc pc = .ok (.getfield 189, 3)) (hc : k < 2) (h1 : 0 ≤ i) (h2 : i < 6) (kk : V p l e R s m args below meth c nL cy D ad A kc ks Q (pc + 3) lv (.int (i32 (M k 18 i)) :: st) (M)) : V p l e R s m args below meth c nL cy D ad A kc ks Q pc lv (.ref (ad 12 k i) :: st) (M) := r_getF F d (dm12 hc h1 h2) (fs := [.int (i32 (M k 13 i)), .int (i32 (M k 14 i)), .int (i32 (M k 15 i)), .int (i32 (M k 16 i)), .int (i32 (M k 17 i)), .int (i32 (M k 18 i)), .int (i32 (M k 19 i))]) rfl (ci := 0) (C := RX0) (T := TX0) (N := 7) rfl (k := 5) (by decide) inT_X0 lf_X4_189 rfl kk
theorem gf_X4_189 (F : Fx p s m args meth c RX4 cc nL ret cy D ad A) (d : decode cc pc = .ok (.getfield 189, 3)) (hc : k < 2) (h1 : 0 ≤ i) (h2 : i < 6) (kk : V p l e R s m args below meth c nL cy D ad A kc ks Q (pc + 3) lv (.int (i32 (S 18 i)) :: st) (setc M k S)) : V p l e R s m args below meth c nL cy D ad A kc ks Q pc lv (.ref (ad 12 k i) :: st) (setc M k S) := gg_X4_189 F d hc h1 h2 (by rw [setc_at]; exact kk)
theorem pf_X4_189 (F : Fx p s m args meth c RX4 cc nL ret cy D ad A) {v : Int} (d : decode cc pc = .ok (.putfield 189, 3)) (hc : k < 2) (h1 : 0 ≤ i) (h2 : i < 6) (kk : V p l e R s m args below meth c nL cy D ad A kc ks Q (pc + 3) lv st (setc M k (u2 S 18 i v))) : V p l e R s m args below meth c nL cy D ad A kc ks Q pc lv (.int (i32 v) :: .ref (ad 12 k i) :: st) (setc M k S) := by
  refine r_putF F d (dm12 hc h1 h2) (fs := [.int (i32 (S 13 i)), .int (i32 (S 14 i)), .int (i32 (S 15 i)), .int (i32 (S 16 i)), .int (i32 (S 17 i)), .int (i32 (S 18 i)), .int (i32 (S 19 i))]) (by simp only [cel, setc_at]) (ci := 0) (C := RX0) (T := TX0) (N := 7) rfl rfl (k := 5) (by decide) inT_X0 tyX0 tyX0_ok nmX0 lf_X4_189 rfl (ty := .int) (by decide +kernel) rfl rfl ?_ (oth (by simp [owner, hc])) kk
  simp [cel, setc_at, u2]
theorem gg_X0_31 (F : Fx p s m args meth c RX0 cc nL ret cy D ad A) (d : decode cc pc = .ok (.getfield 31, 3)) (hc : k < 2) (h1 : 0 ≤ i) (h2 : i < 6) (kk : V p l e R s m args below meth c nL cy D ad A kc ks Q (pc + 3) lv (.int (i32 (M k 19 i)) :: st) (M)) : V p l e R s m args below meth c nL cy D ad A kc ks Q pc lv (.ref (ad 12 k i) :: st) (M) := r_getF F d (dm12 hc h1 h2) (fs := [.int (i32 (M k 13 i)), .int (i32 (M k 14 i)), .int (i32 (M k 15 i)), .int (i32 (M k 16 i)), .int (i32 (M k 17 i)), .int (i32 (M k 18 i)), .int (i32 (M k 19 i))]) rfl (ci := 0) (C := RX0) (T := TX0) (N := 7) rfl (k := 6) (by decide) inT_X0 lf_X0_31 rfl kk
theorem gf_X0_31 (F : Fx p s m args meth c RX0 cc nL ret cy D ad A) (d : decode cc pc = .ok (.getfield 31, 3)) (hc : k < 2) (h1 : 0 ≤ i) (h2 : i < 6) (kk : V p l e R s m args below meth c nL cy D ad A kc ks Q (pc + 3) lv (.int (i32 (S 19 i)) :: st) (setc M k S)) : V p l e R s m args below meth c nL cy D ad A kc ks Q pc lv (.ref (ad 12 k i) :: st) (setc M k S) := gg_X0_31 F d hc h1 h2 (by rw [setc_at]; exact kk)
theorem pf_X0_31 (F : Fx p s m args meth c RX0 cc nL ret cy D ad A) {v : Int} (d : decode cc pc = .ok (.putfield 31, 3)) (hc : k < 2) (h1 : 0 ≤ i) (h2 : i < 6) (kk : V p l e R s m args below meth c nL cy D ad A kc ks Q (pc + 3) lv st (setc M k (u2 S 19 i v))) : V p l e R s m args below meth c nL cy D ad A kc ks Q pc lv (.int (i32 v) :: .ref (ad 12 k i) :: st) (setc M k S) := by
  refine r_putF F d (dm12 hc h1 h2) (fs := [.int (i32 (S 13 i)), .int (i32 (S 14 i)), .int (i32 (S 15 i)), .int (i32 (S 16 i)), .int (i32 (S 17 i)), .int (i32 (S 18 i)), .int (i32 (S 19 i))]) (by simp only [cel, setc_at]) (ci := 0) (C := RX0) (T := TX0) (N := 7) rfl rfl (k := 6) (by decide) inT_X0 tyX0 tyX0_ok nmX0 lf_X0_31 rfl (ty := .int) (by decide +kernel) rfl rfl ?_ (oth (by simp [owner, hc])) kk
  simp [cel, setc_at, u2]
theorem gg_X1_148 (F : Fx p s m args meth c RX1 cc nL ret cy D ad A) (d : decode cc pc = .ok (.getfield 148, 3)) (hc : k < 2) (h1 : 0 ≤ i) (h2 : i < 6) (kk : V p l e R s m args below meth c nL cy D ad A kc ks Q (pc + 3) lv (.int (i32 (M k 19 i)) :: st) (M)) : V p l e R s m args below meth c nL cy D ad A kc ks Q pc lv (.ref (ad 12 k i) :: st) (M) := r_getF F d (dm12 hc h1 h2) (fs := [.int (i32 (M k 13 i)), .int (i32 (M k 14 i)), .int (i32 (M k 15 i)), .int (i32 (M k 16 i)), .int (i32 (M k 17 i)), .int (i32 (M k 18 i)), .int (i32 (M k 19 i))]) rfl (ci := 0) (C := RX0) (T := TX0) (N := 7) rfl (k := 6) (by decide) inT_X0 lf_X1_148 rfl kk
theorem gf_X1_148 (F : Fx p s m args meth c RX1 cc nL ret cy D ad A) (d : decode cc pc = .ok (.getfield 148, 3)) (hc : k < 2) (h1 : 0 ≤ i) (h2 : i < 6) (kk : V p l e R s m args below meth c nL cy D ad A kc ks Q (pc + 3) lv (.int (i32 (S 19 i)) :: st) (setc M k S)) : V p l e R s m args below meth c nL cy D ad A kc ks Q pc lv (.ref (ad 12 k i) :: st) (setc M k S) := gg_X1_148 F d hc h1 h2 (by rw [setc_at]; exact kk)
theorem pf_X1_148 (F : Fx p s m args meth c RX1 cc nL ret cy D ad A) {v : Int} (d : decode cc pc = .ok (.putfield 148, 3)) (hc : k < 2) (h1 : 0 ≤ i) (h2 : i < 6) (kk : V p l e R s m args below meth c nL cy D ad A kc ks Q (pc + 3) lv st (setc M k (u2 S 19 i v))) : V p l e R s m args below meth c nL cy D ad A kc ks Q pc lv (.int (i32 v) :: .ref (ad 12 k i) :: st) (setc M k S) := by
  refine r_putF F d (dm12 hc h1 h2) (fs := [.int (i32 (S 13 i)), .int (i32 (S 14 i)), .int (i32 (S 15 i)), .int (i32 (S 16 i)), .int (i32 (S 17 i)), .int (i32 (S 18 i)), .int (i32 (S 19 i))]) (by simp only [cel, setc_at]) (ci := 0) (C := RX0) (T := TX0) (N := 7) rfl rfl (k := 6) (by decide) inT_X0 tyX0 tyX0_ok nmX0 lf_X1_148 rfl (ty := .int) (by decide +kernel) rfl rfl ?_ (oth (by simp [owner, hc])) kk
  simp [cel, setc_at, u2]
theorem gf_X1_9 (F : Fx p s m args meth c RX1 cc nL ret cy D ad A) (d : decode cc pc = .ok (.getfield 9, 3)) (hc : k < 2) (kk : V p l e R s m args below meth c nL cy D ad A kc ks Q (pc + 3) lv (.ref (ad 2 k 0) :: st) (M)) : V p l e R s m args below meth c nL cy D ad A kc ks Q pc lv (.ref (ad 1 k 0) :: st) (M) := r_getF F d (dm1 ⟨by decide, by decide⟩ hc) (fs := [.ref (ad 2 k 0), .ref (ad 3 k 0), .ref (ad 4 k 0), .ref (ad 5 k 0), .ref (ad 6 k 0), .ref (ad 7 k 0), .ref (ad 8 k 0), .int (i32 (M k 20 1)), .int (i32 (M k 20 2)), .int (i32 (M k 20 3)), .int (i32 (M k 20 0)), .int (i32 (M k 20 4)), .int (i32 (M k 20 5))]) rfl (ci := 1) (C := RX1) (T := TX1) (N := 13) rfl (k := 0) (by decide) inT_X1 lf_X1_9 rfl kk
theorem gf_X4_39 (F : Fx p s m args meth c RX4 cc nL ret cy D ad A) (d : decode cc pc = .ok (.getfield 39, 3)) (hc : k < 2) (kk : V p l e R s m args below meth c nL cy D ad A kc ks Q (pc + 3) lv (.ref (ad 2 k 0) :: st) (M)) : V p l e R s m args below meth c nL cy D ad A kc ks Q pc lv (.ref (ad 1 k 0) :: st) (M) := r_getF F d (dm1 ⟨by decide, by decide⟩ hc) (fs := [.ref (ad 2 k 0), .ref (ad 3 k 0), .ref (ad 4 k 0), .ref (ad 5 k 0), .ref (ad 6 k 0), .ref (ad 7 k 0), .ref (ad 8 k 0), .int (i32 (M k 20 1)), .int (i32 (M k 20 2)), .int (i32 (M k 20 3)), .int (i32 (M k 20 0)), .int (i32 (M k 20 4)), .int (i32 (M k 20 5))]) rfl (ci := 1) (C := RX1) (T := TX1) (N := 13) rfl (k := 0) (by decide) inT_X1 lf_X4_39 rfl kk
theorem gf_X1_15 (F : Fx p s m args meth c RX1 cc nL ret cy D ad A) (d : decode cc pc = .ok (.getfield 15, 3)) (hc : k < 2) (kk : V p l e R s m args below meth c nL cy D ad A kc ks Q (pc + 3) lv (.ref (ad 3 k 0) :: st) (M)) : V p l e R s m args below meth c nL cy D ad A kc ks Q pc lv (.ref (ad 1 k 0) :: st) (M) := r_getF F d (dm1 ⟨by decide, by decide⟩ hc) (fs := [.ref (ad 2 k 0), .ref (ad 3 k 0), .ref (ad 4 k 0), .ref (ad 5 k 0), .ref (ad 6 k 0), .ref (ad 7 k 0), .ref (ad 8 k 0), .int (i32 (M k 20 1)), .int (i32 (M k 20 2)), .int (i32 (M k 20 3)), .int (i32 (M k 20 0)), .int (i32 (M k 20 4)), .int (i32 (M k 20 5))]) rfl (ci := 1) (C := RX1) (T := TX1) (N := 13) rfl (k := 1) (by decide) inT_X1 lf_X1_15 rfl kk
theorem gf_X4_30 (F : Fx p s m args meth c RX4 cc nL ret cy D ad A) (d : decode cc pc = .ok (.getfield 30, 3)) (hc : k < 2) (kk : V p l e R s m args below meth c nL cy D ad A kc ks Q (pc + 3) lv (.ref (ad 3 k 0) :: st) (M)) : V p l e R s m args below meth c nL cy D ad A kc ks Q pc lv (.ref (ad 1 k 0) :: st) (M) := r_getF F d (dm1 ⟨by decide, by decide⟩ hc) (fs := [.ref (ad 2 k 0), .ref (ad 3 k 0), .ref (ad 4 k 0), .ref (ad 5 k 0), .ref (ad 6 k 0), .ref (ad 7 k 0), .ref (ad 8 k 0), .int (i32 (M k 20 1)), .int (i32 (M k 20 2)), .int (i32 (M k 20 3)), .int (i32 (M k 20 0)), .int (i32 (M k 20 4)), .int (i32 (M k 20 5))]) rfl (ci := 1) (C := RX1) (T := TX1) (N := 13) rfl (k := 1) (by decide) inT_X1 lf_X4_30 rfl kk
theorem gf_X1_18 (F : Fx p s m args meth c RX1 cc nL ret cy D ad A) (d : decode cc pc = .ok (.getfield 18, 3)) (hc : k < 2) (kk : V p l e R s m args below meth c nL cy D ad A kc ks Q (pc + 3) lv (.ref (ad 4 k 0) :: st) (M)) : V p l e R s m args below meth c nL cy D ad A kc ks Q pc lv (.ref (ad 1 k 0) :: st) (M) := r_getF F d (dm1 ⟨by decide, by decide⟩ hc) (fs := [.ref (ad 2 k 0), .ref (ad 3 k 0), .ref (ad 4 k 0), .ref (ad 5 k 0), .ref (ad 6 k 0), .ref (ad 7 k 0), .ref (ad 8 k 0), .int (i32 (M k 20 1)), .int (i32 (M k 20 2)), .int (i32 (M k 20 3)), .int (i32 (M k 20 0)), .int (i32 (M k 20 4)), .int (i32 (M k 20 5))]) rfl (ci := 1) (C := RX1) (T := TX1) (N := 13) rfl (k := 2) (by decide) inT_X1 lf_X1_18 rfl kk
theorem gf_X4_48 (F : Fx p s m args meth c RX4 cc nL ret cy D ad A) (d : decode cc pc = .ok (.getfield 48, 3)) (hc : k < 2) (kk : V p l e R s m args below meth c nL cy D ad A kc ks Q (pc + 3) lv (.ref (ad 4 k 0) :: st) (M)) : V p l e R s m args below meth c nL cy D ad A kc ks Q pc lv (.ref (ad 1 k 0) :: st) (M) := r_getF F d (dm1 ⟨by decide, by decide⟩ hc) (fs := [.ref (ad 2 k 0), .ref (ad 3 k 0), .ref (ad 4 k 0), .ref (ad 5 k 0), .ref (ad 6 k 0), .ref (ad 7 k 0), .ref (ad 8 k 0), .int (i32 (M k 20 1)), .int (i32 (M k 20 2)), .int (i32 (M k 20 3)), .int (i32 (M k 20 0)), .int (i32 (M k 20 4)), .int (i32 (M k 20 5))]) rfl (ci := 1) (C := RX1) (T := TX1) (N := 13) rfl (k := 2) (by decide) inT_X1 lf_X4_48 rfl kk
theorem gf_X1_21 (F : Fx p s m args meth c RX1 cc nL ret cy D ad A) (d : decode cc pc = .ok (.getfield 21, 3)) (hc : k < 2) (kk : V p l e R s m args below meth c nL cy D ad A kc ks Q (pc + 3) lv (.ref (ad 5 k 0) :: st) (M)) : V p l e R s m args below meth c nL cy D ad A kc ks Q pc lv (.ref (ad 1 k 0) :: st) (M) := r_getF F d (dm1 ⟨by decide, by decide⟩ hc) (fs := [.ref (ad 2 k 0), .ref (ad 3 k 0), .ref (ad 4 k 0), .ref (ad 5 k 0), .ref (ad 6 k 0), .ref (ad 7 k 0), .ref (ad 8 k 0), .int (i32 (M k 20 1)), .int (i32 (M k 20 2)), .int (i32 (M k 20 3)), .int (i32 (M k 20 0)), .int (i32 (M k 20 4)), .int (i32 (M k 20 5))]) rfl (ci := 1) (C := RX1) (T := TX1) (N := 13) rfl (k := 3) (by decide) inT_X1 lf_X1_21 rfl kk
theorem gf_X4_51 (F : Fx p s m args meth c RX4 cc nL ret cy D ad A) (d : decode cc pc = .ok (.getfield 51, 3)) (hc : k < 2) (kk : V p l e R s m args below meth c nL cy D ad A kc ks Q (pc + 3) lv (.ref (ad 5 k 0) :: st) (M)) : V p l e R s m args below meth c nL cy D ad A kc ks Q pc lv (.ref (ad 1 k 0) :: st) (M) := r_getF F d (dm1 ⟨by decide, by decide⟩ hc) (fs := [.ref (ad 2 k 0), .ref (ad 3 k 0), .ref (ad 4 k 0), .ref (ad 5 k 0), .ref (ad 6 k 0), .ref (ad 7 k 0), .ref (ad 8 k 0), .int (i32 (M k 20 1)), .int (i32 (M k 20 2)), .int (i32 (M k 20 3)), .int (i32 (M k 20 0)), .int (i32 (M k 20 4)), .int (i32 (M k 20 5))]) rfl (ci := 1) (C := RX1) (T := TX1) (N := 13) rfl (k := 3) (by decide) inT_X1 lf_X4_51 rfl kk
theorem gf_X1_26 (F : Fx p s m args meth c RX1 cc nL ret cy D ad A) (d : decode cc pc = .ok (.getfield 26, 3)) (hc : k < 2) (kk : V p l e R s m args below meth c nL cy D ad A kc ks Q (pc + 3) lv (.ref (ad 6 k 0) :: st) (M)) : V p l e R s m args below meth c nL cy D ad A kc ks Q pc lv (.ref (ad 1 k 0) :: st) (M) := r_getF F d (dm1 ⟨by decide, by decide⟩ hc) (fs := [.ref (ad 2 k 0), .ref (ad 3 k 0), .ref (ad 4 k 0), .ref (ad 5 k 0), .ref (ad 6 k 0), .ref (ad 7 k 0), .ref (ad 8 k 0), .int (i32 (M k 20 1)), .int (i32 (M k 20 2)), .int (i32 (M k 20 3)), .int (i32 (M k 20 0)), .int (i32 (M k 20 4)), .int (i32 (M k 20 5))]) rfl (ci := 1) (C := RX1) (T := TX1) (N := 13) rfl (k := 4) (by decide) inT_X1 lf_X1_26 rfl kk
theorem gf_X4_66 (F : Fx p s m args meth c RX4 cc nL ret cy D ad A) (d : decode cc pc = .ok (.getfield 66, 3)) (hc : k < 2) (kk : V p l e R s m args below meth c nL cy D ad A kc ks Q (pc + 3) lv (.ref (ad 6 k 0) :: st) (M)) : V p l e R s m args below meth c nL cy D ad A kc ks Q pc lv (.ref (ad 1 k 0) :: st) (M) := r_getF F d (dm1 ⟨by decide, by decide⟩ hc) (fs := [.ref (ad 2 k 0), .ref (ad 3 k 0), .ref (ad 4 k 0), .ref (ad 5 k 0), .ref (ad 6 k 0), .ref (ad 7 k 0), .ref (ad 8 k 0), .int (i32 (M k 20 1)), .int (i32 (M k 20 2)), .int (i32 (M k 20 3)), .int (i32 (M k 20 0)), .int (i32 (M k 20 4)), .int (i32 (M k 20 5))]) rfl (ci := 1) (C := RX1) (T := TX1) (N := 13) rfl (k := 4) (by decide) inT_X1 lf_X4_66 rfl kk
theorem gf_X1_32 (F : Fx p s m args meth c RX1 cc nL ret cy D ad A) (d : decode cc pc = .ok (.getfield 32, 3)) (hc : k < 2) (kk : V p l e R s m args below meth c nL cy D ad A kc ks Q (pc + 3) lv (.ref (ad 7 k 0) :: st) (M)) : V p l e R s m args below meth c nL cy D ad A kc ks Q pc lv (.ref (ad 1 k 0) :: st) (M) := r_getF F d (dm1 ⟨by decide, by decide⟩ hc) (fs := [.ref (ad 2 k 0), .ref (ad 3 k 0), .ref (ad 4 k 0), .ref (ad 5 k 0), .ref (ad 6 k 0), .ref (ad 7 k 0), .ref (ad 8 k 0), .int (i32 (M k 20 1)), .int (i32 (M k 20 2)), .int (i32 (M k 20 3)), .int (i32 (M k 20 0)), .int (i32 (M k 20 4)), .int (i32 (M k 20 5))]) rfl (ci := 1) (C := RX1) (T := TX1) (N := 13) rfl (k := 5) (by decide) inT_X1 lf_X1_32 rfl kk
theorem gf_X4_97 (F : Fx p s m args meth c RX4 cc nL ret cy D ad A) (d : decode cc pc = .ok (.getfield 97, 3)) (hc : k < 2) (kk : V p l e R s m args below meth c nL cy D ad A kc ks Q (pc + 3) lv (.ref (ad 7 k 0) :: st) (M)) : V p l e R s m args below meth c nL cy D ad A kc ks Q pc lv (.ref (ad 1 k 0) :: st) (M) := r_getF F d (dm1 ⟨by decide, by decide⟩ hc) (fs := [.ref (ad 2 k 0), .ref (ad 3 k 0), .ref (ad 4 k 0), .ref (ad 5 k 0), .ref (ad 6 k 0), .ref (ad 7 k 0), .ref (ad 8 k 0), .int (i32 (M k 20 1)), .int (i32 (M k 20 2)), .int (i32 (M k 20 3)), .int (i32 (M k 20 0)), .int (i32 (M k 20 4)), .int (i32 (M k 20 5))]) rfl (ci := 1) (C := RX1) (T := TX1) (N := 13) rfl (k := 5) (by decide) inT_X1 lf_X4_97 rfl kk
theorem gf_X1_38 (F : Fx p s m args meth c RX1 cc nL ret cy D ad A) (d : decode cc pc = .ok (.getfield 38, 3)) (hc : k < 2) (kk : V p l e R s m args below meth c nL cy D ad A kc ks Q (pc + 3) lv (.ref (ad 8 k 0) :: st) (M)) : V p l e R s m args below meth c nL cy D ad A kc ks Q pc lv (.ref (ad 1 k 0) :: st) (M) := r_getF F d (dm1 ⟨by decide, by decide⟩ hc) (fs := [.ref (ad 2 k 0), .ref (ad 3 k 0), .ref (ad 4 k 0), .ref (ad 5 k 0), .ref (ad 6 k 0), .ref (ad 7 k 0), .ref (ad 8 k 0), .int (i32 (M k 20 1)), .int (i32 (M k 20 2)), .int (i32 (M k 20 3)), .int (i32 (M k 20 0)), .int (i32 (M k 20 4)), .int (i32 (M k 20 5))]) rfl (ci := 1) (C := RX1) (T := TX1) (N := 13) rfl (k := 6) (by decide) inT_X1 lf_X1_38 rfl kk
theorem gf_X4_114 (F : Fx p s m args meth c RX4 cc nL ret cy D ad A) (d : decode cc pc = .ok (.getfield 114, 3)) (hc : k < 2) (kk : V p l e R s m args below meth c nL cy D ad A kc ks Q (pc + 3) lv (.ref (ad 8 k 0) :: st) (M)) : V p l e R s m args below meth c nL cy D ad A kc ks Q pc lv (.ref (ad 1 k 0) :: st) (M) := r_getF F d (dm1 ⟨by decide, by decide⟩ hc) (fs := [.ref (ad 2 k 0), .ref (ad 3 k 0), .ref (ad 4 k 0), .ref (ad 5 k 0), .ref (ad 6 k 0), .ref (ad 7 k 0), .ref (ad 8 k 0), .int (i32 (M k 20 1)), .int (i32 (M k 20 2)), .int (i32 (M k 20 3)), .int (i32 (M k 20 0)), .int (i32 (M k 20 4)), .int (i32 (M k 20 5))]) rfl (ci := 1) (C := RX1) (T := TX1) (N := 13) rfl (k := 6) (by decide) inT_X1 lf_X4_114 rfl kk
theorem gg_X1_51 (F : Fx p s m args meth c RX1 cc nL ret cy D ad A) (d : decode cc pc = .ok (.getfield 51, 3)) (hc : k < 2) (kk : V p l e R s m args below meth c nL cy D ad A kc ks Q (pc + 3) lv (.int (i32 (M k 20 1)) :: st) (M)) : V p l e R s m args below meth c nL cy D ad A kc ks Q pc lv (.ref (ad 1 k 0) :: st) (M) := r_getF F d (dm1 ⟨by decide, by decide⟩ hc) (fs := [.ref (ad 2 k 0), .ref (ad 3 k 0), .ref (ad 4 k 0), .ref (ad 5 k 0), .ref (ad 6 k 0), .ref (ad 7 k 0), .ref (ad 8 k 0), .int (i32 (M k 20 1)), .int (i32 (M k 20 2)), .int (i32 (M k 20 3)), .int (i32 (M k 20 0)), .int (i32 (M k 20 4)), .int (i32 (M k 20 5))]) rfl (ci := 1) (C := RX1) (T := TX1) (N := 13) rfl (k := 7) (by decide) inT_X1 lf_X1_51 rfl kk
theorem gf_X1_51 (F : Fx p s m args meth c RX1 cc nL ret cy D ad A) (d : decode cc pc = .ok (.getfield 51, 3)) (hc : k < 2) (kk : V p l e R s m args below meth c nL cy D ad A kc ks Q (pc + 3) lv (.int (i32 (S 20 1)) :: st) (setc M k S)) : V p l e R s m args below meth c nL cy D ad A kc ks Q pc lv (.ref (ad 1 k 0) :: st) (setc M k S) := gg_X1_51 F d hc (by rw [setc_at]; exact kk)
theorem pf_X1_51 (F : Fx p s m args meth c RX1 cc nL ret cy D ad A) {v : Int} (d : decode cc pc = .ok (.putfield 51, 3)) (hc : k < 2) (kk : V p l e R s m args below meth c nL cy D ad A kc ks Q (pc + 3) lv st (setc M k (u2 S 20 1 v))) : V p l e R s m args below meth c nL cy D ad A kc ks Q pc lv (.int (i32 v) :: .ref (ad 1 k 0) :: st) (setc M k S) := by
  refine r_putF F d (dm1 ⟨by decide, by decide⟩ hc) (fs := [.ref (ad 2 k 0), .ref (ad 3 k 0), .ref (ad 4 k 0), .ref (ad 5 k 0), .ref (ad 6 k 0), .ref (ad 7 k 0), .ref (ad 8 k 0), .int (i32 (S 20 1)), .int (i32 (S 20 2)), .int (i32 (S 20 3)), .int (i32 (S 20 0)), .int (i32 (S 20 4)), .int (i32 (S 20 5))]) (by simp only [cel, setc_at]) (ci := 1) (C := RX1) (T := TX1) (N := 13) rfl rfl (k := 7) (by decide) inT_X1 tyX1 tyX1_ok nmX1 lf_X1_51 rfl (ty := .int) (by decide +kernel) rfl rfl ?_ (oth (by simp [owner, hc])) kk
  simp [cel, setc_at, u2]
theorem gg_X4_54 (F : Fx p s m args meth c RX4 cc nL ret cy D ad A) (d : decode cc pc = .ok (.getfield 54, 3)) (hc : k < 2) (kk : V p l e R s m args below meth c nL cy D ad A kc ks Q (pc + 3) lv (.int (i32 (M k 20 1)) :: st) (M)) : V p l e R s m args below meth c nL cy D ad A kc ks Q pc lv (.ref (ad 1 k 0) :: st) (M) := r_getF F d (dm1 ⟨by decide, by decide⟩ hc) (fs := [.ref (ad 2 k 0), .ref (ad 3 k 0), .ref (ad 4 k 0), .ref (ad 5 k 0), .ref (ad 6 k 0), .ref (ad 7 k 0), .ref (ad 8 k 0), .int (i32 (M k 20 1)), .int (i32 (M k 20 2)), .int (i32 (M k 20 3)), .int (i32 (M k 20 0)), .int (i32 (M k 20 4)), .int (i32 (M k 20 5))]) rfl (ci := 1) (C := RX1) (T := TX1) (N := 13) rfl (k := 7) (by decide) inT_X1 lf_X4_54 rfl kk
theorem gf_X4_54 (F : Fx p s m args meth c RX4 cc nL ret cy D ad A) (d : decode cc pc = .ok (.getfield 54, 3)) (hc : k < 2) (kk : V p l e R s m args below meth c nL cy D ad A kc ks Q (pc + 3) lv (.int (i32 (S 20 1)) :: st) (setc M k S)) : V p l e R s m args below meth c nL cy D ad A kc ks Q pc lv (.ref (ad 1 k 0) :: st) (setc M k S) := gg_X4_54 F d hc (by rw [setc_at]; exact kk)
theorem pf_X4_54 (F : Fx p s m args meth c RX4 cc nL ret cy D ad A) {v : Int} (d : decode cc pc = .ok (.putfield 54, 3)) (hc : k < 2) (kk : V p l e R s m args below meth c nL cy D ad A kc ks Q (pc + 3) lv st (setc M k (u2 S 20 1 v))) : V p l e R s m args below meth c nL cy D ad A kc ks Q pc lv (.int (i32 v) :: .ref (ad 1 k 0) :: st) (setc M k S) := by
  refine r_putF F d (dm1 ⟨by decide, by decide⟩ hc) (fs := [.ref (ad 2 k 0), .ref (ad 3 k 0), .ref (ad 4 k 0), .ref (ad 5 k 0), .ref (ad 6 k 0), .ref (ad 7 k 0), .ref (ad 8 k 0), .int (i32 (S 20 1)), .int (i32 (S 20 2)), .int (i32 (S 20 3)), .int (i32 (S 20 0)), .int (i32 (S 20 4)), .int (i32 (S 20 5))]) (by simp only [cel, setc_at]) (ci := 1) (C := RX1) (T := TX1) (N := 13) rfl rfl (k := 7) (by decide) inT_X1 tyX1 tyX1_ok nmX1 lf_X4_54 rfl (ty := .int) (by decide +kernel) rfl rfl ?_ (oth (by simp [owner, hc])) kk
  simp [cel, setc_at, u2]
theorem gg_X1_55 (F : Fx p s m args meth c RX1 cc nL ret cy D ad A) (d : decode cc pc = .ok (.getfield 55, 3)) (hc : k < 2) (kk : V p l e R s m args below meth c nL cy D ad A kc ks Q (pc + 3) lv (.int (i32 (M k 20 2)) :: st) (M)) : V p l e R s m args below meth c nL cy D ad A kc ks Q pc lv (.ref (ad 1 k 0) :: st) (M) := r_getF F d (dm1 ⟨by decide, by decide⟩ hc) (fs := [.ref (ad 2 k 0), .ref (ad 3 k 0), .ref (ad 4 k 0), .ref (ad 5 k 0), .ref (ad 6 k 0), .ref (ad 7 k 0), .ref (ad 8 k 0), .int (i32 (M k 20 1)), .int (i32 (M k 20 2)), .int (i32 (M k 20 3)), .int (i32 (M k 20 0)), .int (i32 (M k 20 4)), .int (i32 (M k 20 5))]) rfl (ci := 1) (C := RX1) (T := TX1) (N := 13) rfl (k := 8) (by decide) inT_X1 lf_X1_55 rfl kk
theorem gf_X1_55 (F : Fx p s m args meth c RX1 cc nL ret cy D ad A) (d : decode cc pc = .ok (.getfield 55, 3)) (hc : k < 2) (kk : V p l e R s m args below meth c nL cy D ad A kc ks Q (pc + 3) lv (.int (i32 (S 20 2)) :: st) (setc M k S)) : V p l e R s m args below meth c nL cy D ad A kc ks Q pc lv (.ref (ad 1 k 0) :: st) (setc M k S) := gg_X1_55 F d hc (by rw [setc_at]; exact kk)
theorem pf_X1_55 (F : Fx p s m args meth c RX1 cc nL ret cy D ad A) {v : Int} (d : decode cc pc = .ok (.putfield 55, 3)) (hc : k < 2) (kk : V p l e R s m args below meth c nL cy D ad A kc ks Q (pc + 3) lv st (setc M k (u2 S 20 2 v))) : V p l e R s m args below meth c nL cy D ad A kc ks Q pc lv (.int (i32 v) :: .ref (ad 1 k 0) :: st) (setc M k S) := by
  refine r_putF F d (dm1 ⟨by decide, by decide⟩ hc) (fs := [.ref (ad 2 k 0), .ref (ad 3 k 0), .ref (ad 4 k 0), .ref (ad 5 k 0), .ref (ad 6 k 0), .ref (ad 7 k 0), .ref (ad 8 k 0), .int (i32 (S 20 1)), .int (i32 (S 20 2)), .int (i32 (S 20 3)), .int (i32 (S 20 0)), .int (i32 (S 20 4)), .int (i32 (S 20 5))]) (by simp only [cel, setc_at]) (ci := 1) (C := RX1) (T := TX1) (N := 13) rfl rfl (k := 8) (by decide) inT_X1 tyX1 tyX1_ok nmX1 lf_X1_55 rfl (ty := .int) (by decide +kernel) rfl rfl ?_ (oth (by simp [owner, hc])) kk
  simp [cel, setc_at, u2]
theorem gg_X4_92 (F : Fx p s m args meth c RX4 cc nL ret cy D ad A) (d : decode cc pc = .ok (.getfield 92, 3)) (hc : k < 2) (kk : V p l e R s m args below meth c nL cy D ad A kc ks Q (pc + 3) lv (.int (i32 (M k 20 2)) :: st) (M)) : V p l e R s m args below meth c nL cy D ad A kc ks Q pc lv (.ref (ad 1 k 0) :: st) (M) := r_getF F d (dm1 ⟨by decide, by decide⟩ hc) (fs := [.ref (ad 2 k 0), .ref (ad 3 k 0), .ref (ad 4 k 0), .ref (ad 5 k 0), .ref (ad 6 k 0), .ref (ad 7 k 0), .ref (ad 8 k 0), .int (i32 (M k 20 1)), .int (i32 (M k 20 2)), .int (i32 (M k 20 3)), .int (i32 (M k 20 0)), .int (i32 (M k 20 4)), .int (i32 (M k 20 5))]) rfl (ci := 1) (C := RX1) (T := TX1) (N := 13) rfl (k := 8) (by decide) inT_X1 lf_X4_92 rfl kk
theorem gf_X4_92 (F : Fx p s m args meth c RX4 cc nL ret cy D ad A) (d : decode cc pc = .ok (.getfield 92, 3)) (hc : k < 2) (kk : V p l e R s m args below meth c nL cy D ad A kc ks Q (pc + 3) lv (.int (i32 (S 20 2)) :: st) (setc M k S)) : V p l e R s m args below meth c nL cy D ad A kc ks Q pc lv (.ref (ad 1 k 0) :: st) (setc M k S) := gg_X4_92 F d hc (by rw [setc_at]; exact kk)
theorem pf_X4_92 (F : Fx p s m args meth c RX4 cc nL ret cy D ad A) {v : Int} (d : decode cc pc = .ok (.putfield 92, 3)) (hc : k < 2) (kk : V p l e R s m args below meth c nL cy D ad A kc ks Q (pc + 3) lv st (setc M k (u2 S 20 2 v))) : V p l e R s m args below meth c nL cy D ad A kc ks Q pc lv (.int (i32 v) :: .ref (ad 1 k 0) :: st) (setc M k S) := by
  refine r_putF F d (dm1 ⟨by decide, by decide⟩ hc) (fs := [.ref (ad 2 k 0), .ref (ad 3 k 0), .ref (ad 4 k 0), .ref (ad 5 k 0), .ref (ad 6 k 0), .ref (ad 7 k 0), .ref (ad 8 k 0), .int (i32 (S 20 1)), .int (i32 (S 20 2)), .int (i32 (S 20 3)), .int (i32 (S 20 0)), .int (i32 (S 20 4)), .int (i32 (S 20 5))]) (by simp only [cel, setc_at]) (ci := 1) (C := RX1) (T := TX1) (N := 13) rfl rfl (k := 8) (by decide) inT_X1 tyX1 tyX1_ok nmX1 lf_X4_92 rfl (ty := .int) (by decide +kernel) rfl rfl ?_ (oth (by simp [owner, hc])) kk
  simp [cel, setc_at, u2]
theorem gg_X1_58 (F : Fx p s m args meth c RX1 cc nL ret cy D ad A) (d : decode cc pc = .ok (.getfield 58, 3)) (hc : k < 2) (kk : V p l e R s m args below meth c nL cy D ad A kc ks Q (pc + 3) lv (.int (i32 (M k 20 3)) :: st) (M)) : V p l e R s m args below meth c nL cy D ad A kc ks Q pc lv (.ref (ad 1 k 0) :: st) (M) := r_getF F d (dm1 ⟨by decide, by decide⟩ hc) (fs := [.ref (ad 2 k 0), .ref (ad 3 k 0), .ref (ad 4 k 0), .ref (ad 5 k 0), .ref (ad 6 k 0), .ref (ad 7 k 0), .ref (ad 8 k 0), .int (i32 (M k 20 1)), .int (i32 (M k 20 2)), .int (i32 (M k 20 3)), .int (i32 (M k 20 0)), .int (i32 (M k 20 4)), .int (i32 (M k 20 5))]) rfl (ci := 1) (C := RX1) (T := TX1) (N := 13) rfl (k := 9) (by decide) inT_X1 lf_X1_58 rfl kk
theorem gf_X1_58 (F : Fx p s m args meth c RX1 cc nL ret cy D ad A) (d : decode cc pc = .ok (.getfield 58, 3)) (hc : k < 2) (kk : V p l e R s m args below meth c nL cy D ad A kc ks Q (pc + 3) lv (.int (i32 (S 20 3)) :: st) (setc M k S)) : V p l e R s m args below meth c nL cy D ad A kc ks Q pc lv (.ref (ad 1 k 0) :: st) (setc M k S) := gg_X1_58 F d hc (by rw [setc_at]; exact kk)
theorem pf_X1_58 (F : Fx p s m args meth c RX1 cc nL ret cy D ad A) {v : Int} (d : decode cc pc = .ok (.putfield 58, 3)) (hc : k < 2) (kk : V p l e R s m args below meth c nL cy D ad A kc ks Q (pc + 3) lv st (setc M k (u2 S 20 3 v))) : V p l e R s m args below meth c nL cy D ad A kc ks Q pc lv (.int (i32 v) :: .ref (ad 1 k 0) :: st) (setc M k S) := by
  refine r_putF F d (dm1 ⟨by decide, by decide⟩ hc) (fs := [.ref (ad 2 k 0), .ref (ad 3 k 0), .ref (ad 4 k 0), .ref (ad 5 k 0), .ref (ad 6 k 0), .ref (ad 7 k 0), .ref (ad 8 k 0), .int (i32 (S 20 1)), .int (i32 (S 20 2)), .int (i32 (S 20 3)), .int (i32 (S 20 0)), .int (i32 (S 20 4)), .int (i32 (S 20 5))]) (by simp only [cel, setc_at]) (ci := 1) (C := RX1) (T := TX1) (N := 13) rfl rfl (k := 9) (by decide) inT_X1 tyX1 tyX1_ok nmX1 lf_X1_58 rfl (ty := .int) (by decide +kernel) rfl rfl ?_ (oth (by simp [owner, hc])) kk
  simp [cel, setc_at, u2]
theorem gg_X4_109 (F : Fx p s m args meth c RX4 cc nL ret cy D ad A) (d : decode cc pc = .ok (.getfield 109, 3)) (hc : k < 2) (kk : V p l e R s m args below meth c nL cy D ad A kc ks Q (pc + 3) lv (.int (i32 (M k 20 3)) :: st) (M)) : V p l e R s m args below meth c nL cy D ad A kc ks Q pc lv (.ref (ad 1 k 0) :: st) (M) := r_getF F d (dm1 ⟨by decide, by decide⟩ hc) (fs := [.ref (ad 2 k 0), .ref (ad 3 k 0), .ref (ad 4 k 0), .ref (ad 5 k 0), .ref (ad 6 k 0), .ref (ad 7 k 0), .ref (ad 8 k 0), .int (i32 (M k 20 1)), .int (i32 (M k 20 2)), .int (i32 (M k 20 3)), .int (i32 (M k 20 0)), .int (i32 (M k 20 4)), .int (i32 (M k 20 5))]) rfl (ci := 1) (C := RX1) (T := TX1) (N := 13) rfl (k := 9) (by decide) inT_X1 lf_X4_109 rfl kk
theorem gf_X4_109 (F : Fx p s m args meth c RX4 cc nL ret cy D ad A) (d : decode cc pc = .ok (.getfield 109, 3)) (hc : k < 2) (kk : V p l e R s m args below meth c nL cy D ad A kc ks Q (pc + 3) lv (.int (i32 (S 20 3)) :: st) (setc M k S)) : V p l e R s m args below meth c nL cy D ad A kc ks Q pc lv (.ref (ad 1 k 0) :: st) (setc M k S) := gg_X4_109 F d hc (by rw [setc_at]; exact kk)
theorem pf_X4_109 (F : Fx p s m args meth c RX4 cc nL ret cy D ad A) {v : Int} (d : decode cc pc = .ok (.putfield 109, 3)) (hc : k < 2) (kk : V p l e R s m args below meth c nL cy D ad A kc ks Q (pc + 3) lv st (setc M k (u2 S 20 3 v))) : V p l e R s m args below meth c nL cy D ad A kc ks Q pc lv (.int (i32 v) :: .ref (ad 1 k 0) :: st) (setc M k S) := by
  refine r_putF F d (dm1 ⟨by decide, by decide⟩ hc) (fs := [.ref (ad 2 k 0), .ref (ad 3 k 0), .ref (ad 4 k 0), .ref (ad 5 k 0), .ref (ad 6 k 0), .ref (ad 7 k 0), .ref (ad 8 k 0), .int (i32 (S 20 1)), .int (i32 (S 20 2)), .int (i32 (S 20 3)), .int (i32 (S 20 0)), .int (i32 (S 20 4)), .int (i32 (S 20 5))]) (by simp only [cel, setc_at]) (ci := 1) (C := RX1) (T := TX1) (N := 13) rfl rfl (k := 9) (by decide) inT_X1 tyX1 tyX1_ok nmX1 lf_X4_109 rfl (ty := .int) (by decide +kernel) rfl rfl ?_ (oth (by simp [owner, hc])) kk
  simp [cel, setc_at, u2]
theorem gg_X1_71 (F : Fx p s m args meth c RX1 cc nL ret cy D ad A) (d : decode cc pc = .ok (.getfield 71, 3)) (hc : k < 2) (kk : V p l e R s m args below meth c nL cy D ad A kc ks Q (pc + 3) lv (.int (i32 (M k 20 0)) :: st) (M)) : V p l e R s m args below meth c nL cy D ad A kc ks Q pc lv (.ref (ad 1 k 0) :: st) (M) := r_getF F d (dm1 ⟨by decide, by decide⟩ hc) (fs := [.ref (ad 2 k 0), .ref (ad 3 k 0), .ref (ad 4 k 0), .ref (ad 5 k 0), .ref (ad 6 k 0), .ref (ad 7 k 0), .ref (ad 8 k 0), .int (i32 (M k 20 1)), .int (i32 (M k 20 2)), .int (i32 (M k 20 3)), .int (i32 (M k 20 0)), .int (i32 (M k 20 4)), .int (i32 (M k 20 5))]) rfl (ci := 1) (C := RX1) (T := TX1) (N := 13) rfl (k := 10) (by decide) inT_X1 lf_X1_71 rfl kk
theorem gf_X1_71 (F : Fx p s m args meth c RX1 cc nL ret cy D ad A) (d : decode cc pc = .ok (.getfield 71, 3)) (hc : k < 2) (kk : V p l e R s m args below meth c nL cy D ad A kc ks Q (pc + 3) lv (.int (i32 (S 20 0)) :: st) (setc M k S)) : V p l e R s m args below meth c nL cy D ad A kc ks Q pc lv (.ref (ad 1 k 0) :: st) (setc M k S) := gg_X1_71 F d hc (by rw [setc_at]; exact kk)
theorem pf_X1_71 (F : Fx p s m args meth c RX1 cc nL ret cy D ad A) {v : Int} (d : decode cc pc = .ok (.putfield 71, 3)) (hc : k < 2) (kk : V p l e R s m args below meth c nL cy D ad A kc ks Q (pc + 3) lv st (setc M k (u2 S 20 0 v))) : V p l e R s m args below meth c nL cy D ad A kc ks Q pc lv (.int (i32 v) :: .ref (ad 1 k 0) :: st) (setc M k S) := by
  refine r_putF F d (dm1 ⟨by decide, by decide⟩ hc) (fs := [.ref (ad 2 k 0), .ref (ad 3 k 0), .ref (ad 4 k 0), .ref (ad 5 k 0), .ref (ad 6 k 0), .ref (ad 7 k 0), .ref (ad 8 k 0), .int (i32 (S 20 1)), .int (i32 (S 20 2)), .int (i32 (S 20 3)), .int (i32 (S 20 0)), .int (i32 (S 20 4)), .int (i32 (S 20 5))]) (by simp only [cel, setc_at]) (ci := 1) (C := RX1) (T := TX1) (N := 13) rfl rfl (k := 10) (by decide) inT_X1 tyX1 tyX1_ok nmX1 lf_X1_71 rfl (ty := .int) (by decide +kernel) rfl rfl ?_ (oth (by simp [owner, hc])) kk
  simp [cel, setc_at, u2]
theorem gg_X1_74 (F : Fx p s m args meth c RX1 cc nL ret cy D ad A) (d : decode cc pc = .ok (.getfield 74, 3)) (hc : k < 2) (kk : V p l e R s m args below meth c nL cy D ad A kc ks Q (pc + 3) lv (.int (i32 (M k 20 4)) :: st) (M)) : V p l e R s m args below meth c nL cy D ad A kc ks Q pc lv (.ref (ad 1 k 0) :: st) (M) := r_getF F d (dm1 ⟨by decide, by decide⟩ hc) (fs := [.ref (ad 2 k 0), .ref (ad 3 k 0), .ref (ad 4 k 0), .ref (ad 5 k 0), .ref (ad 6 k 0), .ref (ad 7 k 0), .ref (ad 8 k 0), .int (i32 (M k 20 1)), .int (i32 (M k 20 2)), .int (i32 (M k 20 3)), .int (i32 (M k 20 0)), .int (i32 (M k 20 4)), .int (i32 (M k 20 5))]) rfl (ci := 1) (C := RX1) (T := TX1) (N := 13) rfl (k := 11) (by decide) inT_X1 lf_X1_74 rfl kk
theorem gf_X1_74 (F : Fx p s m args meth c RX1 cc nL ret cy D ad A) (d : decode cc pc = .ok (.getfield 74, 3)) (hc : k < 2) (kk : V p l e R s m args below meth c nL cy D ad A kc ks Q (pc + 3) lv (.int (i32 (S 20 4)) :: st) (setc M k S)) : V p l e R s m args below meth c nL cy D ad A kc ks Q pc lv (.ref (ad 1 k 0) :: st) (setc M k S) := gg_X1_74 F d hc (by rw [setc_at]; exact kk)
theorem pf_X1_74 (F : Fx p s m args meth c RX1 cc nL ret cy D ad A) {v : Int} (d : decode cc pc = .ok (.putfield 74, 3)) (hc : k < 2) (kk : V p l e R s m args below meth c nL cy D ad A kc ks Q (pc + 3) lv st (setc M k (u2 S 20 4 v))) : V p l e R s m args below meth c nL cy D ad A kc ks Q pc lv (.int (i32 v) :: .ref (ad 1 k 0) :: st) (setc M k S) := by
  refine r_putF F d (dm1 ⟨by decide, by decide⟩ hc) (fs := [.ref (ad 2 k 0), .ref (ad 3 k 0), .ref (ad 4 k 0), .ref (ad 5 k 0), .ref (ad 6 k 0), .ref (ad 7 k 0), .ref (ad 8 k 0), .int (i32 (S 20 1)), .int (i32 (S 20 2)), .int (i32 (S 20 3)), .int (i32 (S 20 0)), .int (i32 (S 20 4)), .int (i32 (S 20 5))]) (by simp only [cel, setc_at]) (ci := 1) (C := RX1) (T := TX1) (N := 13) rfl rfl (k := 11) (by decide) inT_X1 tyX1 tyX1_ok nmX1 lf_X1_74 rfl (ty := .int) (by decide +kernel) rfl rfl ?_ (oth (by simp [owner, hc])) kk
  simp [cel, setc_at, u2]
theorem gg_X1_77 (F : Fx p s m args meth c RX1 cc nL ret cy D ad A) (d : decode cc pc = .ok (.getfield 77, 3)) (hc : k < 2) (kk : V p l e R s m args below meth c nL cy D ad A kc ks Q (pc + 3) lv (.int (i32 (M k 20 5)) :: st) (M)) : V p l e R s m args below meth c nL cy D ad A kc ks Q pc lv (.ref (ad 1 k 0) :: st) (M) := r_getF F d (dm1 ⟨by decide, by decide⟩ hc) (fs := [.ref (ad 2 k 0), .ref (ad 3 k 0), .ref (ad 4 k 0), .ref (ad 5 k 0), .ref (ad 6 k 0), .ref (ad 7 k 0), .ref (ad 8 k 0), .int (i32 (M k 20 1)), .int (i32 (M k 20 2)), .int (i32 (M k 20 3)), .int (i32 (M k 20 0)), .int (i32 (M k 20 4)), .int (i32 (M k 20 5))]) rfl (ci := 1) (C := RX1) (T := TX1) (N := 13) rfl (k := 12) (by decide) inT_X1 lf_X1_77 rfl kk
theorem gf_X1_77 (F : Fx p s m args meth c RX1 cc nL ret cy D ad A) (d : decode cc pc = .ok (.getfield 77, 3)) (hc : k < 2) (kk : V p l e R s m args below meth c nL cy D ad A kc ks Q (pc + 3) lv (.int (i32 (S 20 5)) :: st) (setc M k S)) : V p l e R s m args below meth c nL cy D ad A kc ks Q pc lv (.ref (ad 1 k 0) :: st) (setc M k S) := gg_X1_77 F d hc (by rw [setc_at]; exact kk)
theorem pf_X1_77 (F : Fx p s m args meth c RX1 cc nL ret cy D ad A) {v : Int} (d : decode cc pc = .ok (.putfield 77, 3)) (hc : k < 2) (kk : V p l e R s m args below meth c nL cy D ad A kc ks Q (pc + 3) lv st (setc M k (u2 S 20 5 v))) : V p l e R s m args below meth c nL cy D ad A kc ks Q pc lv (.int (i32 v) :: .ref (ad 1 k 0) :: st) (setc M k S) := by
  refine r_putF F d (dm1 ⟨by decide, by decide⟩ hc) (fs := [.ref (ad 2 k 0), .ref (ad 3 k 0), .ref (ad 4 k 0), .ref (ad 5 k 0), .ref (ad 6 k 0), .ref (ad 7 k 0), .ref (ad 8 k 0), .int (i32 (S 20 1)), .int (i32 (S 20 2)), .int (i32 (S 20 3)), .int (i32 (S 20 0)), .int (i32 (S 20 4)), .int (i32 (S 20 5))]) (by simp only [cel, setc_at]) (ci := 1) (C := RX1) (T := TX1) (N := 13) rfl rfl (k := 12) (by decide) inT_X1 tyX1 tyX1_ok nmX1 lf_X1_77 rfl (ty := .int) (by decide +kernel) rfl rfl ?_ (oth (by simp [owner, hc])) kk
  simp [cel, setc_at, u2]
theorem gg_X4_139 (F : Fx p s m args meth c RX4 cc nL ret cy D ad A) (d : decode cc pc = .ok (.getfield 139, 3)) (hc : k < 2) (kk : V p l e R s m args below meth c nL cy D ad A kc ks Q (pc + 3) lv (.int (i32 (M k 20 5)) :: st) (M)) : V p l e R s m args below meth c nL cy D ad A kc ks Q pc lv (.ref (ad 1 k 0) :: st) (M) := r_getF F d (dm1 ⟨by decide, by decide⟩ hc) (fs := [.ref (ad 2 k 0), .ref (ad 3 k 0), .ref (ad 4 k 0), .ref (ad 5 k 0), .ref (ad 6 k 0), .ref (ad 7 k 0), .ref (ad 8 k 0), .int (i32 (M k 20 1)), .int (i32 (M k 20 2)), .int (i32 (M k 20 3)), .int (i32 (M k 20 0)), .int (i32 (M k 20 4)), .int (i32 (M k 20 5))]) rfl (ci := 1) (C := RX1) (T := TX1) (N := 13) rfl (k := 12) (by decide) inT_X1 lf_X4_139 rfl kk
theorem gf_X4_139 (F : Fx p s m args meth c RX4 cc nL ret cy D ad A) (d : decode cc pc = .ok (.getfield 139, 3)) (hc : k < 2) (kk : V p l e R s m args below meth c nL cy D ad A kc ks Q (pc + 3) lv (.int (i32 (S 20 5)) :: st) (setc M k S)) : V p l e R s m args below meth c nL cy D ad A kc ks Q pc lv (.ref (ad 1 k 0) :: st) (setc M k S) := gg_X4_139 F d hc (by rw [setc_at]; exact kk)
theorem pf_X4_139 (F : Fx p s m args meth c RX4 cc nL ret cy D ad A) {v : Int} (d : decode cc pc = .ok (.putfield 139, 3)) (hc : k < 2) (kk : V p l e R s m args below meth c nL cy D ad A kc ks Q (pc + 3) lv st (setc M k (u2 S 20 5 v))) : V p l e R s m args below meth c nL cy D ad A kc ks Q pc lv (.int (i32 v) :: .ref (ad 1 k 0) :: st) (setc M k S) := by
  refine r_putF F d (dm1 ⟨by decide, by decide⟩ hc) (fs := [.ref (ad 2 k 0), .ref (ad 3 k 0), .ref (ad 4 k 0), .ref (ad 5 k 0), .ref (ad 6 k 0), .ref (ad 7 k 0), .ref (ad 8 k 0), .int (i32 (S 20 1)), .int (i32 (S 20 2)), .int (i32 (S 20 3)), .int (i32 (S 20 0)), .int (i32 (S 20 4)), .int (i32 (S 20 5))]) (by simp only [cel, setc_at]) (ci := 1) (C := RX1) (T := TX1) (N := 13) rfl rfl (k := 12) (by decide) inT_X1 tyX1 tyX1_ok nmX1 lf_X4_139 rfl (ty := .int) (by decide +kernel) rfl rfl ?_ (oth (by simp [owner, hc])) kk
  simp [cel, setc_at, u2]
theorem gf_X4_10 (F : Fx p s m args meth c RX4 cc nL ret cy D ad A) (d : decode cc pc = .ok (.getfield 10, 3)) (kk : V p l e R s m args below meth c nL cy D ad A kc ks Q (pc + 3) lv (.ref (ad 1 0 0) :: st) (M)) : V p l e R s m args below meth c nL cy D ad A kc ks Q pc lv (.ref (ad 0 0 0) :: st) (M) := r_getF F d (t := 0) (cc1 := 0) (i := 0) rfl (fs := [.ref (ad 1 0 0), .ref (ad 1 1 0)]) rfl (ci := 4) (C := RX4) (T := TX4) (N := 2) rfl (k := 0) (by decide) inT_X4 lf_X4_10 rfl kk
theorem gf_X4_16 (F : Fx p s m args meth c RX4 cc nL ret cy D ad A) (d : decode cc pc = .ok (.getfield 16, 3)) (kk : V p l e R s m args below meth c nL cy D ad A kc ks Q (pc + 3) lv (.ref (ad 1 1 0) :: st) (M)) : V p l e R s m args below meth c nL cy D ad A kc ks Q pc lv (.ref (ad 0 0 0) :: st) (M) := r_getF F d (t := 0) (cc1 := 0) (i := 0) rfl (fs := [.ref (ad 1 0 0), .ref (ad 1 1 0)]) rfl (ci := 4) (C := RX4) (T := TX4) (N := 2) rfl (k := 1) (by decide) inT_X4 lf_X4_16 rfl kk
theorem gg_X5_40 (F : Fx p s m args meth c RX5 cc nL ret cy D ad A) (d : decode cc pc = .ok (.getfield 40, 3)) (hs : ad 40 13 0 = 1) (kk : V p l e R s m args below meth c nL cy D ad A kc ks Q (pc + 3) lv (.int (i32 (M 2 20 0)) :: st) (M)) : V p l e R s m args below meth c nL cy D ad A kc ks Q pc lv (.ref (ad 13 2 0) :: st) (M) := r_getF F d (dm13 hs) (fs := [.int (i32 (M 2 20 0)), .int (i32 (M 2 20 4)), .int (i32 (M 2 20 5)), .ref (ad 14 2 0), .ref (ad 15 2 0), .ref (ad 16 2 0), .ref (ad 17 2 0), .ref (ad 18 2 0), .ref (ad 19 2 0), .ref (ad 20 2 0)]) rfl (ci := 5) (C := RX5) (T := TX5) (N := 10) rfl (k := 0) (by decide) inT_X5 lf_X5_40 rfl kk
theorem gf_X5_40 (F : Fx p s m args meth c RX5 cc nL ret cy D ad A) (d : decode cc pc = .ok (.getfield 40, 3)) (hs : ad 40 13 0 = 1) (kk : V p l e R s m args below meth c nL cy D ad A kc ks Q (pc + 3) lv (.int (i32 (S 20 0)) :: st) (setc M 2 S)) : V p l e R s m args below meth c nL cy D ad A kc ks Q pc lv (.ref (ad 13 2 0) :: st) (setc M 2 S) := gg_X5_40 F d hs (by rw [setc_at]; exact kk)
theorem pf_X5_40 (F : Fx p s m args meth c RX5 cc nL ret cy D ad A) {v : Int} (d : decode cc pc = .ok (.putfield 40, 3)) (hs : ad 40 13 0 = 1) (kk : V p l e R s m args below meth c nL cy D ad A kc ks Q (pc + 3) lv st (setc M 2 (u2 S 20 0 v))) : V p l e R s m args below meth c nL cy D ad A kc ks Q pc lv (.int (i32 v) :: .ref (ad 13 2 0) :: st) (setc M 2 S) := by
  refine r_putF F d (dm13 hs) (fs := [.int (i32 (S 20 0)), .int (i32 (S 20 4)), .int (i32 (S 20 5)), .ref (ad 14 2 0), .ref (ad 15 2 0), .ref (ad 16 2 0), .ref (ad 17 2 0), .ref (ad 18 2 0), .ref (ad 19 2 0), .ref (ad 20 2 0)]) (by simp only [cel, setc_at]) (ci := 5) (C := RX5) (T := TX5) (N := 10) rfl rfl (k := 0) (by decide) inT_X5 tyX5 tyX5_ok nmX5 lf_X5_40 rfl (ty := .int) (by decide +kernel) rfl rfl ?_ (oth (by simp [owner])) kk
  simp [cel, setc_at, u2]
theorem gg_X5_44 (F : Fx p s m args meth c RX5 cc nL ret cy D ad A) (d : decode cc pc = .ok (.getfield 44, 3)) (hs : ad 40 13 0 = 1) (kk : V p l e R s m args below meth c nL cy D ad A kc ks Q (pc + 3) lv (.int (i32 (M 2 20 4)) :: st) (M)) : V p l e R s m args below meth c nL cy D ad A kc ks Q pc lv (.ref (ad 13 2 0) :: st) (M) := r_getF F d (dm13 hs) (fs := [.int (i32 (M 2 20 0)), .int (i32 (M 2 20 4)), .int (i32 (M 2 20 5)), .ref (ad 14 2 0), .ref (ad 15 2 0), .ref (ad 16 2 0), .ref (ad 17 2 0), .ref (ad 18 2 0), .ref (ad 19 2 0), .ref (ad 20 2 0)]) rfl (ci := 5) (C := RX5) (T := TX5) (N := 10) rfl (k := 1) (by decide) inT_X5 lf_X5_44 rfl kk
theorem gf_X5_44 (F : Fx p s m args meth c RX5 cc nL ret cy D ad A) (d : decode cc pc = .ok (.getfield 44, 3)) (hs : ad 40 13 0 = 1) (kk : V p l e R s m args below meth c nL cy D ad A kc ks Q (pc + 3) lv (.int (i32 (S 20 4)) :: st) (setc M 2 S)) : V p l e R s m args below meth c nL cy D ad A kc ks Q pc lv (.ref (ad 13 2 0) :: st) (setc M 2 S) := gg_X5_44 F d hs (by rw [setc_at]; exact kk)
theorem pf_X5_44 (F : Fx p s m args meth c RX5 cc nL ret cy D ad A) {v : Int} (d : decode cc pc = .ok (.putfield 44, 3)) (hs : ad 40 13 0 = 1) (kk : V p l e R s m args below meth c nL cy D ad A kc ks Q (pc + 3) lv st (setc M 2 (u2 S 20 4 v))) : V p l e R s m args below meth c nL cy D ad A kc ks Q pc lv (.int (i32 v) :: .ref (ad 13 2 0) :: st) (setc M 2 S) := by
  refine r_putF F d (dm13 hs) (fs := [.int (i32 (S 20 0)), .int (i32 (S 20 4)), .int (i32 (S 20 5)), .ref (ad 14 2 0), .ref (ad 15 2 0), .ref (ad 16 2 0), .ref (ad 17 2 0), .ref (ad 18 2 0), .ref (ad 19 2 0), .ref (ad 20 2 0)]) (by simp only [cel, setc_at]) (ci := 5) (C := RX5) (T := TX5) (N := 10) rfl rfl (k := 1) (by decide) inT_X5 tyX5 tyX5_ok nmX5 lf_X5_44 rfl (ty := .int) (by decide +kernel) rfl rfl ?_ (oth (by simp [owner])) kk
  simp [cel, setc_at, u2]
theorem gg_L_76 (F : Fx p s m args meth c RL cc nL ret cy D ad A) (d : decode cc pc = .ok (.getfield 76, 3)) (hs : ad 40 13 0 = 1) (kk : V p l e R s m args below meth c nL cy D ad A kc ks Q (pc + 3) lv (.int (i32 (M 2 20 5)) :: st) (M)) : V p l e R s m args below meth c nL cy D ad A kc ks Q pc lv (.ref (ad 13 2 0) :: st) (M) := r_getF F d (dm13 hs) (fs := [.int (i32 (M 2 20 0)), .int (i32 (M 2 20 4)), .int (i32 (M 2 20 5)), .ref (ad 14 2 0), .ref (ad 15 2 0), .ref (ad 16 2 0), .ref (ad 17 2 0), .ref (ad 18 2 0), .ref (ad 19 2 0), .ref (ad 20 2 0)]) rfl (ci := 5) (C := RX5) (T := TX5) (N := 10) rfl (k := 2) (by decide) inT_X5 lf_L_76 rfl kk
theorem gf_L_76 (F : Fx p s m args meth c RL cc nL ret cy D ad A) (d : decode cc pc = .ok (.getfield 76, 3)) (hs : ad 40 13 0 = 1) (kk : V p l e R s m args below meth c nL cy D ad A kc ks Q (pc + 3) lv (.int (i32 (S 20 5)) :: st) (setc M 2 S)) : V p l e R s m args below meth c nL cy D ad A kc ks Q pc lv (.ref (ad 13 2 0) :: st) (setc M 2 S) := gg_L_76 F d hs (by rw [setc_at]; exact kk)
theorem pf_L_76 (F : Fx p s m args meth c RL cc nL ret cy D ad A) {v : Int} (d : decode cc pc = .ok (.putfield 76, 3)) (hs : ad 40 13 0 = 1) (kk : V p l e R s m args below meth c nL cy D ad A kc ks Q (pc + 3) lv st (setc M 2 (u2 S 20 5 v))) : V p l e R s m args below meth c nL cy D ad A kc ks Q pc lv (.int (i32 v) :: .ref (ad 13 2 0) :: st) (setc M 2 S) := by
  refine r_putF F d (dm13 hs) (fs := [.int (i32 (S 20 0)), .int (i32 (S 20 4)), .int (i32 (S 20 5)), .ref (ad 14 2 0), .ref (ad 15 2 0), .ref (ad 16 2 0), .ref (ad 17 2 0), .ref (ad 18 2 0), .ref (ad 19 2 0), .ref (ad 20 2 0)]) (by simp only [cel, setc_at]) (ci := 5) (C := RX5) (T := TX5) (N := 10) rfl rfl (k := 2) (by decide) inT_X5 tyX5 tyX5_ok nmX5 lf_L_76 rfl (ty := .int) (by decide +kernel) rfl rfl ?_ (oth (by simp [owner])) kk
  simp [cel, setc_at, u2]
theorem gg_X5_47 (F : Fx p s m args meth c RX5 cc nL ret cy D ad A) (d : decode cc pc = .ok (.getfield 47, 3)) (hs : ad 40 13 0 = 1) (kk : V p l e R s m args below meth c nL cy D ad A kc ks Q (pc + 3) lv (.int (i32 (M 2 20 5)) :: st) (M)) : V p l e R s m args below meth c nL cy D ad A kc ks Q pc lv (.ref (ad 13 2 0) :: st) (M) := r_getF F d (dm13 hs) (fs := [.int (i32 (M 2 20 0)), .int (i32 (M 2 20 4)), .int (i32 (M 2 20 5)), .ref (ad 14 2 0), .ref (ad 15 2 0), .ref (ad 16 2 0), .ref (ad 17 2 0), .ref (ad 18 2 0), .ref (ad 19 2 0), .ref (ad 20 2 0)]) rfl (ci := 5) (C := RX5) (T := TX5) (N := 10) rfl (k := 2) (by decide) inT_X5 lf_X5_47 rfl kk
theorem gf_X5_47 (F : Fx p s m args meth c RX5 cc nL ret cy D ad A) (d : decode cc pc = .ok (.getfield 47, 3)) (hs : ad 40 13 0 = 1) (kk : V p l e R s m args below meth c nL cy D ad A kc ks Q (pc + 3) lv (.int (i32 (S 20 5)) :: st) (setc M 2 S)) : V p l e R s m args below meth c nL cy D ad A kc ks Q pc lv (.ref (ad 13 2 0) :: st) (setc M 2 S) := gg_X5_47 F d hs (by rw [setc_at]; exact kk)
theorem pf_X5_47 (F : Fx p s m args meth c RX5 cc nL ret cy D ad A) {v : Int} (d : decode cc pc = .ok (.putfield 47, 3)) (hs : ad 40 13 0 = 1) (kk : V p l e R s m args below meth c nL cy D ad A kc ks Q (pc + 3) lv st (setc M 2 (u2 S 20 5 v))) : V p l e R s m args below meth c nL cy D ad A kc ks Q pc lv (.int (i32 v) :: .ref (ad 13 2 0) :: st) (setc M 2 S) := by
  refine r_putF F d (dm13 hs) (fs := [.int (i32 (S 20 0)), .int (i32 (S 20 4)), .int (i32 (S 20 5)), .ref (ad 14 2 0), .ref (ad 15 2 0), .ref (ad 16 2 0), .ref (ad 17 2 0), .ref (ad 18 2 0), .ref (ad 19 2 0), .ref (ad 20 2 0)]) (by simp only [cel, setc_at]) (ci := 5) (C := RX5) (T := TX5) (N := 10) rfl rfl (k := 2) (by decide) inT_X5 tyX5 tyX5_ok nmX5 lf_X5_47 rfl (ty := .int) (by decide +kernel) rfl rfl ?_ (oth (by simp [owner])) kk
  simp [cel, setc_at, u2]
theorem gf_X5_7 (F : Fx p s m args meth c RX5 cc nL ret cy D ad A) (d : decode cc pc = .ok (.getfield 7, 3)) (hs : ad 40 13 0 = 1) (kk : V p l e R s m args below meth c nL cy D ad A kc ks Q (pc + 3) lv (.ref (ad 14 2 0) :: st) (M)) : V p l e R s m args below meth c nL cy D ad A kc ks Q pc lv (.ref (ad 13 2 0) :: st) (M) := r_getF F d (dm13 hs) (fs := [.int (i32 (M 2 20 0)), .int (i32 (M 2 20 4)), .int (i32 (M 2 20 5)), .ref (ad 14 2 0), .ref (ad 15 2 0), .ref (ad 16 2 0), .ref (ad 17 2 0), .ref (ad 18 2 0), .ref (ad 19 2 0), .ref (ad 20 2 0)]) rfl (ci := 5) (C := RX5) (T := TX5) (N := 10) rfl (k := 3) (by decide) inT_X5 lf_X5_7 rfl kk
theorem gf_L_28 (F : Fx p s m args meth c RL cc nL ret cy D ad A) (d : decode cc pc = .ok (.getfield 28, 3)) (hs : ad 40 13 0 = 1) (kk : V p l e R s m args below meth c nL cy D ad A kc ks Q (pc + 3) lv (.ref (ad 14 2 0) :: st) (M)) : V p l e R s m args below meth c nL cy D ad A kc ks Q pc lv (.ref (ad 13 2 0) :: st) (M) := r_getF F d (dm13 hs) (fs := [.int (i32 (M 2 20 0)), .int (i32 (M 2 20 4)), .int (i32 (M 2 20 5)), .ref (ad 14 2 0), .ref (ad 15 2 0), .ref (ad 16 2 0), .ref (ad 17 2 0), .ref (ad 18 2 0), .ref (ad 19 2 0), .ref (ad 20 2 0)]) rfl (ci := 5) (C := RX5) (T := TX5) (N := 10) rfl (k := 3) (by decide) inT_X5 lf_L_28 rfl kk
theorem gf_X5_13 (F : Fx p s m args meth c RX5 cc nL ret cy D ad A) (d : decode cc pc = .ok (.getfield 13, 3)) (hs : ad 40 13 0 = 1) (kk : V p l e R s m args below meth c nL cy D ad A kc ks Q (pc + 3) lv (.ref (ad 15 2 0) :: st) (M)) : V p l e R s m args below meth c nL cy D ad A kc ks Q pc lv (.ref (ad 13 2 0) :: st) (M) := r_getF F d (dm13 hs) (fs := [.int (i32 (M 2 20 0)), .int (i32 (M 2 20 4)), .int (i32 (M 2 20 5)), .ref (ad 14 2 0), .ref (ad 15 2 0), .ref (ad 16 2 0), .ref (ad 17 2 0), .ref (ad 18 2 0), .ref (ad 19 2 0), .ref (ad 20 2 0)]) rfl (ci := 5) (C := RX5) (T := TX5) (N := 10) rfl (k := 4) (by decide) inT_X5 lf_X5_13 rfl kk
theorem gf_L_24 (F : Fx p s m args meth c RL cc nL ret cy D ad A) (d : decode cc pc = .ok (.getfield 24, 3)) (hs : ad 40 13 0 = 1) (kk : V p l e R s m args below meth c nL cy D ad A kc ks Q (pc + 3) lv (.ref (ad 15 2 0) :: st) (M)) : V p l e R s m args below meth c nL cy D ad A kc ks Q pc lv (.ref (ad 13 2 0) :: st) (M) := r_getF F d (dm13 hs) (fs := [.int (i32 (M 2 20 0)), .int (i32 (M 2 20 4)), .int (i32 (M 2 20 5)), .ref (ad 14 2 0), .ref (ad 15 2 0), .ref (ad 16 2 0), .ref (ad 17 2 0), .ref (ad 18 2 0), .ref (ad 19 2 0), .ref (ad 20 2 0)]) rfl (ci := 5) (C := RX5) (T := TX5) (N := 10) rfl (k := 4) (by decide) inT_X5 lf_L_24 rfl kk
theorem gf_X5_16 (F : Fx p s m args meth c RX5 cc nL ret cy D ad A) (d : decode cc pc = .ok (.getfield 16, 3)) (hs : ad 40 13 0 = 1) (kk : V p l e R s m args below meth c nL cy D ad A kc ks Q (pc + 3) lv (.ref (ad 16 2 0) :: st) (M)) : V p l e R s m args below meth c nL cy D ad A kc ks Q pc lv (.ref (ad 13 2 0) :: st) (M) := r_getF F d (dm13 hs) (fs := [.int (i32 (M 2 20 0)), .int (i32 (M 2 20 4)), .int (i32 (M 2 20 5)), .ref (ad 14 2 0), .ref (ad 15 2 0), .ref (ad 16 2 0), .ref (ad 17 2 0), .ref (ad 18 2 0), .ref (ad 19 2 0), .ref (ad 20 2 0)]) rfl (ci := 5) (C := RX5) (T := TX5) (N := 10) rfl (k := 5) (by decide) inT_X5 lf_X5_16 rfl kk
theorem gf_L_36 (F : Fx p s m args meth c RL cc nL ret cy D ad A) (d : decode cc pc = .ok (.getfield 36, 3)) (hs : ad 40 13 0 = 1) (kk : V p l e R s m args below meth c nL cy D ad A kc ks Q (pc + 3) lv (.ref (ad 16 2 0) :: st) (M)) : V p l e R s m args below meth c nL cy D ad A kc ks Q pc lv (.ref (ad 13 2 0) :: st) (M) := r_getF F d (dm13 hs) (fs := [.int (i32 (M 2 20 0)), .int (i32 (M 2 20 4)), .int (i32 (M 2 20 5)), .ref (ad 14 2 0), .ref (ad 15 2 0), .ref (ad 16 2 0), .ref (ad 17 2 0), .ref (ad 18 2 0), .ref (ad 19 2 0), .ref (ad 20 2 0)]) rfl (ci := 5) (C := RX5) (T := TX5) (N := 10) rfl (k := 5) (by decide) inT_X5 lf_L_36 rfl kk
theorem gf_X5_19 (F : Fx p s m args meth c RX5 cc nL ret cy D ad A) (d : decode cc pc = .ok (.getfield 19, 3)) (hs : ad 40 13 0 = 1) (kk : V p l e R s m args below meth c nL cy D ad A kc ks Q (pc + 3) lv (.ref (ad 17 2 0) :: st) (M)) : V p l e R s m args below meth c nL cy D ad A kc ks Q pc lv (.ref (ad 13 2 0) :: st) (M) := r_getF F d (dm13 hs) (fs := [.int (i32 (M 2 20 0)), .int (i32 (M 2 20 4)), .int (i32 (M 2 20 5)), .ref (ad 14 2 0), .ref (ad 15 2 0), .ref (ad 16 2 0), .ref (ad 17 2 0), .ref (ad 18 2 0), .ref (ad 19 2 0), .ref (ad 20 2 0)]) rfl (ci := 5) (C := RX5) (T := TX5) (N := 10) rfl (k := 6) (by decide) inT_X5 lf_X5_19 rfl kk
theorem gf_L_39 (F : Fx p s m args meth c RL cc nL ret cy D ad A) (d : decode cc pc = .ok (.getfield 39, 3)) (hs : ad 40 13 0 = 1) (kk : V p l e R s m args below meth c nL cy D ad A kc ks Q (pc + 3) lv (.ref (ad 17 2 0) :: st) (M)) : V p l e R s m args below meth c nL cy D ad A kc ks Q pc lv (.ref (ad 13 2 0) :: st) (M) := r_getF F d (dm13 hs) (fs := [.int (i32 (M 2 20 0)), .int (i32 (M 2 20 4)), .int (i32 (M 2 20 5)), .ref (ad 14 2 0), .ref (ad 15 2 0), .ref (ad 16 2 0), .ref (ad 17 2 0), .ref (ad 18 2 0), .ref (ad 19 2 0), .ref (ad 20 2 0)]) rfl (ci := 5) (C := RX5) (T := TX5) (N := 10) rfl (k := 6) (by decide) inT_X5 lf_L_39 rfl kk
theorem gf_X5_23 (F : Fx p s m args meth c RX5 cc nL ret cy D ad A) (d : decode cc pc = .ok (.getfield 23, 3)) (hs : ad 40 13 0 = 1) (kk : V p l e R s m args below meth c nL cy D ad A kc ks Q (pc + 3) lv (.ref (ad 18 2 0) :: st) (M)) : V p l e R s m args below meth c nL cy D ad A kc ks Q pc lv (.ref (ad 13 2 0) :: st) (M) := r_getF F d (dm13 hs) (fs := [.int (i32 (M 2 20 0)), .int (i32 (M 2 20 4)), .int (i32 (M 2 20 5)), .ref (ad 14 2 0), .ref (ad 15 2 0), .ref (ad 16 2 0), .ref (ad 17 2 0), .ref (ad 18 2 0), .ref (ad 19 2 0), .ref (ad 20 2 0)]) rfl (ci := 5) (C := RX5) (T := TX5) (N := 10) rfl (k := 7) (by decide) inT_X5 lf_X5_23 rfl kk
theorem gf_L_15 (F : Fx p s m args meth c RL cc nL ret cy D ad A) (d : decode cc pc = .ok (.getfield 15, 3)) (hs : ad 40 13 0 = 1) (kk : V p l e R s m args below meth c nL cy D ad A kc ks Q (pc + 3) lv (.ref (ad 18 2 0) :: st) (M)) : V p l e R s m args below meth c nL cy D ad A kc ks Q pc lv (.ref (ad 13 2 0) :: st) (M) := r_getF F d (dm13 hs) (fs := [.int (i32 (M 2 20 0)), .int (i32 (M 2 20 4)), .int (i32 (M 2 20 5)), .ref (ad 14 2 0), .ref (ad 15 2 0), .ref (ad 16 2 0), .ref (ad 17 2 0), .ref (ad 18 2 0), .ref (ad 19 2 0), .ref (ad 20 2 0)]) rfl (ci := 5) (C := RX5) (T := TX5) (N := 10) rfl (k := 7) (by decide) inT_X5 lf_L_15 rfl kk
theorem gf_X5_27 (F : Fx p s m args meth c RX5 cc nL ret cy D ad A) (d : decode cc pc = .ok (.getfield 27, 3)) (hs : ad 40 13 0 = 1) (kk : V p l e R s m args below meth c nL cy D ad A kc ks Q (pc + 3) lv (.ref (ad 19 2 0) :: st) (M)) : V p l e R s m args below meth c nL cy D ad A kc ks Q pc lv (.ref (ad 13 2 0) :: st) (M) := r_getF F d (dm13 hs) (fs := [.int (i32 (M 2 20 0)), .int (i32 (M 2 20 4)), .int (i32 (M 2 20 5)), .ref (ad 14 2 0), .ref (ad 15 2 0), .ref (ad 16 2 0), .ref (ad 17 2 0), .ref (ad 18 2 0), .ref (ad 19 2 0), .ref (ad 20 2 0)]) rfl (ci := 5) (C := RX5) (T := TX5) (N := 10) rfl (k := 8) (by decide) inT_X5 lf_X5_27 rfl kk
theorem gf_L_64 (F : Fx p s m args meth c RL cc nL ret cy D ad A) (d : decode cc pc = .ok (.getfield 64, 3)) (hs : ad 40 13 0 = 1) (kk : V p l e R s m args below meth c nL cy D ad A kc ks Q (pc + 3) lv (.ref (ad 19 2 0) :: st) (M)) : V p l e R s m args below meth c nL cy D ad A kc ks Q pc lv (.ref (ad 13 2 0) :: st) (M) := r_getF F d (dm13 hs) (fs := [.int (i32 (M 2 20 0)), .int (i32 (M 2 20 4)), .int (i32 (M 2 20 5)), .ref (ad 14 2 0), .ref (ad 15 2 0), .ref (ad 16 2 0), .ref (ad 17 2 0), .ref (ad 18 2 0), .ref (ad 19 2 0), .ref (ad 20 2 0)]) rfl (ci := 5) (C := RX5) (T := TX5) (N := 10) rfl (k := 8) (by decide) inT_X5 lf_L_64 rfl kk
theorem gf_X5_30 (F : Fx p s m args meth c RX5 cc nL ret cy D ad A) (d : decode cc pc = .ok (.getfield 30, 3)) (hs : ad 40 13 0 = 1) (kk : V p l e R s m args below meth c nL cy D ad A kc ks Q (pc + 3) lv (.ref (ad 20 2 0) :: st) (M)) : V p l e R s m args below meth c nL cy D ad A kc ks Q pc lv (.ref (ad 13 2 0) :: st) (M) := r_getF F d (dm13 hs) (fs := [.int (i32 (M 2 20 0)), .int (i32 (M 2 20 4)), .int (i32 (M 2 20 5)), .ref (ad 14 2 0), .ref (ad 15 2 0), .ref (ad 16 2 0), .ref (ad 17 2 0), .ref (ad 18 2 0), .ref (ad 19 2 0), .ref (ad 20 2 0)]) rfl (ci := 5) (C := RX5) (T := TX5) (N := 10) rfl (k := 9) (by decide) inT_X5 lf_X5_30 rfl kk
theorem gf_L_21 (F : Fx p s m args meth c RL cc nL ret cy D ad A) (d : decode cc pc = .ok (.getfield 21, 3)) (hs : ad 40 13 0 = 1) (kk : V p l e R s m args below meth c nL cy D ad A kc ks Q (pc + 3) lv (.ref (ad 20 2 0) :: st) (M)) : V p l e R s m args below meth c nL cy D ad A kc ks Q pc lv (.ref (ad 13 2 0) :: st) (M) := r_getF F d (dm13 hs) (fs := [.int (i32 (M 2 20 0)), .int (i32 (M 2 20 4)), .int (i32 (M 2 20 5)), .ref (ad 14 2 0), .ref (ad 15 2 0), .ref (ad 16 2 0), .ref (ad 17 2 0), .ref (ad 18 2 0), .ref (ad 19 2 0), .ref (ad 20 2 0)]) rfl (ci := 5) (C := RX5) (T := TX5) (N := 10) rfl (k := 9) (by decide) inT_X5 lf_L_21 rfl kk
theorem ig_2 {own : String} (F : Fx p s m args meth c own cc nL ret cy D ad A) {a : Int} (d : decode cc pc = .ok (.iaload, 1)) (hc : k < 2) (h1 : 0 ≤ a) (h2 : a < 16) (kk : V p l e R s m args below meth c nL cy D ad A kc ks Q (pc + 1) lv (.int (i32 (M k 0 a)) :: st) (M)) : V p l e R s m args below meth c nL cy D ad A kc ks Q pc lv (.int (i32 a) :: .ref (ad 2 k 0) :: st) (M) := r_iald F d (dm1 ⟨by decide, by decide⟩ hc) (n := 16) (f := fun j => i32 (M k 0 (j : Int))) rfl h1 h2 (by decide) (by show i32 (M k 0 ((a.toNat : Nat) : Int)) = _; rw [Int.toNat_of_nonneg h1]) kk
theorem ia_2 {own : String} (F : Fx p s m args meth c own cc nL ret cy D ad A) {a : Int} (d : decode cc pc = .ok (.iaload, 1)) (hc : k < 2) (h1 : 0 ≤ a) (h2 : a < 16) (kk : V p l e R s m args below meth c nL cy D ad A kc ks Q (pc + 1) lv (.int (i32 (S 0 a)) :: st) (setc M k S)) : V p l e R s m args below meth c nL cy D ad A kc ks Q pc lv (.int (i32 a) :: .ref (ad 2 k 0) :: st) (setc M k S) := ig_2 F d hc h1 h2 (by rw [setc_at]; exact kk)
theorem is_2 {own : String} (F : Fx p s m args meth c own cc nL ret cy D ad A) {a v : Int} (d : decode cc pc = .ok (.iastore, 1)) (hc : k < 2) (h1 : 0 ≤ a) (h2 : a < 16) (kk : V p l e R s m args below meth c nL cy D ad A kc ks Q (pc + 1) lv st (setc M k (u2 S 0 a v))) : V p l e R s m args below meth c nL cy D ad A kc ks Q pc lv (.int (i32 v) :: .int (i32 a) :: .ref (ad 2 k 0) :: st) (setc M k S) := by
  refine r_iast F d (dm1 ⟨by decide, by decide⟩ hc) (n := 16) (f := fun j => i32 (S 0 (j : Int))) (by simp only [cel, setc_at]) h1 h2 (by decide) ?_ (oth (by simp [owner, hc])) kk
  simp only [cel, setc_at]
  congr 4
  funext j
  unfold u2 upd
  by_cases hj : j = a.toNat
  · rw [if_pos hj, if_pos ⟨rfl, by omega⟩]
  · rw [if_neg hj, if_neg (fun h => hj (by have := h.2; omega))]
theorem ig_3 {own : String} (F : Fx p s m args meth c own cc nL ret cy D ad A) {a : Int} (d : decode cc pc = .ok (.iaload, 1)) (hc : k < 2) (h1 : 0 ≤ a) (h2 : a < 16) (kk : V p l e R s m args below meth c nL cy D ad A kc ks Q (pc + 1) lv (.int (i32 (M k 1 a)) :: st) (M)) : V p l e R s m args below meth c nL cy D ad A kc ks Q pc lv (.int (i32 a) :: .ref (ad 3 k 0) :: st) (M) := r_iald F d (dm1 ⟨by decide, by decide⟩ hc) (n := 16) (f := fun j => i32 (M k 1 (j : Int))) rfl h1 h2 (by decide) (by show i32 (M k 1 ((a.toNat : Nat) : Int)) = _; rw [Int.toNat_of_nonneg h1]) kk
theorem ia_3 {own : String} (F : Fx p s m args meth c own cc nL ret cy D ad A) {a : Int} (d : decode cc pc = .ok (.iaload, 1)) (hc : k < 2) (h1 : 0 ≤ a) (h2 : a < 16) (kk : V p l e R s m args below meth c nL cy D ad A kc ks Q (pc + 1) lv (.int (i32 (S 1 a)) :: st) (setc M k S)) : V p l e R s m args below meth c nL cy D ad A kc ks Q pc lv (.int (i32 a) :: .ref (ad 3 k 0) :: st) (setc M k S) := ig_3 F d hc h1 h2 (by rw [setc_at]; exact kk)
theorem is_3 {own : String} (F : Fx p s m args meth c own cc nL ret cy D ad A) {a v : Int} (d : decode cc pc = .ok (.iastore, 1)) (hc : k < 2) (h1 : 0 ≤ a) (h2 : a < 16) (kk : V p l e R s m args below meth c nL cy D ad A kc ks Q (pc + 1) lv st (setc M k (u2 S 1 a v))) : V p l e R s m args below meth c nL cy D ad A kc ks Q pc lv (.int (i32 v) :: .int (i32 a) :: .ref (ad 3 k 0) :: st) (setc M k S) := by
  refine r_iast F d (dm1 ⟨by decide, by decide⟩ hc) (n := 16) (f := fun j => i32 (S 1 (j : Int))) (by simp only [cel, setc_at]) h1 h2 (by decide) ?_ (oth (by simp [owner, hc])) kk
  simp only [cel, setc_at]
  congr 4
  funext j
  unfold u2 upd
  by_cases hj : j = a.toNat
  · rw [if_pos hj, if_pos ⟨rfl, by omega⟩]
  · rw [if_neg hj, if_neg (fun h => hj (by have := h.2; omega))]
theorem ig_4 {own : String} (F : Fx p s m args meth c own cc nL ret cy D ad A) {a : Int} (d : decode cc pc = .ok (.iaload, 1)) (hc : k < 2) (h1 : 0 ≤ a) (h2 : a < 8) (kk : V p l e R s m args below meth c nL cy D ad A kc ks Q (pc + 1) lv (.int (i32 (M k 2 a)) :: st) (M)) : V p l e R s m args below meth c nL cy D ad A kc ks Q pc lv (.int (i32 a) :: .ref (ad 4 k 0) :: st) (M) := r_iald F d (dm1 ⟨by decide, by decide⟩ hc) (n := 8) (f := fun j => i32 (M k 2 (j : Int))) rfl h1 h2 (by decide) (by show i32 (M k 2 ((a.toNat : Nat) : Int)) = _; rw [Int.toNat_of_nonneg h1]) kk
theorem ia_4 {own : String} (F : Fx p s m args meth c own cc nL ret cy D ad A) {a : Int} (d : decode cc pc = .ok (.iaload, 1)) (hc : k < 2) (h1 : 0 ≤ a) (h2 : a < 8) (kk : V p l e R s m args below meth c nL cy D ad A kc ks Q (pc + 1) lv (.int (i32 (S 2 a)) :: st) (setc M k S)) : V p l e R s m args below meth c nL cy D ad A kc ks Q pc lv (.int (i32 a) :: .ref (ad 4 k 0) :: st) (setc M k S) := ig_4 F d hc h1 h2 (by rw [setc_at]; exact kk)
theorem is_4 {own : String} (F : Fx p s m args meth c own cc nL ret cy D ad A) {a v : Int} (d : decode cc pc = .ok (.iastore, 1)) (hc : k < 2) (h1 : 0 ≤ a) (h2 : a < 8) (kk : V p l e R s m args below meth c nL cy D ad A kc ks Q (pc + 1) lv st (setc M k (u2 S 2 a v))) : V p l e R s m args below meth c nL cy D ad A kc ks Q pc lv (.int (i32 v) :: .int (i32 a) :: .ref (ad 4 k 0) :: st) (setc M k S) := by
  refine r_iast F d (dm1 ⟨by decide, by decide⟩ hc) (n := 8) (f := fun j => i32 (S 2 (j : Int))) (by simp only [cel, setc_at]) h1 h2 (by decide) ?_ (oth (by simp [owner, hc])) kk
  simp only [cel, setc_at]
  congr 4
  funext j
  unfold u2 upd
  by_cases hj : j = a.toNat
  · rw [if_pos hj, if_pos ⟨rfl, by omega⟩]
  · rw [if_neg hj, if_neg (fun h => hj (by have := h.2; omega))]
theorem ig_5 {own : String} (F : Fx p s m args meth c own cc nL ret cy D ad A) {a : Int} (d : decode cc pc = .ok (.iaload, 1)) (hc : k < 2) (h1 : 0 ≤ a) (h2 : a < 8) (kk : V p l e R s m args below meth c nL cy D ad A kc ks Q (pc + 1) lv (.int (i32 (M k 3 a)) :: st) (M)) : V p l e R s m args below meth c nL cy D ad A kc ks Q pc lv (.int (i32 a) :: .ref (ad 5 k 0) :: st) (M) := r_iald F d (dm1 ⟨by decide, by decide⟩ hc) (n := 8) (f := fun j => i32 (M k 3 (j : Int))) rfl h1 h2 (by decide) (by show i32 (M k 3 ((a.toNat : Nat) : Int)) = _; rw [Int.toNat_of_nonneg h1]) kk
theorem ia_5 {own : String} (F : Fx p s m args meth c own cc nL ret cy D ad A) {a : Int} (d : decode cc pc = .ok (.iaload, 1)) (hc : k < 2) (h1 : 0 ≤ a) (h2 : a < 8) (kk : V p l e R s m args below meth c nL cy D ad A kc ks Q (pc + 1) lv (.int (i32 (S 3 a)) :: st) (setc M k S)) : V p l e R s m args below meth c nL cy D ad A kc ks Q pc lv (.int (i32 a) :: .ref (ad 5 k 0) :: st) (setc M k S) := ig_5 F d hc h1 h2 (by rw [setc_at]; exact kk)
theorem is_5 {own : String} (F : Fx p s m args meth c own cc nL ret cy D ad A) {a v : Int} (d : decode cc pc = .ok (.iastore, 1)) (hc : k < 2) (h1 : 0 ≤ a) (h2 : a < 8) (kk : V p l e R s m args below meth c nL cy D ad A kc ks Q (pc + 1) lv st (setc M k (u2 S 3 a v))) : V p l e R s m args below meth c nL cy D ad A kc ks Q pc lv (.int (i32 v) :: .int (i32 a) :: .ref (ad 5 k 0) :: st) (setc M k S) := by
  refine r_iast F d (dm1 ⟨by decide, by decide⟩ hc) (n := 8) (f := fun j => i32 (S 3 (j : Int))) (by simp only [cel, setc_at]) h1 h2 (by decide) ?_ (oth (by simp [owner, hc])) kk
  simp only [cel, setc_at]
  congr 4
  funext j
  unfold u2 upd
  by_cases hj : j = a.toNat
  · rw [if_pos hj, if_pos ⟨rfl, by omega⟩]
  · rw [if_neg hj, if_neg (fun h => hj (by have := h.2; omega))]
theorem ig_10 {own : String} (F : Fx p s m args meth c own cc nL ret cy D ad A) {a : Int} (d : decode cc pc = .ok (.iaload, 1)) (hc : k < 2) (h3 : 0 ≤ i) (h4 : i < 5) (h1 : 0 ≤ a) (h2 : a < 10) (kk : V p l e R s m args below meth c nL cy D ad A kc ks Q (pc + 1) lv (.int (i32 (M k 5 (10 * i + a))) :: st) (M)) : V p l e R s m args below meth c nL cy D ad A kc ks Q pc lv (.int (i32 a) :: .ref (ad 10 k i) :: st) (M) := r_iald F d (dm10 hc h3 h4) (n := 10) (f := fun j => if j < 10 then i32 (M k 5 (10 * i + (j : Int))) else 0) rfl h1 h2 (by decide) (by rw [if_pos (by omega), Int.toNat_of_nonneg h1]) kk
theorem ia_10 {own : String} (F : Fx p s m args meth c own cc nL ret cy D ad A) {a : Int} (d : decode cc pc = .ok (.iaload, 1)) (hc : k < 2) (h3 : 0 ≤ i) (h4 : i < 5) (h1 : 0 ≤ a) (h2 : a < 10) (kk : V p l e R s m args below meth c nL cy D ad A kc ks Q (pc + 1) lv (.int (i32 (S 5 (10 * i + a))) :: st) (setc M k S)) : V p l e R s m args below meth c nL cy D ad A kc ks Q pc lv (.int (i32 a) :: .ref (ad 10 k i) :: st) (setc M k S) := ig_10 F d hc h3 h4 h1 h2 (by rw [setc_at]; exact kk)
theorem is_10 {own : String} (F : Fx p s m args meth c own cc nL ret cy D ad A) {a v : Int} (d : decode cc pc = .ok (.iastore, 1)) (hc : k < 2) (h3 : 0 ≤ i) (h4 : i < 5) (h1 : 0 ≤ a) (h2 : a < 10) (kk : V p l e R s m args below meth c nL cy D ad A kc ks Q (pc + 1) lv st (setc M k (u2 S 5 (10 * i + a) v))) : V p l e R s m args below meth c nL cy D ad A kc ks Q pc lv (.int (i32 v) :: .int (i32 a) :: .ref (ad 10 k i) :: st) (setc M k S) := by
  refine r_iast F d (dm10 hc h3 h4) (n := 10) (f := fun j => if j < 10 then i32 (S 5 (10 * i + (j : Int))) else 0) (by simp only [cel, setc_at]) h1 h2 (by decide) ?_ (oth (by simp [owner, hc]; omega)) kk
  simp only [cel, setc_at]
  congr 4
  funext j
  unfold u2 upd
  by_cases hj : j = a.toNat
  · rw [if_pos hj, if_pos (by omega), if_pos ⟨rfl, by omega⟩]
  · rw [if_neg hj]
    dsimp only
    by_cases h9 : j < 10
    · rw [if_pos h9, if_pos h9, if_neg (fun h => hj (by have := h.2; omega))]
    · rw [if_neg h9, if_neg h9]
theorem aa_6 {own : String} (F : Fx p s m args meth c own cc nL ret cy D ad A) {a : Int} (d : decode cc pc = .ok (.aaload, 1)) (hc : k < 2) (h1 : 0 ≤ a) (h2 : a < 5) (kk : V p l e R s m args below meth c nL cy D ad A kc ks Q (pc + 1) lv (.ref (ad 9 k a) :: st) (M)) : V p l e R s m args below meth c nL cy D ad A kc ks Q pc lv (.int (i32 a) :: .ref (ad 6 k 0) :: st) (M) := r_aald F d (dm1 ⟨by decide, by decide⟩ hc) (n := 5) (tq := 2) (f := fun j => some (ad 9 k (j : Int))) rfl rfl h1 h2 (by decide) (by show some (ad 9 k ((a.toNat : Nat) : Int)) = _; rw [Int.toNat_of_nonneg h1]) kk
theorem aa_7 {own : String} (F : Fx p s m args meth c own cc nL ret cy D ad A) {a : Int} (d : decode cc pc = .ok (.aaload, 1)) (hc : k < 2) (h1 : 0 ≤ a) (h2 : a < 4) (kk : V p l e R s m args below meth c nL cy D ad A kc ks Q (pc + 1) lv (.ref (ad 11 k a) :: st) (M)) : V p l e R s m args below meth c nL cy D ad A kc ks Q pc lv (.int (i32 a) :: .ref (ad 7 k 0) :: st) (M) := r_aald F d (dm1 ⟨by decide, by decide⟩ hc) (n := 4) (tq := 3) (f := fun j => some (ad 11 k (j : Int))) rfl rfl h1 h2 (by decide) (by show some (ad 11 k ((a.toNat : Nat) : Int)) = _; rw [Int.toNat_of_nonneg h1]) kk
theorem aa_8 {own : String} (F : Fx p s m args meth c own cc nL ret cy D ad A) {a : Int} (d : decode cc pc = .ok (.aaload, 1)) (hc : k < 2) (h1 : 0 ≤ a) (h2 : a < 6) (kk : V p l e R s m args below meth c nL cy D ad A kc ks Q (pc + 1) lv (.ref (ad 12 k a) :: st) (M)) : V p l e R s m args below meth c nL cy D ad A kc ks Q pc lv (.int (i32 a) :: .ref (ad 8 k 0) :: st) (M) := r_aald F d (dm1 ⟨by decide, by decide⟩ hc) (n := 6) (tq := 4) (f := fun j => some (ad 12 k (j : Int))) rfl rfl h1 h2 (by decide) (by show some (ad 12 k ((a.toNat : Nat) : Int)) = _; rw [Int.toNat_of_nonneg h1]) kk
theorem ig_14 {own : String} (F : Fx p s m args meth c own cc nL ret cy D ad A) {a : Int} (d : decode cc pc = .ok (.iaload, 1)) (hs : ad 40 13 0 = 1) (h1 : 0 ≤ a) (h2 : a < 16) (kk : V p l e R s m args below meth c nL cy D ad A kc ks Q (pc + 1) lv (.int (i32 (M 2 0 a)) :: st) (M)) : V p l e R s m args below meth c nL cy D ad A kc ks Q pc lv (.int (i32 a) :: .ref (ad 14 2 0) :: st) (M) := r_iald F d (dm14 hs) (n := 16) (f := fun j => i32 (M 2 0 (j : Int))) rfl h1 h2 (by decide) (by show i32 (M 2 0 ((a.toNat : Nat) : Int)) = _; rw [Int.toNat_of_nonneg h1]) kk
theorem ia_14 {own : String} (F : Fx p s m args meth c own cc nL ret cy D ad A) {a : Int} (d : decode cc pc = .ok (.iaload, 1)) (hs : ad 40 13 0 = 1) (h1 : 0 ≤ a) (h2 : a < 16) (kk : V p l e R s m args below meth c nL cy D ad A kc ks Q (pc + 1) lv (.int (i32 (S 0 a)) :: st) (setc M 2 S)) : V p l e R s m args below meth c nL cy D ad A kc ks Q pc lv (.int (i32 a) :: .ref (ad 14 2 0) :: st) (setc M 2 S) := ig_14 F d hs h1 h2 (by rw [setc_at]; exact kk)
theorem is_14 {own : String} (F : Fx p s m args meth c own cc nL ret cy D ad A) {a v : Int} (d : decode cc pc = .ok (.iastore, 1)) (hs : ad 40 13 0 = 1) (h1 : 0 ≤ a) (h2 : a < 16) (kk : V p l e R s m args below meth c nL cy D ad A kc ks Q (pc + 1) lv st (setc M 2 (u2 S 0 a v))) : V p l e R s m args below meth c nL cy D ad A kc ks Q pc lv (.int (i32 v) :: .int (i32 a) :: .ref (ad 14 2 0) :: st) (setc M 2 S) := by
  refine r_iast F d (dm14 hs) (n := 16) (f := fun j => i32 (S 0 (j : Int))) (by simp only [cel, setc_at]) h1 h2 (by decide) ?_ (oth (by simp [owner])) kk
  simp only [cel, setc_at]
  congr 4
  funext j
  unfold u2 upd
  by_cases hj : j = a.toNat
  · rw [if_pos hj, if_pos ⟨rfl, by omega⟩]
  · rw [if_neg hj, if_neg (fun h => hj (by have := h.2; omega))]
theorem al_14 {own : String} (F : Fx p s m args meth c own cc nL ret cy D ad A) (d : decode cc pc = .ok (.arraylength, 1)) (hs : ad 40 13 0 = 1) (kk : V p l e R s m args below meth c nL cy D ad A kc ks Q (pc + 1) lv (.int (i32 16) :: st) (M)) : V p l e R s m args below meth c nL cy D ad A kc ks Q pc lv (.ref (ad 14 2 0) :: st) (M) := r_alen F d (dm14 hs) (x := (16, .inl (fun j => i32 (M 2 0 (j : Int))))) rfl (tq := 0) rfl kk
theorem ig_15 {own : String} (F : Fx p s m args meth c own cc nL ret cy D ad A) {a : Int} (d : decode cc pc = .ok (.iaload, 1)) (hs : ad 40 13 0 = 1) (h1 : 0 ≤ a) (h2 : a < 16) (kk : V p l e R s m args below meth c nL cy D ad A kc ks Q (pc + 1) lv (.int (i32 (M 2 1 a)) :: st) (M)) : V p l e R s m args below meth c nL cy D ad A kc ks Q pc lv (.int (i32 a) :: .ref (ad 15 2 0) :: st) (M) := r_iald F d (dm15 hs) (n := 16) (f := fun j => i32 (M 2 1 (j : Int))) rfl h1 h2 (by decide) (by show i32 (M 2 1 ((a.toNat : Nat) : Int)) = _; rw [Int.toNat_of_nonneg h1]) kk
theorem ia_15 {own : String} (F : Fx p s m args meth c own cc nL ret cy D ad A) {a : Int} (d : decode cc pc = .ok (.iaload, 1)) (hs : ad 40 13 0 = 1) (h1 : 0 ≤ a) (h2 : a < 16) (kk : V p l e R s m args below meth c nL cy D ad A kc ks Q (pc + 1) lv (.int (i32 (S 1 a)) :: st) (setc M 2 S)) : V p l e R s m args below meth c nL cy D ad A kc ks Q pc lv (.int (i32 a) :: .ref (ad 15 2 0) :: st) (setc M 2 S) := ig_15 F d hs h1 h2 (by rw [setc_at]; exact kk)
theorem is_15 {own : String} (F : Fx p s m args meth c own cc nL ret cy D ad A) {a v : Int} (d : decode cc pc = .ok (.iastore, 1)) (hs : ad 40 13 0 = 1) (h1 : 0 ≤ a) (h2 : a < 16) (kk : V p l e R s m args below meth c nL cy D ad A kc ks Q (pc + 1) lv st (setc M 2 (u2 S 1 a v))) : V p l e R s m args below meth c nL cy D ad A kc ks Q pc lv (.int (i32 v) :: .int (i32 a) :: .ref (ad 15 2 0) :: st) (setc M 2 S) := by
  refine r_iast F d (dm15 hs) (n := 16) (f := fun j => i32 (S 1 (j : Int))) (by simp only [cel, setc_at]) h1 h2 (by decide) ?_ (oth (by simp [owner])) kk
  simp only [cel, setc_at]
  congr 4
  funext j
  unfold u2 upd
  by_cases hj : j = a.toNat
  · rw [if_pos hj, if_pos ⟨rfl, by omega⟩]
  · rw [if_neg hj, if_neg (fun h => hj (by have := h.2; omega))]
theorem al_15 {own : String} (F : Fx p s m args meth c own cc nL ret cy D ad A) (d : decode cc pc = .ok (.arraylength, 1)) (hs : ad 40 13 0 = 1) (kk : V p l e R s m args below meth c nL cy D ad A kc ks Q (pc + 1) lv (.int (i32 16) :: st) (M)) : V p l e R s m args below meth c nL cy D ad A kc ks Q pc lv (.ref (ad 15 2 0) :: st) (M) := r_alen F d (dm15 hs) (x := (16, .inl (fun j => i32 (M 2 1 (j : Int))))) rfl (tq := 0) rfl kk
theorem ig_16 {own : String} (F : Fx p s m args meth c own cc nL ret cy D ad A) {a : Int} (d : decode cc pc = .ok (.iaload, 1)) (hs : ad 40 13 0 = 1) (h1 : 0 ≤ a) (h2 : a < 8) (kk : V p l e R s m args below meth c nL cy D ad A kc ks Q (pc + 1) lv (.int (i32 (M 2 2 a)) :: st) (M)) : V p l e R s m args below meth c nL cy D ad A kc ks Q pc lv (.int (i32 a) :: .ref (ad 16 2 0) :: st) (M) := r_iald F d (dm16 hs) (n := 8) (f := fun j => i32 (M 2 2 (j : Int))) rfl h1 h2 (by decide) (by show i32 (M 2 2 ((a.toNat : Nat) : Int)) = _; rw [Int.toNat_of_nonneg h1]) kk
theorem ia_16 {own : String} (F : Fx p s m args meth c own cc nL ret cy D ad A) {a : Int} (d : decode cc pc = .ok (.iaload, 1)) (hs : ad 40 13 0 = 1) (h1 : 0 ≤ a) (h2 : a < 8) (kk : V p l e R s m args below meth c nL cy D ad A kc ks Q (pc + 1) lv (.int (i32 (S 2 a)) :: st) (setc M 2 S)) : V p l e R s m args below meth c nL cy D ad A kc ks Q pc lv (.int (i32 a) :: .ref (ad 16 2 0) :: st) (setc M 2 S) := ig_16 F d hs h1 h2 (by rw [setc_at]; exact kk)
theorem is_16 {own : String} (F : Fx p s m args meth c own cc nL ret cy D ad A) {a v : Int} (d : decode cc pc = .ok (.iastore, 1)) (hs : ad 40 13 0 = 1) (h1 : 0 ≤ a) (h2 : a < 8) (kk : V p l e R s m args below meth c nL cy D ad A kc ks Q (pc + 1) lv st (setc M 2 (u2 S 2 a v))) : V p l e R s m args below meth c nL cy D ad A kc ks Q pc lv (.int (i32 v) :: .int (i32 a) :: .ref (ad 16 2 0) :: st) (setc M 2 S) := by
  refine r_iast F d (dm16 hs) (n := 8) (f := fun j => i32 (S 2 (j : Int))) (by simp only [cel, setc_at]) h1 h2 (by decide) ?_ (oth (by simp [owner])) kk
  simp only [cel, setc_at]
  congr 4
  funext j
  unfold u2 upd
  by_cases hj : j = a.toNat
  · rw [if_pos hj, if_pos ⟨rfl, by omega⟩]
  · rw [if_neg hj, if_neg (fun h => hj (by have := h.2; omega))]
theorem al_16 {own : String} (F : Fx p s m args meth c own cc nL ret cy D ad A) (d : decode cc pc = .ok (.arraylength, 1)) (hs : ad 40 13 0 = 1) (kk : V p l e R s m args below meth c nL cy D ad A kc ks Q (pc + 1) lv (.int (i32 8) :: st) (M)) : V p l e R s m args below meth c nL cy D ad A kc ks Q pc lv (.ref (ad 16 2 0) :: st) (M) := r_alen F d (dm16 hs) (x := (8, .inl (fun j => i32 (M 2 2 (j : Int))))) rfl (tq := 0) rfl kk
theorem ig_17 {own : String} (F : Fx p s m args meth c own cc nL ret cy D ad A) {a : Int} (d : decode cc pc = .ok (.iaload, 1)) (hs : ad 40 13 0 = 1) (h1 : 0 ≤ a) (h2 : a < 8) (kk : V p l e R s m args below meth c nL cy D ad A kc ks Q (pc + 1) lv (.int (i32 (M 2 3 a)) :: st) (M)) : V p l e R s m args below meth c nL cy D ad A kc ks Q pc lv (.int (i32 a) :: .ref (ad 17 2 0) :: st) (M) := r_iald F d (dm17 hs) (n := 8) (f := fun j => i32 (M 2 3 (j : Int))) rfl h1 h2 (by decide) (by show i32 (M 2 3 ((a.toNat : Nat) : Int)) = _; rw [Int.toNat_of_nonneg h1]) kk
theorem ia_17 {own : String} (F : Fx p s m args meth c own cc nL ret cy D ad A) {a : Int} (d : decode cc pc = .ok (.iaload, 1)) (hs : ad 40 13 0 = 1) (h1 : 0 ≤ a) (h2 : a < 8) (kk : V p l e R s m args below meth c nL cy D ad A kc ks Q (pc + 1) lv (.int (i32 (S 3 a)) :: st) (setc M 2 S)) : V p l e R s m args below meth c nL cy D ad A kc ks Q pc lv (.int (i32 a) :: .ref (ad 17 2 0) :: st) (setc M 2 S) := ig_17 F d hs h1 h2 (by rw [setc_at]; exact kk)
theorem is_17 {own : String} (F : Fx p s m args meth c own cc nL ret cy D ad A) {a v : Int} (d : decode cc pc = .ok (.iastore, 1)) (hs : ad 40 13 0 = 1) (h1 : 0 ≤ a) (h2 : a < 8) (kk : V p l e R s m args below meth c nL cy D ad A kc ks Q (pc + 1) lv st (setc M 2 (u2 S 3 a v))) : V p l e R s m args below meth c nL cy D ad A kc ks Q pc lv (.int (i32 v) :: .int (i32 a) :: .ref (ad 17 2 0) :: st) (setc M 2 S) := by
  refine r_iast F d (dm17 hs) (n := 8) (f := fun j => i32 (S 3 (j : Int))) (by simp only [cel, setc_at]) h1 h2 (by decide) ?_ (oth (by simp [owner])) kk
  simp only [cel, setc_at]
  congr 4
  funext j
  unfold u2 upd
  by_cases hj : j = a.toNat
  · rw [if_pos hj, if_pos ⟨rfl, by omega⟩]
  · rw [if_neg hj, if_neg (fun h => hj (by have := h.2; omega))]
theorem al_17 {own : String} (F : Fx p s m args meth c own cc nL ret cy D ad A) (d : decode cc pc = .ok (.arraylength, 1)) (hs : ad 40 13 0 = 1) (kk : V p l e R s m args below meth c nL cy D ad A kc ks Q (pc + 1) lv (.int (i32 8) :: st) (M)) : V p l e R s m args below meth c nL cy D ad A kc ks Q pc lv (.ref (ad 17 2 0) :: st) (M) := r_alen F d (dm17 hs) (x := (8, .inl (fun j => i32 (M 2 3 (j : Int))))) rfl (tq := 0) rfl kk
theorem aa_18 {own : String} (F : Fx p s m args meth c own cc nL ret cy D ad A) {a : Int} (d : decode cc pc = .ok (.aaload, 1)) (hs : ad 40 13 0 = 1) (h1 : 0 ≤ a) (h2 : a < (ad 41 18 0 : Int)) (h3 : (ad 41 18 0 : Int) < 2147483648) (kk : V p l e R s m args below meth c nL cy D ad A kc ks Q (pc + 1) lv (.ref (ad 21 2 a) :: st) (M)) : V p l e R s m args below meth c nL cy D ad A kc ks Q pc lv (.int (i32 a) :: .ref (ad 18 2 0) :: st) (M) := r_aaldA F d (dm18 hs) (n := ad 41 18 0) (tq := 1) (f := fun j => some (ad 21 2 (j : Int))) rfl rfl h1 h2 (by omega) (by show some (ad 21 2 ((a.toNat : Nat) : Int)) = _; rw [Int.toNat_of_nonneg h1]) kk
theorem al_18 {own : String} (F : Fx p s m args meth c own cc nL ret cy D ad A) {v : Int} (d : decode cc pc = .ok (.arraylength, 1)) (hs : ad 40 13 0 = 1) (hv : (ad 41 18 0 : Int) = v) (kk : V p l e R s m args below meth c nL cy D ad A kc ks Q (pc + 1) lv (.int (i32 v) :: st) (M)) : V p l e R s m args below meth c nL cy D ad A kc ks Q pc lv (.ref (ad 18 2 0) :: st) (M) := r_alen F d (dm18 hs) (x := (ad 41 18 0, .inr (.inr (.inr (.inr (fun j => some (ad 21 2 (j : Int)))))))) rfl (tq := 1) rfl (by subst hv; exact kk)
theorem aa_19 {own : String} (F : Fx p s m args meth c own cc nL ret cy D ad A) {a : Int} (d : decode cc pc = .ok (.aaload, 1)) (hs : ad 40 13 0 = 1) (h1 : 0 ≤ a) (h2 : a < (ad 41 19 0 : Int)) (h3 : (ad 41 19 0 : Int) < 2147483648) (kk : V p l e R s m args below meth c nL cy D ad A kc ks Q (pc + 1) lv (.ref (ad 22 2 a) :: st) (M)) : V p l e R s m args below meth c nL cy D ad A kc ks Q pc lv (.int (i32 a) :: .ref (ad 19 2 0) :: st) (M) := r_aaldA F d (dm19 hs) (n := ad 41 19 0) (tq := 1) (f := fun j => some (ad 22 2 (j : Int))) rfl rfl h1 h2 (by omega) (by show some (ad 22 2 ((a.toNat : Nat) : Int)) = _; rw [Int.toNat_of_nonneg h1]) kk
theorem al_19 {own : String} (F : Fx p s m args meth c own cc nL ret cy D ad A) {v : Int} (d : decode cc pc = .ok (.arraylength, 1)) (hs : ad 40 13 0 = 1) (hv : (ad 41 19 0 : Int) = v) (kk : V p l e R s m args below meth c nL cy D ad A kc ks Q (pc + 1) lv (.int (i32 v) :: st) (M)) : V p l e R s m args below meth c nL cy D ad A kc ks Q pc lv (.ref (ad 19 2 0) :: st) (M) := r_alen F d (dm19 hs) (x := (ad 41 19 0, .inr (.inr (.inr (.inr (fun j => some (ad 22 2 (j : Int)))))))) rfl (tq := 1) rfl (by subst hv; exact kk)
theorem aa_20 {own : String} (F : Fx p s m args meth c own cc nL ret cy D ad A) {a : Int} (d : decode cc pc = .ok (.aaload, 1)) (hs : ad 40 13 0 = 1) (h1 : 0 ≤ a) (h2 : a < (ad 41 20 0 : Int)) (h3 : (ad 41 20 0 : Int) < 2147483648) (kk : V p l e R s m args below meth c nL cy D ad A kc ks Q (pc + 1) lv (.ref (ad 23 2 a) :: st) (M)) : V p l e R s m args below meth c nL cy D ad A kc ks Q pc lv (.int (i32 a) :: .ref (ad 20 2 0) :: st) (M) := r_aaldA F d (dm20 hs) (n := ad 41 20 0) (tq := 1) (f := fun j => some (ad 23 2 (j : Int))) rfl rfl h1 h2 (by omega) (by show some (ad 23 2 ((a.toNat : Nat) : Int)) = _; rw [Int.toNat_of_nonneg h1]) kk
theorem al_20 {own : String} (F : Fx p s m args meth c own cc nL ret cy D ad A) {v : Int} (d : decode cc pc = .ok (.arraylength, 1)) (hs : ad 40 13 0 = 1) (hv : (ad 41 20 0 : Int) = v) (kk : V p l e R s m args below meth c nL cy D ad A kc ks Q (pc + 1) lv (.int (i32 v) :: st) (M)) : V p l e R s m args below meth c nL cy D ad A kc ks Q pc lv (.ref (ad 20 2 0) :: st) (M) := r_alen F d (dm20 hs) (x := (ad 41 20 0, .inr (.inr (.inr (.inr (fun j => some (ad 23 2 (j : Int)))))))) rfl (tq := 1) rfl (by subst hv; exact kk)
theorem ia_21_0 {own : String} (F : Fx p s m args meth c own cc nL ret cy D ad A)  (d : decode cc pc = .ok (.iaload, 1)) (hs : ad 40 13 0 = 1) (h3 : 0 ≤ i) (h4 : i < 5) (h5 : i < (ad 41 18 0 : Int)) (kk : V p l e R s m args below meth c nL cy D ad A kc ks Q (pc + 1) lv (.int (i32 (S 4 i)) :: st) (setc M 2 S)) : V p l e R s m args below meth c nL cy D ad A kc ks Q pc lv (.int (i32 0) :: .ref (ad 21 2 i) :: st) (setc M 2 S) := by
  refine r_iald F d (dm21 hs h3 h4 h5) (n := 12) (f := fun j => i32 (lanV (setc M 2 S) 2 i j)) rfl (by omega) (by omega) (by decide) (v := S 4 i) ?_ kk
  show i32 (lanV (setc M 2 S) 2 i 0) = _; unfold lanV; rw [if_pos rfl, setc_at]
theorem ia_21_11 {own : String} (F : Fx p s m args meth c own cc nL ret cy D ad A)  (d : decode cc pc = .ok (.iaload, 1)) (hs : ad 40 13 0 = 1) (h3 : 0 ≤ i) (h4 : i < 5) (h5 : i < (ad 41 18 0 : Int)) (kk : V p l e R s m args below meth c nL cy D ad A kc ks Q (pc + 1) lv (.int (i32 (S 6 i)) :: st) (setc M 2 S)) : V p l e R s m args below meth c nL cy D ad A kc ks Q pc lv (.int (i32 11) :: .ref (ad 21 2 i) :: st) (setc M 2 S) := by
  refine r_iald F d (dm21 hs h3 h4 h5) (n := 12) (f := fun j => i32 (lanV (setc M 2 S) 2 i j)) rfl (by omega) (by omega) (by decide) (v := S 6 i) ?_ kk
  show i32 (lanV (setc M 2 S) 2 i 11) = _; unfold lanV; rw [if_neg (by decide), if_neg (by decide), if_pos rfl, setc_at]
theorem ia_21_t {own : String} (F : Fx p s m args meth c own cc nL ret cy D ad A) {a : Int} (ha : 0 ≤ a ∧ a < 10) (d : decode cc pc = .ok (.iaload, 1)) (hs : ad 40 13 0 = 1) (h3 : 0 ≤ i) (h4 : i < 5) (h5 : i < (ad 41 18 0 : Int)) (kk : V p l e R s m args below meth c nL cy D ad A kc ks Q (pc + 1) lv (.int (i32 (S 5 (10 * i + a))) :: st) (setc M 2 S)) : V p l e R s m args below meth c nL cy D ad A kc ks Q pc lv (.int (i32 (1 + a)) :: .ref (ad 21 2 i) :: st) (setc M 2 S) := by
  refine r_iald F d (dm21 hs h3 h4 h5) (n := 12) (f := fun j => i32 (lanV (setc M 2 S) 2 i j)) rfl (by omega) (by omega) (by decide) (v := S 5 (10 * i + a)) ?_ kk
  show i32 (lanV (setc M 2 S) 2 i (1 + a).toNat) = _; unfold lanV; rw [if_neg (by omega), if_pos (by omega), setc_at, show (((1 + a).toNat : Nat) : Int) - 1 = a by omega]
theorem ia_22_0 {own : String} (F : Fx p s m args meth c own cc nL ret cy D ad A)  (d : decode cc pc = .ok (.iaload, 1)) (hs : ad 40 13 0 = 1) (h3 : 0 ≤ i) (h4 : i < 4) (h5 : i < (ad 41 19 0 : Int)) (kk : V p l e R s m args below meth c nL cy D ad A kc ks Q (pc + 1) lv (.int (i32 (S 7 i)) :: st) (setc M 2 S)) : V p l e R s m args below meth c nL cy D ad A kc ks Q pc lv (.int (i32 0) :: .ref (ad 22 2 i) :: st) (setc M 2 S) := by
  refine r_iald F d (dm22 hs h3 h4 h5) (n := 6) (f := fun j => i32 (watV (setc M 2 S) 2 i j)) rfl (by omega) (by omega) (by decide) (v := S 7 i) ?_ kk
  show i32 (watV (setc M 2 S) 2 i 0) = _; unfold watV; rw [if_pos (by decide), setc_at]
theorem ia_22_1 {own : String} (F : Fx p s m args meth c own cc nL ret cy D ad A)  (d : decode cc pc = .ok (.iaload, 1)) (hs : ad 40 13 0 = 1) (h3 : 0 ≤ i) (h4 : i < 4) (h5 : i < (ad 41 19 0 : Int)) (kk : V p l e R s m args below meth c nL cy D ad A kc ks Q (pc + 1) lv (.int (i32 (S 8 i)) :: st) (setc M 2 S)) : V p l e R s m args below meth c nL cy D ad A kc ks Q pc lv (.int (i32 1) :: .ref (ad 22 2 i) :: st) (setc M 2 S) := by
  refine r_iald F d (dm22 hs h3 h4 h5) (n := 6) (f := fun j => i32 (watV (setc M 2 S) 2 i j)) rfl (by omega) (by omega) (by decide) (v := S 8 i) ?_ kk
  show i32 (watV (setc M 2 S) 2 i 1) = _; unfold watV; rw [if_pos (by decide), setc_at]
theorem ia_22_2 {own : String} (F : Fx p s m args meth c own cc nL ret cy D ad A)  (d : decode cc pc = .ok (.iaload, 1)) (hs : ad 40 13 0 = 1) (h3 : 0 ≤ i) (h4 : i < 4) (h5 : i < (ad 41 19 0 : Int)) (kk : V p l e R s m args below meth c nL cy D ad A kc ks Q (pc + 1) lv (.int (i32 (S 9 i)) :: st) (setc M 2 S)) : V p l e R s m args below meth c nL cy D ad A kc ks Q pc lv (.int (i32 2) :: .ref (ad 22 2 i) :: st) (setc M 2 S) := by
  refine r_iald F d (dm22 hs h3 h4 h5) (n := 6) (f := fun j => i32 (watV (setc M 2 S) 2 i j)) rfl (by omega) (by omega) (by decide) (v := S 9 i) ?_ kk
  show i32 (watV (setc M 2 S) 2 i 2) = _; unfold watV; rw [if_pos (by decide), setc_at]
theorem ia_22_3 {own : String} (F : Fx p s m args meth c own cc nL ret cy D ad A)  (d : decode cc pc = .ok (.iaload, 1)) (hs : ad 40 13 0 = 1) (h3 : 0 ≤ i) (h4 : i < 4) (h5 : i < (ad 41 19 0 : Int)) (kk : V p l e R s m args below meth c nL cy D ad A kc ks Q (pc + 1) lv (.int (i32 (S 10 i)) :: st) (setc M 2 S)) : V p l e R s m args below meth c nL cy D ad A kc ks Q pc lv (.int (i32 3) :: .ref (ad 22 2 i) :: st) (setc M 2 S) := by
  refine r_iald F d (dm22 hs h3 h4 h5) (n := 6) (f := fun j => i32 (watV (setc M 2 S) 2 i j)) rfl (by omega) (by omega) (by decide) (v := S 10 i) ?_ kk
  show i32 (watV (setc M 2 S) 2 i 3) = _; unfold watV; rw [if_pos (by decide), setc_at]
theorem ia_22_4 {own : String} (F : Fx p s m args meth c own cc nL ret cy D ad A)  (d : decode cc pc = .ok (.iaload, 1)) (hs : ad 40 13 0 = 1) (h3 : 0 ≤ i) (h4 : i < 4) (h5 : i < (ad 41 19 0 : Int)) (kk : V p l e R s m args below meth c nL cy D ad A kc ks Q (pc + 1) lv (.int (i32 (S 11 i)) :: st) (setc M 2 S)) : V p l e R s m args below meth c nL cy D ad A kc ks Q pc lv (.int (i32 4) :: .ref (ad 22 2 i) :: st) (setc M 2 S) := by
  refine r_iald F d (dm22 hs h3 h4 h5) (n := 6) (f := fun j => i32 (watV (setc M 2 S) 2 i j)) rfl (by omega) (by omega) (by decide) (v := S 11 i) ?_ kk
  show i32 (watV (setc M 2 S) 2 i 4) = _; unfold watV; rw [if_pos (by decide), setc_at]
theorem ia_22_5 {own : String} (F : Fx p s m args meth c own cc nL ret cy D ad A)  (d : decode cc pc = .ok (.iaload, 1)) (hs : ad 40 13 0 = 1) (h3 : 0 ≤ i) (h4 : i < 4) (h5 : i < (ad 41 19 0 : Int)) (kk : V p l e R s m args below meth c nL cy D ad A kc ks Q (pc + 1) lv (.int (i32 (S 12 i)) :: st) (setc M 2 S)) : V p l e R s m args below meth c nL cy D ad A kc ks Q pc lv (.int (i32 5) :: .ref (ad 22 2 i) :: st) (setc M 2 S) := by
  refine r_iald F d (dm22 hs h3 h4 h5) (n := 6) (f := fun j => i32 (watV (setc M 2 S) 2 i j)) rfl (by omega) (by omega) (by decide) (v := S 12 i) ?_ kk
  show i32 (watV (setc M 2 S) 2 i 5) = _; unfold watV; rw [if_pos (by decide), setc_at]
theorem ia_23_0 {own : String} (F : Fx p s m args meth c own cc nL ret cy D ad A)  (d : decode cc pc = .ok (.iaload, 1)) (hs : ad 40 13 0 = 1) (h3 : 0 ≤ i) (h4 : i < 6) (h5 : i < (ad 41 20 0 : Int)) (kk : V p l e R s m args below meth c nL cy D ad A kc ks Q (pc + 1) lv (.int (i32 (S 13 i)) :: st) (setc M 2 S)) : V p l e R s m args below meth c nL cy D ad A kc ks Q pc lv (.int (i32 0) :: .ref (ad 23 2 i) :: st) (setc M 2 S) := by
  refine r_iald F d (dm23 hs h3 h4 h5) (n := 7) (f := fun j => i32 (boaV (setc M 2 S) 2 i j)) rfl (by omega) (by omega) (by decide) (v := S 13 i) ?_ kk
  show i32 (boaV (setc M 2 S) 2 i 0) = _; unfold boaV; rw [if_pos (by decide), setc_at]; rfl
theorem ia_23_1 {own : String} (F : Fx p s m args meth c own cc nL ret cy D ad A)  (d : decode cc pc = .ok (.iaload, 1)) (hs : ad 40 13 0 = 1) (h3 : 0 ≤ i) (h4 : i < 6) (h5 : i < (ad 41 20 0 : Int)) (kk : V p l e R s m args below meth c nL cy D ad A kc ks Q (pc + 1) lv (.int (i32 (S 14 i)) :: st) (setc M 2 S)) : V p l e R s m args below meth c nL cy D ad A kc ks Q pc lv (.int (i32 1) :: .ref (ad 23 2 i) :: st) (setc M 2 S) := by
  refine r_iald F d (dm23 hs h3 h4 h5) (n := 7) (f := fun j => i32 (boaV (setc M 2 S) 2 i j)) rfl (by omega) (by omega) (by decide) (v := S 14 i) ?_ kk
  show i32 (boaV (setc M 2 S) 2 i 1) = _; unfold boaV; rw [if_pos (by decide), setc_at]; rfl
theorem ia_23_2 {own : String} (F : Fx p s m args meth c own cc nL ret cy D ad A)  (d : decode cc pc = .ok (.iaload, 1)) (hs : ad 40 13 0 = 1) (h3 : 0 ≤ i) (h4 : i < 6) (h5 : i < (ad 41 20 0 : Int)) (kk : V p l e R s m args below meth c nL cy D ad A kc ks Q (pc + 1) lv (.int (i32 (S 15 i)) :: st) (setc M 2 S)) : V p l e R s m args below meth c nL cy D ad A kc ks Q pc lv (.int (i32 2) :: .ref (ad 23 2 i) :: st) (setc M 2 S) := by
  refine r_iald F d (dm23 hs h3 h4 h5) (n := 7) (f := fun j => i32 (boaV (setc M 2 S) 2 i j)) rfl (by omega) (by omega) (by decide) (v := S 15 i) ?_ kk
  show i32 (boaV (setc M 2 S) 2 i 2) = _; unfold boaV; rw [if_pos (by decide), setc_at]; rfl
theorem ia_23_3 {own : String} (F : Fx p s m args meth c own cc nL ret cy D ad A)  (d : decode cc pc = .ok (.iaload, 1)) (hs : ad 40 13 0 = 1) (h3 : 0 ≤ i) (h4 : i < 6) (h5 : i < (ad 41 20 0 : Int)) (kk : V p l e R s m args below meth c nL cy D ad A kc ks Q (pc + 1) lv (.int (i32 (fm (S 18 i))) :: st) (setc M 2 S)) : V p l e R s m args below meth c nL cy D ad A kc ks Q pc lv (.int (i32 3) :: .ref (ad 23 2 i) :: st) (setc M 2 S) := by
  refine r_iald F d (dm23 hs h3 h4 h5) (n := 7) (f := fun j => i32 (boaV (setc M 2 S) 2 i j)) rfl (by omega) (by omega) (by decide) (v := fm (S 18 i)) ?_ kk
  show i32 (boaV (setc M 2 S) 2 i 3) = _; unfold boaV; rw [if_pos (by decide), setc_at]; rfl
theorem ia_23_4 {own : String} (F : Fx p s m args meth c own cc nL ret cy D ad A)  (d : decode cc pc = .ok (.iaload, 1)) (hs : ad 40 13 0 = 1) (h3 : 0 ≤ i) (h4 : i < 6) (h5 : i < (ad 41 20 0 : Int)) (kk : V p l e R s m args below meth c nL cy D ad A kc ks Q (pc + 1) lv (.int (i32 (S 19 i)) :: st) (setc M 2 S)) : V p l e R s m args below meth c nL cy D ad A kc ks Q pc lv (.int (i32 4) :: .ref (ad 23 2 i) :: st) (setc M 2 S) := by
  refine r_iald F d (dm23 hs h3 h4 h5) (n := 7) (f := fun j => i32 (boaV (setc M 2 S) 2 i j)) rfl (by omega) (by omega) (by decide) (v := S 19 i) ?_ kk
  show i32 (boaV (setc M 2 S) 2 i 4) = _; unfold boaV; rw [if_pos (by decide), setc_at]; rfl
theorem ia_23_5 {own : String} (F : Fx p s m args meth c own cc nL ret cy D ad A)  (d : decode cc pc = .ok (.iaload, 1)) (hs : ad 40 13 0 = 1) (h3 : 0 ≤ i) (h4 : i < 6) (h5 : i < (ad 41 20 0 : Int)) (kk : V p l e R s m args below meth c nL cy D ad A kc ks Q (pc + 1) lv (.int (i32 (S 16 i)) :: st) (setc M 2 S)) : V p l e R s m args below meth c nL cy D ad A kc ks Q pc lv (.int (i32 5) :: .ref (ad 23 2 i) :: st) (setc M 2 S) := by
  refine r_iald F d (dm23 hs h3 h4 h5) (n := 7) (f := fun j => i32 (boaV (setc M 2 S) 2 i j)) rfl (by omega) (by omega) (by decide) (v := S 16 i) ?_ kk
  show i32 (boaV (setc M 2 S) 2 i 5) = _; unfold boaV; rw [if_pos (by decide), setc_at]; rfl
theorem ia_23_6 {own : String} (F : Fx p s m args meth c own cc nL ret cy D ad A)  (d : decode cc pc = .ok (.iaload, 1)) (hs : ad 40 13 0 = 1) (h3 : 0 ≤ i) (h4 : i < 6) (h5 : i < (ad 41 20 0 : Int)) (kk : V p l e R s m args below meth c nL cy D ad A kc ks Q (pc + 1) lv (.int (i32 (S 17 i)) :: st) (setc M 2 S)) : V p l e R s m args below meth c nL cy D ad A kc ks Q pc lv (.int (i32 6) :: .ref (ad 23 2 i) :: st) (setc M 2 S) := by
  refine r_iald F d (dm23 hs h3 h4 h5) (n := 7) (f := fun j => i32 (boaV (setc M 2 S) 2 i j)) rfl (by omega) (by omega) (by decide) (v := S 17 i) ?_ kk
  show i32 (boaV (setc M 2 S) 2 i 6) = _; unfold boaV; rw [if_pos (by decide), setc_at]; rfl
theorem is_21_11 {own : String} (F : Fx p s m args meth c own cc nL ret cy D ad A) {v : Int}  (d : decode cc pc = .ok (.iastore, 1)) (hs : ad 40 13 0 = 1) (h3 : 0 ≤ i) (h4 : i < 5) (h5 : i < (ad 41 18 0 : Int)) (kk : V p l e R s m args below meth c nL cy D ad A kc ks Q (pc + 1) lv st (setc M 2 (u2 S 6 i v))) : V p l e R s m args below meth c nL cy D ad A kc ks Q pc lv (.int (i32 v) :: .int (i32 11) :: .ref (ad 21 2 i) :: st) (setc M 2 S) := by
  refine r_iast F d (dm21 hs h3 h4 h5) (n := 12) (f := fun j => i32 (lanV (setc M 2 S) 2 i j)) rfl (by omega) (by omega) (by decide) ?_ (oth (by simp [owner])) kk
  simp only [cel]
  congr 4
  funext j
  unfold upd
  by_cases hj : j = (11 : Int).toNat
  · rw [if_pos hj]
    unfold lanV
    rw [if_neg (by omega), if_neg (by omega), if_pos (by omega), setc_at, u2_at]
  · rw [if_neg hj]
    dsimp only
    unfold lanV
    simp only [setc_at]
    by_cases h0 : j = 0
    · rw [if_pos h0, if_pos h0, u2_k (by decide)]
    · rw [if_neg h0, if_neg h0]
      by_cases h1 : j < 11
      · rw [if_pos h1, if_pos h1, u2_k (by decide)]
      · rw [if_neg h1, if_neg h1, if_neg (by omega), if_neg (by omega)]
theorem is_21_t {own : String} (F : Fx p s m args meth c own cc nL ret cy D ad A) {v : Int} {a : Int} (ha : 0 ≤ a ∧ a < 10) (d : decode cc pc = .ok (.iastore, 1)) (hs : ad 40 13 0 = 1) (h3 : 0 ≤ i) (h4 : i < 5) (h5 : i < (ad 41 18 0 : Int)) (kk : V p l e R s m args below meth c nL cy D ad A kc ks Q (pc + 1) lv st (setc M 2 (u2 S 5 (10 * i + a) v))) : V p l e R s m args below meth c nL cy D ad A kc ks Q pc lv (.int (i32 v) :: .int (i32 (1 + a)) :: .ref (ad 21 2 i) :: st) (setc M 2 S) := by
  refine r_iast F d (dm21 hs h3 h4 h5) (n := 12) (f := fun j => i32 (lanV (setc M 2 S) 2 i j)) rfl (by omega) (by omega) (by decide) ?_ (oth (by simp [owner]; omega)) kk
  simp only [cel]
  congr 4
  funext j
  unfold upd
  by_cases hj : j = (1 + a).toNat
  · rw [if_pos hj]
    unfold lanV
    rw [if_neg (by omega), if_pos (by omega), setc_at, show 10 * i + ((j : Int) - 1) = 10 * i + a by omega, u2_at]
  · rw [if_neg hj]
    dsimp only
    unfold lanV
    simp only [setc_at]
    by_cases h0 : j = 0
    · rw [if_pos h0, if_pos h0, u2_k (by decide)]
    · rw [if_neg h0, if_neg h0]
      by_cases h1 : j < 11
      · rw [if_pos h1, if_pos h1, u2_i (by omega)]
      · rw [if_neg h1, if_neg h1, u2_k (by decide)]
theorem is_22_0 {own : String} (F : Fx p s m args meth c own cc nL ret cy D ad A) {v : Int}  (d : decode cc pc = .ok (.iastore, 1)) (hs : ad 40 13 0 = 1) (h3 : 0 ≤ i) (h4 : i < 4) (h5 : i < (ad 41 19 0 : Int)) (kk : V p l e R s m args below meth c nL cy D ad A kc ks Q (pc + 1) lv st (setc M 2 (u2 S 7 i v))) : V p l e R s m args below meth c nL cy D ad A kc ks Q pc lv (.int (i32 v) :: .int (i32 0) :: .ref (ad 22 2 i) :: st) (setc M 2 S) := by
  refine r_iast F d (dm22 hs h3 h4 h5) (n := 6) (f := fun j => i32 (watV (setc M 2 S) 2 i j)) rfl (by omega) (by omega) (by decide) ?_ (oth (by simp [owner])) kk
  simp only [cel]
  congr 4
  funext j
  unfold upd
  by_cases hj : j = (0 : Int).toNat
  · rw [if_pos hj]
    unfold watV
    rw [if_pos (by omega), setc_at, show 7 + j = 7 by omega, u2_at]
  · rw [if_neg hj]
    dsimp only
    unfold watV
    simp only [setc_at]
    by_cases h0 : j < 6
    · rw [if_pos h0, if_pos h0, u2_k (by omega)]
    · rw [if_neg h0, if_neg h0]
theorem is_22_1 {own : String} (F : Fx p s m args meth c own cc nL ret cy D ad A) {v : Int}  (d : decode cc pc = .ok (.iastore, 1)) (hs : ad 40 13 0 = 1) (h3 : 0 ≤ i) (h4 : i < 4) (h5 : i < (ad 41 19 0 : Int)) (kk : V p l e R s m args below meth c nL cy D ad A kc ks Q (pc + 1) lv st (setc M 2 (u2 S 8 i v))) : V p l e R s m args below meth c nL cy D ad A kc ks Q pc lv (.int (i32 v) :: .int (i32 1) :: .ref (ad 22 2 i) :: st) (setc M 2 S) := by
  refine r_iast F d (dm22 hs h3 h4 h5) (n := 6) (f := fun j => i32 (watV (setc M 2 S) 2 i j)) rfl (by omega) (by omega) (by decide) ?_ (oth (by simp [owner])) kk
  simp only [cel]
  congr 4
  funext j
  unfold upd
  by_cases hj : j = (1 : Int).toNat
  · rw [if_pos hj]
    unfold watV
    rw [if_pos (by omega), setc_at, show 7 + j = 8 by omega, u2_at]
  · rw [if_neg hj]
    dsimp only
    unfold watV
    simp only [setc_at]
    by_cases h0 : j < 6
    · rw [if_pos h0, if_pos h0, u2_k (by omega)]
    · rw [if_neg h0, if_neg h0]
theorem is_22_2 {own : String} (F : Fx p s m args meth c own cc nL ret cy D ad A) {v : Int}  (d : decode cc pc = .ok (.iastore, 1)) (hs : ad 40 13 0 = 1) (h3 : 0 ≤ i) (h4 : i < 4) (h5 : i < (ad 41 19 0 : Int)) (kk : V p l e R s m args below meth c nL cy D ad A kc ks Q (pc + 1) lv st (setc M 2 (u2 S 9 i v))) : V p l e R s m args below meth c nL cy D ad A kc ks Q pc lv (.int (i32 v) :: .int (i32 2) :: .ref (ad 22 2 i) :: st) (setc M 2 S) := by
  refine r_iast F d (dm22 hs h3 h4 h5) (n := 6) (f := fun j => i32 (watV (setc M 2 S) 2 i j)) rfl (by omega) (by omega) (by decide) ?_ (oth (by simp [owner])) kk
  simp only [cel]
  congr 4
  funext j
  unfold upd
  by_cases hj : j = (2 : Int).toNat
  · rw [if_pos hj]
    unfold watV
    rw [if_pos (by omega), setc_at, show 7 + j = 9 by omega, u2_at]
  · rw [if_neg hj]
    dsimp only
    unfold watV
    simp only [setc_at]
    by_cases h0 : j < 6
    · rw [if_pos h0, if_pos h0, u2_k (by omega)]
    · rw [if_neg h0, if_neg h0]
theorem is_22_3 {own : String} (F : Fx p s m args meth c own cc nL ret cy D ad A) {v : Int}  (d : decode cc pc = .ok (.iastore, 1)) (hs : ad 40 13 0 = 1) (h3 : 0 ≤ i) (h4 : i < 4) (h5 : i < (ad 41 19 0 : Int)) (kk : V p l e R s m args below meth c nL cy D ad A kc ks Q (pc + 1) lv st (setc M 2 (u2 S 10 i v))) : V p l e R s m args below meth c nL cy D ad A kc ks Q pc lv (.int (i32 v) :: .int (i32 3) :: .ref (ad 22 2 i) :: st) (setc M 2 S) := by
  refine r_iast F d (dm22 hs h3 h4 h5) (n := 6) (f := fun j => i32 (watV (setc M 2 S) 2 i j)) rfl (by omega) (by omega) (by decide) ?_ (oth (by simp [owner])) kk
  simp only [cel]
  congr 4
  funext j
  unfold upd
  by_cases hj : j = (3 : Int).toNat
  · rw [if_pos hj]
    unfold watV
    rw [if_pos (by omega), setc_at, show 7 + j = 10 by omega, u2_at]
  · rw [if_neg hj]
    dsimp only
    unfold watV
    simp only [setc_at]
    by_cases h0 : j < 6
    · rw [if_pos h0, if_pos h0, u2_k (by omega)]
    · rw [if_neg h0, if_neg h0]
theorem is_22_4 {own : String} (F : Fx p s m args meth c own cc nL ret cy D ad A) {v : Int}  (d : decode cc pc = .ok (.iastore, 1)) (hs : ad 40 13 0 = 1) (h3 : 0 ≤ i) (h4 : i < 4) (h5 : i < (ad 41 19 0 : Int)) (kk : V p l e R s m args below meth c nL cy D ad A kc ks Q (pc + 1) lv st (setc M 2 (u2 S 11 i v))) : V p l e R s m args below meth c nL cy D ad A kc ks Q pc lv (.int (i32 v) :: .int (i32 4) :: .ref (ad 22 2 i) :: st) (setc M 2 S) := by
  refine r_iast F d (dm22 hs h3 h4 h5) (n := 6) (f := fun j => i32 (watV (setc M 2 S) 2 i j)) rfl (by omega) (by omega) (by decide) ?_ (oth (by simp [owner])) kk
  simp only [cel]
  congr 4
  funext j
  unfold upd
  by_cases hj : j = (4 : Int).toNat
  · rw [if_pos hj]
    unfold watV
    rw [if_pos (by omega), setc_at, show 7 + j = 11 by omega, u2_at]
  · rw [if_neg hj]
    dsimp only
    unfold watV
    simp only [setc_at]
    by_cases h0 : j < 6
    · rw [if_pos h0, if_pos h0, u2_k (by omega)]
    · rw [if_neg h0, if_neg h0]
theorem is_22_5 {own : String} (F : Fx p s m args meth c own cc nL ret cy D ad A) {v : Int}  (d : decode cc pc = .ok (.iastore, 1)) (hs : ad 40 13 0 = 1) (h3 : 0 ≤ i) (h4 : i < 4) (h5 : i < (ad 41 19 0 : Int)) (kk : V p l e R s m args below meth c nL cy D ad A kc ks Q (pc + 1) lv st (setc M 2 (u2 S 12 i v))) : V p l e R s m args below meth c nL cy D ad A kc ks Q pc lv (.int (i32 v) :: .int (i32 5) :: .ref (ad 22 2 i) :: st) (setc M 2 S) := by
  refine r_iast F d (dm22 hs h3 h4 h5) (n := 6) (f := fun j => i32 (watV (setc M 2 S) 2 i j)) rfl (by omega) (by omega) (by decide) ?_ (oth (by simp [owner])) kk
  simp only [cel]
  congr 4
  funext j
  unfold upd
  by_cases hj : j = (5 : Int).toNat
  · rw [if_pos hj]
    unfold watV
    rw [if_pos (by omega), setc_at, show 7 + j = 12 by omega, u2_at]
  · rw [if_neg hj]
    dsimp only
    unfold watV
    simp only [setc_at]
    by_cases h0 : j < 6
    · rw [if_pos h0, if_pos h0, u2_k (by omega)]
    · rw [if_neg h0, if_neg h0]
theorem is_23_0 {own : String} (F : Fx p s m args meth c own cc nL ret cy D ad A) {v : Int}  (d : decode cc pc = .ok (.iastore, 1)) (hs : ad 40 13 0 = 1) (h3 : 0 ≤ i) (h4 : i < 6) (h5 : i < (ad 41 20 0 : Int)) (kk : V p l e R s m args below meth c nL cy D ad A kc ks Q (pc + 1) lv st (setc M 2 (u2 S 13 i v))) : V p l e R s m args below meth c nL cy D ad A kc ks Q pc lv (.int (i32 v) :: .int (i32 0) :: .ref (ad 23 2 i) :: st) (setc M 2 S) := by
  refine r_iast F d (dm23 hs h3 h4 h5) (n := 7) (f := fun j => i32 (boaV (setc M 2 S) 2 i j)) rfl (by omega) (by omega) (by decide) ?_ (oth (by simp [owner])) kk
  simp only [cel]
  congr 4
  funext j
  unfold upd
  by_cases hj : j = (0 : Int).toNat
  · subst hj
    rw [if_pos rfl]
    show i32 _ = i32 (boaV _ 2 i 0)
    unfold boaV
    rw [if_pos (by decide), setc_at]
    show i32 _ = i32 (bv 0 (u2 S 13 i v 13 i))
    rw [u2_at]
    rfl
  · rw [if_neg hj]
    dsimp only
    unfold boaV
    simp only [setc_at]
    by_cases h0 : j < 7
    · rw [if_pos h0, if_pos h0]
      have hne : bk j ≠ 13 := by
        have : j = 0 ∨ j = 1 ∨ j = 2 ∨ j = 3 ∨ j = 4 ∨ j = 5 ∨ j = 6 := by omega
        rcases this with rfl | rfl | rfl | rfl | rfl | rfl | rfl <;> first | decide | exact absurd rfl hj
      rw [u2_k hne]
    · rw [if_neg h0, if_neg h0]
theorem is_23_1 {own : String} (F : Fx p s m args meth c own cc nL ret cy D ad A) {v : Int}  (d : decode cc pc = .ok (.iastore, 1)) (hs : ad 40 13 0 = 1) (h3 : 0 ≤ i) (h4 : i < 6) (h5 : i < (ad 41 20 0 : Int)) (kk : V p l e R s m args below meth c nL cy D ad A kc ks Q (pc + 1) lv st (setc M 2 (u2 S 14 i v))) : V p l e R s m args below meth c nL cy D ad A kc ks Q pc lv (.int (i32 v) :: .int (i32 1) :: .ref (ad 23 2 i) :: st) (setc M 2 S) := by
  refine r_iast F d (dm23 hs h3 h4 h5) (n := 7) (f := fun j => i32 (boaV (setc M 2 S) 2 i j)) rfl (by omega) (by omega) (by decide) ?_ (oth (by simp [owner])) kk
  simp only [cel]
  congr 4
  funext j
  unfold upd
  by_cases hj : j = (1 : Int).toNat
  · subst hj
    rw [if_pos rfl]
    show i32 _ = i32 (boaV _ 2 i 1)
    unfold boaV
    rw [if_pos (by decide), setc_at]
    show i32 _ = i32 (bv 1 (u2 S 14 i v 14 i))
    rw [u2_at]
    rfl
  · rw [if_neg hj]
    dsimp only
    unfold boaV
    simp only [setc_at]
    by_cases h0 : j < 7
    · rw [if_pos h0, if_pos h0]
      have hne : bk j ≠ 14 := by
        have : j = 0 ∨ j = 1 ∨ j = 2 ∨ j = 3 ∨ j = 4 ∨ j = 5 ∨ j = 6 := by omega
        rcases this with rfl | rfl | rfl | rfl | rfl | rfl | rfl <;> first | decide | exact absurd rfl hj
      rw [u2_k hne]
    · rw [if_neg h0, if_neg h0]
theorem is_23_2 {own : String} (F : Fx p s m args meth c own cc nL ret cy D ad A) {v : Int}  (d : decode cc pc = .ok (.iastore, 1)) (hs : ad 40 13 0 = 1) (h3 : 0 ≤ i) (h4 : i < 6) (h5 : i < (ad 41 20 0 : Int)) (kk : V p l e R s m args below meth c nL cy D ad A kc ks Q (pc + 1) lv st (setc M 2 (u2 S 15 i v))) : V p l e R s m args below meth c nL cy D ad A kc ks Q pc lv (.int (i32 v) :: .int (i32 2) :: .ref (ad 23 2 i) :: st) (setc M 2 S) := by
  refine r_iast F d (dm23 hs h3 h4 h5) (n := 7) (f := fun j => i32 (boaV (setc M 2 S) 2 i j)) rfl (by omega) (by omega) (by decide) ?_ (oth (by simp [owner])) kk
  simp only [cel]
  congr 4
  funext j
  unfold upd
  by_cases hj : j = (2 : Int).toNat
  · subst hj
    rw [if_pos rfl]
    show i32 _ = i32 (boaV _ 2 i 2)
    unfold boaV
    rw [if_pos (by decide), setc_at]
    show i32 _ = i32 (bv 2 (u2 S 15 i v 15 i))
    rw [u2_at]
    rfl
  · rw [if_neg hj]
    dsimp only
    unfold boaV
    simp only [setc_at]
    by_cases h0 : j < 7
    · rw [if_pos h0, if_pos h0]
      have hne : bk j ≠ 15 := by
        have : j = 0 ∨ j = 1 ∨ j = 2 ∨ j = 3 ∨ j = 4 ∨ j = 5 ∨ j = 6 := by omega
        rcases this with rfl | rfl | rfl | rfl | rfl | rfl | rfl <;> first | decide | exact absurd rfl hj
      rw [u2_k hne]
    · rw [if_neg h0, if_neg h0]
theorem is_23_4 {own : String} (F : Fx p s m args meth c own cc nL ret cy D ad A) {v : Int}  (d : decode cc pc = .ok (.iastore, 1)) (hs : ad 40 13 0 = 1) (h3 : 0 ≤ i) (h4 : i < 6) (h5 : i < (ad 41 20 0 : Int)) (kk : V p l e R s m args below meth c nL cy D ad A kc ks Q (pc + 1) lv st (setc M 2 (u2 S 19 i v))) : V p l e R s m args below meth c nL cy D ad A kc ks Q pc lv (.int (i32 v) :: .int (i32 4) :: .ref (ad 23 2 i) :: st) (setc M 2 S) := by
  refine r_iast F d (dm23 hs h3 h4 h5) (n := 7) (f := fun j => i32 (boaV (setc M 2 S) 2 i j)) rfl (by omega) (by omega) (by decide) ?_ (oth (by simp [owner])) kk
  simp only [cel]
  congr 4
  funext j
  unfold upd
  by_cases hj : j = (4 : Int).toNat
  · subst hj
    rw [if_pos rfl]
    show i32 _ = i32 (boaV _ 2 i 4)
    unfold boaV
    rw [if_pos (by decide), setc_at]
    show i32 _ = i32 (bv 4 (u2 S 19 i v 19 i))
    rw [u2_at]
    rfl
  · rw [if_neg hj]
    dsimp only
    unfold boaV
    simp only [setc_at]
    by_cases h0 : j < 7
    · rw [if_pos h0, if_pos h0]
      have hne : bk j ≠ 19 := by
        have : j = 0 ∨ j = 1 ∨ j = 2 ∨ j = 3 ∨ j = 4 ∨ j = 5 ∨ j = 6 := by omega
        rcases this with rfl | rfl | rfl | rfl | rfl | rfl | rfl <;> first | decide | exact absurd rfl hj
      rw [u2_k hne]
    · rw [if_neg h0, if_neg h0]
theorem is_23_5 {own : String} (F : Fx p s m args meth c own cc nL ret cy D ad A) {v : Int}  (d : decode cc pc = .ok (.iastore, 1)) (hs : ad 40 13 0 = 1) (h3 : 0 ≤ i) (h4 : i < 6) (h5 : i < (ad 41 20 0 : Int)) (kk : V p l e R s m args below meth c nL cy D ad A kc ks Q (pc + 1) lv st (setc M 2 (u2 S 16 i v))) : V p l e R s m args below meth c nL cy D ad A kc ks Q pc lv (.int (i32 v) :: .int (i32 5) :: .ref (ad 23 2 i) :: st) (setc M 2 S) := by
  refine r_iast F d (dm23 hs h3 h4 h5) (n := 7) (f := fun j => i32 (boaV (setc M 2 S) 2 i j)) rfl (by omega) (by omega) (by decide) ?_ (oth (by simp [owner])) kk
  simp only [cel]
  congr 4
  funext j
  unfold upd
  by_cases hj : j = (5 : Int).toNat
  · subst hj
    rw [if_pos rfl]
    show i32 _ = i32 (boaV _ 2 i 5)
    unfold boaV
    rw [if_pos (by decide), setc_at]
    show i32 _ = i32 (bv 5 (u2 S 16 i v 16 i))
    rw [u2_at]
    rfl
  · rw [if_neg hj]
    dsimp only
    unfold boaV
    simp only [setc_at]
    by_cases h0 : j < 7
    · rw [if_pos h0, if_pos h0]
      have hne : bk j ≠ 16 := by
        have : j = 0 ∨ j = 1 ∨ j = 2 ∨ j = 3 ∨ j = 4 ∨ j = 5 ∨ j = 6 := by omega
        rcases this with rfl | rfl | rfl | rfl | rfl | rfl | rfl <;> first | decide | exact absurd rfl hj
      rw [u2_k hne]
    · rw [if_neg h0, if_neg h0]
theorem is_23_6 {own : String} (F : Fx p s m args meth c own cc nL ret cy D ad A) {v : Int}  (d : decode cc pc = .ok (.iastore, 1)) (hs : ad 40 13 0 = 1) (h3 : 0 ≤ i) (h4 : i < 6) (h5 : i < (ad 41 20 0 : Int)) (kk : V p l e R s m args below meth c nL cy D ad A kc ks Q (pc + 1) lv st (setc M 2 (u2 S 17 i v))) : V p l e R s m args below meth c nL cy D ad A kc ks Q pc lv (.int (i32 v) :: .int (i32 6) :: .ref (ad 23 2 i) :: st) (setc M 2 S) := by
  refine r_iast F d (dm23 hs h3 h4 h5) (n := 7) (f := fun j => i32 (boaV (setc M 2 S) 2 i j)) rfl (by omega) (by omega) (by decide) ?_ (oth (by simp [owner])) kk
  simp only [cel]
  congr 4
  funext j
  unfold upd
  by_cases hj : j = (6 : Int).toNat
  · subst hj
    rw [if_pos rfl]
    show i32 _ = i32 (boaV _ 2 i 6)
    unfold boaV
    rw [if_pos (by decide), setc_at]
    show i32 _ = i32 (bv 6 (u2 S 17 i v 17 i))
    rw [u2_at]
    rfl
  · rw [if_neg hj]
    dsimp only
    unfold boaV
    simp only [setc_at]
    by_cases h0 : j < 7
    · rw [if_pos h0, if_pos h0]
      have hne : bk j ≠ 17 := by
        have : j = 0 ∨ j = 1 ∨ j = 2 ∨ j = 3 ∨ j = 4 ∨ j = 5 ∨ j = 6 := by omega
        rcases this with rfl | rfl | rfl | rfl | rfl | rfl | rfl <;> first | decide | exact absurd rfl hj
      rw [u2_k hne]
    · rw [if_neg h0, if_neg h0]
theorem is_23_3a {own : String} (F : Fx p s m args meth c own cc nL ret cy D ad A) {v : Int}  (d : decode cc pc = .ok (.iastore, 1)) (hs : ad 40 13 0 = 1) (h3 : 0 ≤ i) (h4 : i < 6) (h5 : i < (ad 41 20 0 : Int)) (kk : V p l e R s m args below meth c nL cy D ad A kc ks Q (pc + 1) lv st (setc M 2 (u2 S 18 i 1))) : V p l e R s m args below meth c nL cy D ad A kc ks Q pc lv (.int (i32 3) :: .int (i32 3) :: .ref (ad 23 2 i) :: st) (setc M 2 S) := by
  refine r_iast F d (dm23 hs h3 h4 h5) (n := 7) (f := fun j => i32 (boaV (setc M 2 S) 2 i j)) rfl (by omega) (by omega) (by decide) ?_ (oth (by simp [owner])) kk
  simp only [cel]
  congr 4
  funext j
  unfold upd
  by_cases hj : j = (3 : Int).toNat
  · subst hj
    rw [if_pos rfl]
    show i32 _ = i32 (boaV _ 2 i 3)
    unfold boaV
    rw [if_pos (by decide), setc_at]
    show i32 _ = i32 (bv 3 (u2 S 18 i 1 18 i))
    rw [u2_at]
    rfl
  · rw [if_neg hj]
    dsimp only
    unfold boaV
    simp only [setc_at]
    by_cases h0 : j < 7
    · rw [if_pos h0, if_pos h0]
      have hne : bk j ≠ 18 := by
        have : j = 0 ∨ j = 1 ∨ j = 2 ∨ j = 3 ∨ j = 4 ∨ j = 5 ∨ j = 6 := by omega
        rcases this with rfl | rfl | rfl | rfl | rfl | rfl | rfl <;> first | decide | exact absurd rfl hj
      rw [u2_k hne]
    · rw [if_neg h0, if_neg h0]
theorem is_23_3b {own : String} (F : Fx p s m args meth c own cc nL ret cy D ad A) {v : Int}  (d : decode cc pc = .ok (.iastore, 1)) (hs : ad 40 13 0 = 1) (h3 : 0 ≤ i) (h4 : i < 6) (h5 : i < (ad 41 20 0 : Int)) (kk : V p l e R s m args below meth c nL cy D ad A kc ks Q (pc + 1) lv st (setc M 2 (u2 S 18 i 2))) : V p l e R s m args below meth c nL cy D ad A kc ks Q pc lv (.int (i32 4) :: .int (i32 3) :: .ref (ad 23 2 i) :: st) (setc M 2 S) := by
  refine r_iast F d (dm23 hs h3 h4 h5) (n := 7) (f := fun j => i32 (boaV (setc M 2 S) 2 i j)) rfl (by omega) (by omega) (by decide) ?_ (oth (by simp [owner])) kk
  simp only [cel]
  congr 4
  funext j
  unfold upd
  by_cases hj : j = (3 : Int).toNat
  · subst hj
    rw [if_pos rfl]
    show i32 _ = i32 (boaV _ 2 i 3)
    unfold boaV
    rw [if_pos (by decide), setc_at]
    show i32 _ = i32 (bv 3 (u2 S 18 i 2 18 i))
    rw [u2_at]
    rfl
  · rw [if_neg hj]
    dsimp only
    unfold boaV
    simp only [setc_at]
    by_cases h0 : j < 7
    · rw [if_pos h0, if_pos h0]
      have hne : bk j ≠ 18 := by
        have : j = 0 ∨ j = 1 ∨ j = 2 ∨ j = 3 ∨ j = 4 ∨ j = 5 ∨ j = 6 := by omega
        rcases this with rfl | rfl | rfl | rfl | rfl | rfl | rfl <;> first | decide | exact absurd rfl hj
      rw [u2_k hne]
    · rw [if_neg h0, if_neg h0]
theorem ig_24 {own : String} (F : Fx p s m args meth c own cc nL ret cy D ad A) {a : Int} (d : decode cc pc = .ok (.iaload, 1)) (hs : ad 40 24 0 = 1) (h1 : 0 ≤ a) (h2 : a < (ad 41 24 0 : Int)) (h3 : (ad 41 24 0 : Int) < 2147483648) (kk : V p l e R s m args below meth c nL cy D ad A kc ks Q (pc + 1) lv (.int (i32 (M 4 0 a)) :: st) (M)) : V p l e R s m args below meth c nL cy D ad A kc ks Q pc lv (.int (i32 a) :: .ref (ad 24 2 0) :: st) (M) := r_iald F d (dm24 hs) (n := ad 41 24 0) (f := fun j => i32 (M 4 0 (j : Int))) rfl h1 h2 (by omega) (by show i32 (M 4 0 ((a.toNat : Nat) : Int)) = _; rw [Int.toNat_of_nonneg h1]) kk
theorem is_24 {own : String} (F : Fx p s m args meth c own cc nL ret cy D ad A) {a v : Int} (d : decode cc pc = .ok (.iastore, 1)) (hs : ad 40 24 0 = 1) (h1 : 0 ≤ a) (h2 : a < (ad 41 24 0 : Int)) (h3 : (ad 41 24 0 : Int) < 2147483648) (kk : V p l e R s m args below meth c nL cy D ad A kc ks Q (pc + 1) lv st (setc M 4 (u2 (M 4) 0 a v))) : V p l e R s m args below meth c nL cy D ad A kc ks Q pc lv (.int (i32 v) :: .int (i32 a) :: .ref (ad 24 2 0) :: st) (M) := by
  refine r_iast F d (dm24 hs) (n := ad 41 24 0) (f := fun j => i32 (M 4 0 (j : Int))) rfl h1 h2 (by omega) ?_ (oth0 (by simp [owner])) kk
  simp only [cel, setc_at]
  congr 4
  funext j
  unfold u2 upd
  by_cases hj : j = a.toNat
  · rw [if_pos hj, if_pos ⟨rfl, by omega⟩]
  · rw [if_neg hj, if_neg (fun h => hj (by have := h.2; omega))]
theorem ig_25 {own : String} (F : Fx p s m args meth c own cc nL ret cy D ad A) {a : Int} (d : decode cc pc = .ok (.iaload, 1)) (hs : ad 40 25 0 = 1) (h1 : 0 ≤ a) (h2 : a < (ad 41 25 0 : Int)) (h3 : (ad 41 25 0 : Int) < 2147483648) (kk : V p l e R s m args below meth c nL cy D ad A kc ks Q (pc + 1) lv (.int (i32 (M 4 1 a)) :: st) (M)) : V p l e R s m args below meth c nL cy D ad A kc ks Q pc lv (.int (i32 a) :: .ref (ad 25 2 0) :: st) (M) := r_iald F d (dm25 hs) (n := ad 41 25 0) (f := fun j => i32 (M 4 1 (j : Int))) rfl h1 h2 (by omega) (by show i32 (M 4 1 ((a.toNat : Nat) : Int)) = _; rw [Int.toNat_of_nonneg h1]) kk
theorem is_25 {own : String} (F : Fx p s m args meth c own cc nL ret cy D ad A) {a v : Int} (d : decode cc pc = .ok (.iastore, 1)) (hs : ad 40 25 0 = 1) (h1 : 0 ≤ a) (h2 : a < (ad 41 25 0 : Int)) (h3 : (ad 41 25 0 : Int) < 2147483648) (kk : V p l e R s m args below meth c nL cy D ad A kc ks Q (pc + 1) lv st (setc M 4 (u2 (M 4) 1 a v))) : V p l e R s m args below meth c nL cy D ad A kc ks Q pc lv (.int (i32 v) :: .int (i32 a) :: .ref (ad 25 2 0) :: st) (M) := by
  refine r_iast F d (dm25 hs) (n := ad 41 25 0) (f := fun j => i32 (M 4 1 (j : Int))) rfl h1 h2 (by omega) ?_ (oth0 (by simp [owner])) kk
  simp only [cel, setc_at]
  congr 4
  funext j
  unfold u2 upd
  by_cases hj : j = a.toNat
  · rw [if_pos hj, if_pos ⟨rfl, by omega⟩]
  · rw [if_neg hj, if_neg (fun h => hj (by have := h.2; omega))]
theorem ig_26 {own : String} (F : Fx p s m args meth c own cc nL ret cy D ad A) {a : Int} (d : decode cc pc = .ok (.iaload, 1)) (hs : ad 40 26 0 = 1) (h1 : 0 ≤ a) (h2 : a < (ad 41 26 0 : Int)) (h3 : (ad 41 26 0 : Int) < 2147483648) (kk : V p l e R s m args below meth c nL cy D ad A kc ks Q (pc + 1) lv (.int (i32 (M 4 2 a)) :: st) (M)) : V p l e R s m args below meth c nL cy D ad A kc ks Q pc lv (.int (i32 a) :: .ref (ad 26 2 0) :: st) (M) := r_iald F d (dm26 hs) (n := ad 41 26 0) (f := fun j => i32 (M 4 2 (j : Int))) rfl h1 h2 (by omega) (by show i32 (M 4 2 ((a.toNat : Nat) : Int)) = _; rw [Int.toNat_of_nonneg h1]) kk
theorem is_26 {own : String} (F : Fx p s m args meth c own cc nL ret cy D ad A) {a v : Int} (d : decode cc pc = .ok (.iastore, 1)) (hs : ad 40 26 0 = 1) (h1 : 0 ≤ a) (h2 : a < (ad 41 26 0 : Int)) (h3 : (ad 41 26 0 : Int) < 2147483648) (kk : V p l e R s m args below meth c nL cy D ad A kc ks Q (pc + 1) lv st (setc M 4 (u2 (M 4) 2 a v))) : V p l e R s m args below meth c nL cy D ad A kc ks Q pc lv (.int (i32 v) :: .int (i32 a) :: .ref (ad 26 2 0) :: st) (M) := by
  refine r_iast F d (dm26 hs) (n := ad 41 26 0) (f := fun j => i32 (M 4 2 (j : Int))) rfl h1 h2 (by omega) ?_ (oth0 (by simp [owner])) kk
  simp only [cel, setc_at]
  congr 4
  funext j
  unfold u2 upd
  by_cases hj : j = a.toNat
  · rw [if_pos hj, if_pos ⟨rfl, by omega⟩]
  · rw [if_neg hj, if_neg (fun h => hj (by have := h.2; omega))]
theorem ig_27 {own : String} (F : Fx p s m args meth c own cc nL ret cy D ad A) {a : Int} (d : decode cc pc = .ok (.iaload, 1)) (hs : ad 40 27 0 = 1) (h1 : 0 ≤ a) (h2 : a < (ad 41 27 0 : Int)) (h3 : (ad 41 27 0 : Int) < 2147483648) (kk : V p l e R s m args below meth c nL cy D ad A kc ks Q (pc + 1) lv (.int (i32 (M 4 3 a)) :: st) (M)) : V p l e R s m args below meth c nL cy D ad A kc ks Q pc lv (.int (i32 a) :: .ref (ad 27 2 0) :: st) (M) := r_iald F d (dm27 hs) (n := ad 41 27 0) (f := fun j => i32 (M 4 3 (j : Int))) rfl h1 h2 (by omega) (by show i32 (M 4 3 ((a.toNat : Nat) : Int)) = _; rw [Int.toNat_of_nonneg h1]) kk
theorem is_27 {own : String} (F : Fx p s m args meth c own cc nL ret cy D ad A) {a v : Int} (d : decode cc pc = .ok (.iastore, 1)) (hs : ad 40 27 0 = 1) (h1 : 0 ≤ a) (h2 : a < (ad 41 27 0 : Int)) (h3 : (ad 41 27 0 : Int) < 2147483648) (kk : V p l e R s m args below meth c nL cy D ad A kc ks Q (pc + 1) lv st (setc M 4 (u2 (M 4) 3 a v))) : V p l e R s m args below meth c nL cy D ad A kc ks Q pc lv (.int (i32 v) :: .int (i32 a) :: .ref (ad 27 2 0) :: st) (M) := by
  refine r_iast F d (dm27 hs) (n := ad 41 27 0) (f := fun j => i32 (M 4 3 (j : Int))) rfl h1 h2 (by omega) ?_ (oth0 (by simp [owner])) kk
  simp only [cel, setc_at]
  congr 4
  funext j
  unfold u2 upd
  by_cases hj : j = a.toNat
  · rw [if_pos hj, if_pos ⟨rfl, by omega⟩]
  · rw [if_neg hj, if_neg (fun h => hj (by have := h.2; omega))]
theorem ig_28 {own : String} (F : Fx p s m args meth c own cc nL ret cy D ad A) {a : Int} (d : decode cc pc = .ok (.iaload, 1)) (hs : ad 40 28 0 = 1) (h1 : 0 ≤ a) (h2 : a < (ad 41 28 0 : Int)) (h3 : (ad 41 28 0 : Int) < 2147483648) (kk : V p l e R s m args below meth c nL cy D ad A kc ks Q (pc + 1) lv (.int (i32 (M 4 4 a)) :: st) (M)) : V p l e R s m args below meth c nL cy D ad A kc ks Q pc lv (.int (i32 a) :: .ref (ad 28 2 0) :: st) (M) := r_iald F d (dm28 hs) (n := ad 41 28 0) (f := fun j => i32 (M 4 4 (j : Int))) rfl h1 h2 (by omega) (by show i32 (M 4 4 ((a.toNat : Nat) : Int)) = _; rw [Int.toNat_of_nonneg h1]) kk
theorem is_28 {own : String} (F : Fx p s m args meth c own cc nL ret cy D ad A) {a v : Int} (d : decode cc pc = .ok (.iastore, 1)) (hs : ad 40 28 0 = 1) (h1 : 0 ≤ a) (h2 : a < (ad 41 28 0 : Int)) (h3 : (ad 41 28 0 : Int) < 2147483648) (kk : V p l e R s m args below meth c nL cy D ad A kc ks Q (pc + 1) lv st (setc M 4 (u2 (M 4) 4 a v))) : V p l e R s m args below meth c nL cy D ad A kc ks Q pc lv (.int (i32 v) :: .int (i32 a) :: .ref (ad 28 2 0) :: st) (M) := by
  refine r_iast F d (dm28 hs) (n := ad 41 28 0) (f := fun j => i32 (M 4 4 (j : Int))) rfl h1 h2 (by omega) ?_ (oth0 (by simp [owner])) kk
  simp only [cel, setc_at]
  congr 4
  funext j
  unfold u2 upd
  by_cases hj : j = a.toNat
  · rw [if_pos hj, if_pos ⟨rfl, by omega⟩]
  · rw [if_neg hj, if_neg (fun h => hj (by have := h.2; omega))]
theorem ig_29 {own : String} (F : Fx p s m args meth c own cc nL ret cy D ad A) {a : Int} (d : decode cc pc = .ok (.iaload, 1)) (hs : ad 40 29 0 = 1) (h1 : 0 ≤ a) (h2 : a < (ad 41 29 0 : Int)) (h3 : (ad 41 29 0 : Int) < 2147483648) (kk : V p l e R s m args below meth c nL cy D ad A kc ks Q (pc + 1) lv (.int (i32 (M 4 5 a)) :: st) (M)) : V p l e R s m args below meth c nL cy D ad A kc ks Q pc lv (.int (i32 a) :: .ref (ad 29 2 0) :: st) (M) := r_iald F d (dm29 hs) (n := ad 41 29 0) (f := fun j => i32 (M 4 5 (j : Int))) rfl h1 h2 (by omega) (by show i32 (M 4 5 ((a.toNat : Nat) : Int)) = _; rw [Int.toNat_of_nonneg h1]) kk
theorem is_29 {own : String} (F : Fx p s m args meth c own cc nL ret cy D ad A) {a v : Int} (d : decode cc pc = .ok (.iastore, 1)) (hs : ad 40 29 0 = 1) (h1 : 0 ≤ a) (h2 : a < (ad 41 29 0 : Int)) (h3 : (ad 41 29 0 : Int) < 2147483648) (kk : V p l e R s m args below meth c nL cy D ad A kc ks Q (pc + 1) lv st (setc M 4 (u2 (M 4) 5 a v))) : V p l e R s m args below meth c nL cy D ad A kc ks Q pc lv (.int (i32 v) :: .int (i32 a) :: .ref (ad 29 2 0) :: st) (M) := by
  refine r_iast F d (dm29 hs) (n := ad 41 29 0) (f := fun j => i32 (M 4 5 (j : Int))) rfl h1 h2 (by omega) ?_ (oth0 (by simp [owner])) kk
  simp only [cel, setc_at]
  congr 4
  funext j
  unfold u2 upd
  by_cases hj : j = a.toNat
  · rw [if_pos hj, if_pos ⟨rfl, by omega⟩]
  · rw [if_neg hj, if_neg (fun h => hj (by have := h.2; omega))]
theorem ig_30 {own : String} (F : Fx p s m args meth c own cc nL ret cy D ad A) {a : Int} (d : decode cc pc = .ok (.iaload, 1)) (hs : ad 40 30 0 = 1) (h1 : 0 ≤ a) (h2 : a < (ad 41 30 0 : Int)) (h3 : (ad 41 30 0 : Int) < 2147483648) (kk : V p l e R s m args below meth c nL cy D ad A kc ks Q (pc + 1) lv (.int (i32 (M 4 6 a)) :: st) (M)) : V p l e R s m args below meth c nL cy D ad A kc ks Q pc lv (.int (i32 a) :: .ref (ad 30 2 0) :: st) (M) := r_iald F d (dm30 hs) (n := ad 41 30 0) (f := fun j => i32 (M 4 6 (j : Int))) rfl h1 h2 (by omega) (by show i32 (M 4 6 ((a.toNat : Nat) : Int)) = _; rw [Int.toNat_of_nonneg h1]) kk
theorem is_30 {own : String} (F : Fx p s m args meth c own cc nL ret cy D ad A) {a v : Int} (d : decode cc pc = .ok (.iastore, 1)) (hs : ad 40 30 0 = 1) (h1 : 0 ≤ a) (h2 : a < (ad 41 30 0 : Int)) (h3 : (ad 41 30 0 : Int) < 2147483648) (kk : V p l e R s m args below meth c nL cy D ad A kc ks Q (pc + 1) lv st (setc M 4 (u2 (M 4) 6 a v))) : V p l e R s m args below meth c nL cy D ad A kc ks Q pc lv (.int (i32 v) :: .int (i32 a) :: .ref (ad 30 2 0) :: st) (M) := by
  refine r_iast F d (dm30 hs) (n := ad 41 30 0) (f := fun j => i32 (M 4 6 (j : Int))) rfl h1 h2 (by omega) ?_ (oth0 (by simp [owner])) kk
  simp only [cel, setc_at]
  congr 4
  funext j
  unfold u2 upd
  by_cases hj : j = a.toNat
  · rw [if_pos hj, if_pos ⟨rfl, by omega⟩]
  · rw [if_neg hj, if_neg (fun h => hj (by have := h.2; omega))]
theorem ig_31 {own : String} (F : Fx p s m args meth c own cc nL ret cy D ad A) {a : Int} (d : decode cc pc = .ok (.iaload, 1)) (hs : ad 40 31 0 = 1) (h1 : 0 ≤ a) (h2 : a < (ad 41 31 0 : Int)) (h3 : (ad 41 31 0 : Int) < 2147483648) (kk : V p l e R s m args below meth c nL cy D ad A kc ks Q (pc + 1) lv (.int (i32 (M 4 7 a)) :: st) (M)) : V p l e R s m args below meth c nL cy D ad A kc ks Q pc lv (.int (i32 a) :: .ref (ad 31 2 0) :: st) (M) := r_iald F d (dm31 hs) (n := ad 41 31 0) (f := fun j => i32 (M 4 7 (j : Int))) rfl h1 h2 (by omega) (by show i32 (M 4 7 ((a.toNat : Nat) : Int)) = _; rw [Int.toNat_of_nonneg h1]) kk
theorem is_31 {own : String} (F : Fx p s m args meth c own cc nL ret cy D ad A) {a v : Int} (d : decode cc pc = .ok (.iastore, 1)) (hs : ad 40 31 0 = 1) (h1 : 0 ≤ a) (h2 : a < (ad 41 31 0 : Int)) (h3 : (ad 41 31 0 : Int) < 2147483648) (kk : V p l e R s m args below meth c nL cy D ad A kc ks Q (pc + 1) lv st (setc M 4 (u2 (M 4) 7 a v))) : V p l e R s m args below meth c nL cy D ad A kc ks Q pc lv (.int (i32 v) :: .int (i32 a) :: .ref (ad 31 2 0) :: st) (M) := by
  refine r_iast F d (dm31 hs) (n := ad 41 31 0) (f := fun j => i32 (M 4 7 (j : Int))) rfl h1 h2 (by omega) ?_ (oth0 (by simp [owner])) kk
  simp only [cel, setc_at]
  congr 4
  funext j
  unfold u2 upd
  by_cases hj : j = a.toNat
  · rw [if_pos hj, if_pos ⟨rfl, by omega⟩]
  · rw [if_neg hj, if_neg (fun h => hj (by have := h.2; omega))]
theorem V.kill (i : Nat) {lv1 : List (Option Value)} (hs : lv.set i none = lv1) (k9 : V p l e R s m args below meth c nL cy D ad A kc ks Q pc lv1 st M) : V p l e R s m args below meth c nL cy D ad A kc ks Q pc lv st M := V.loc (fun j v h => kill_le lv i j v (by rw [hs]; exact h)) k9
end FROWS
