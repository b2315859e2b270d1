/-! PURE: what the words say, in natural numbers -/
theorem li (n : Nat) : (OfNat.ofNat n : Int32) = nI n := rfl
theorem oA_at {α : Type} {n j : Nat} {f : Nat → Int32} {k : Int32 → Option α} (hj : j < n) (hn : n < 2 ^ 31) : oA n f (nI j) k = k (f j) := by
  unfold oA
  rw [if_pos (nI_in hj hn), nI_clamp (Nat.lt_trans hj hn)]
theorem oS_at {ST α : Type} {n j : Nat} {f : Nat → Int32} {x : Int32} {w : (Nat → Int32) → ST} {k : ST → Option α} (hj : j < n) (hn : n < 2 ^ 31) : oS n f (nI j) x w k = k (w (upd f j x)) := by
  unfold oS
  rw [if_pos (nI_in hj hn), nI_clamp (Nat.lt_trans hj hn)]
theorem oR_some {β α : Type} {r : β} {k : β → Option α} : oR (some r) k = k r := rfl
theorem oW_some {ST ST' α : Type} {r : Int32} {t : ST'} {w : ST' → ST} {k : Int32 → ST → Option α} : oW (some (r, t)) w k = k r (w t) := rfl
theorem oV_some {ST ST' α : Type} {t : ST'} {w : ST' → ST} {k : ST → Option α} : oV (some t) w k = k (w t) := rfl
theorem oB0 : oB 0 = some 0 := rfl
theorem oB1 : oB 1 = some 1 := rfl
theorem nI_eq0 {a : Nat} (ha : a < 2 ^ 31) : nI a = 0 ↔ a = 0 := by
  rw [show (0 : Int32) = nI 0 from rfl, nI_eq ha (by decide)]
/-- the reference's places -/
theorem w_of (z k : Nat) : f_X6_of (nI z) (nI k) = some (nI (10 + 22 * z + k)) := by
  unfold f_X6_of
  rw [show (10 : Int32) = nI 10 from rfl, show (22 : Int32) = nI 22 from rfl, pk_mul, nI_add, nI_add]
theorem w_ofWriter (w k : Nat) : f_X6_ofWriter (nI w) (nI k) = some (nI (186 + 2 * w + k)) := by
  unfold f_X6_ofWriter
  rw [show (186 : Int32) = nI 186 from rfl, show (2 : Int32) = nI 2 from rfl, pk_mul, nI_add, nI_add]
theorem w_ofAppend (a k : Nat) : f_X6_ofAppend (nI a) (nI k) = some (nI (194 + 9 * a + k)) := by
  unfold f_X6_ofAppend
  rw [show (194 : Int32) = nI 194 from rfl, show (9 : Int32) = nI 9 from rfl, pk_mul, nI_add, nI_add]
/-- how many of 0 .. n-1 are so -/
def cnt (P : Nat → Bool) : Nat → Nat
  | 0 => 0
  | n + 1 => cnt P n + (if P n = true then 1 else 0)
theorem cnt_le (P : Nat → Bool) : ∀ n, cnt P n ≤ n
  | 0 => Nat.le_refl 0
  | n + 1 => by
    have := cnt_le P n
    unfold cnt
    split <;> omega
theorem cnt_congr {P Q : Nat → Bool} : ∀ {n : Nat}, (∀ a, a < n → P a = Q a) → cnt P n = cnt Q n
  | 0, _ => rfl
  | n + 1, h => by
    unfold cnt
    rw [cnt_congr (fun a ha => h a (Nat.lt_succ_of_lt ha)), h n (Nat.lt_succ_self n)]
/-- a counting loop that goes up from i to n -/
theorem loop_up {β γ : Type} (N : Nat) (f : Nat → Nat → β → Option γ) (k : β → Option γ) (st : Nat → β → β) (hend : ∀ m b, f (m + 1) N b = k b) (hstep : ∀ m i b, i < N → f (m + 1) i b = f m (i + 1) (st i b)) : ∀ (d i m : Nat) (b : β), i + d = N → d < m → f m i b = k ((List.range' i d).foldl (fun b i => st i b) b)
  | 0, i, m + 1, b, h, _ => by
    rw [Nat.add_zero] at h
    subst h
    exact hend m b
  | d + 1, i, m + 1, b, h, hm => by
    rw [hstep m i b (by omega), loop_up N f k st hend hstep d (i + 1) m (st i b) (by omega) (by omega)]
    rfl
  | _, _, 0, _, _, hm => absurd hm (Nat.not_lt_zero _)
