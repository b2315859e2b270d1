/-! PURE (p25): forecasts, the class's side alone; a tick looks at no writer and no value -/
def fcA (a : Nat) : Nat → Nat → NS → Option Nat
  | 0, _, _ => none
  | d + 1, k, A => if (aTick A).1 5 a = 2 then some (k + 1) else if (aTick A).1 5 a = 3 ∨ atW (aTick A) = 0 then none else fcA a d (k + 1) (aTick A)
def fcI : Option Nat → Int32
  | none => -5
  | some n => nI n
theorem fcA_s {a d k : Nat} {A : NS} : fcA a (d + 1) k A = if (aTick A).1 5 a = 2 then some (k + 1) else if (aTick A).1 5 a = 3 ∨ atW (aTick A) = 0 then none else fcA a d (k + 1) (aTick A) := rfl
theorem ticks_shift {A : NS} (n : Nat) : aTicks (aTick A) n = aTicks A (n + 1) := by
  induction n with
  | zero => rfl
  | succ n ih => rw [aTicks_s, ih]; rfl
theorem w_fcC {a : Nat} : ∀ (d k m : Nat) (σ : SS) (A : NS), k + d = 999 → d < m → CR σ A → Iv A → a < A.2 0 → A.1 5 a ≤ 1 → A.2 10 + d ≤ 20000 →
    ∃ σ', f_X3_ticksUntilTold_L2 (nI a) (fun sx61 => some ((-5), sx61)) m (nI (k + 1)) σ = some (fcI (fcA a d k A), σ') ∧
      ∀ n, fcA a d k A = some n → k + 1 ≤ n ∧ n ≤ k + d ∧ (aTicks A (n - k)).1 5 a = 2 ∧ (∀ j, j < n - k → (aTicks A j).1 5 a ≤ 1) ∧ σ'.1 6 a = nI ((aTicks A (n - k)).1 6 a) := by
  intro d
  induction d with
  | zero =>
    intro k m σ A hk h1 hc I ha hp _
    obtain ⟨m, rfl⟩ : ∃ q, m = q + 1 := ⟨m - 1, by omega⟩
    refine ⟨σ, ?_, fun n hn => by cases hn⟩
    rw [f_X3_ticksUntilTold_L2, if_pos (show (999 : Int32) < nI (k + 1) from nI_lt (a := 999) (by omega) (by omega))]
    rfl
  | succ d ih =>
    intro k m σ A hk h1 hc I ha hp ht
    obtain ⟨m, rfl⟩ : ∃ q, m = q + 1 := ⟨m - 1, by omega⟩
    have hn := I.a.1
    obtain ⟨ρ, g1, g2, g3⟩ := w_tickC hc.1 I hc.2 (by omega)
    obtain ⟨J, LT⟩ := Iv_tick I (by omega)
    have bJ := J.b
    have haJ : a < (aTick A).2 0 := by rw [LT.n0]; exact ha
    have r5 : ρ.1 5 a = nI ((aTick A).1 5 a) := g2.ap (by decide) (by decide) haJ
    have h53 := (J.a.2 a haJ).2.2.2
    have e2 : (nI ((aTick A).1 5 a) = 2) ↔ (aTick A).1 5 a = 2 := nI_eq (b := 2) (bJ.2.1 5 a) (by decide)
    have e3 : (nI ((aTick A).1 5 a) = 3) ↔ (aTick A).1 5 a = 3 := nI_eq (b := 3) (bJ.2.1 5 a) (by decide)
    have hl : f_X0_liveIn ρ 1 = some (nI (atW (aTick A))) := w_liveIn g2 bJ g3 (q := 1) (by decide) (fun c _ hx => decide_eq_true (Or.inr hx))
    have hw : atW (aTick A) ≤ (aTick A).2 0 := cnt_le _ _
    have hnJ := J.a.1
    rw [f_X3_ticksUntilTold_L2, if_neg (show ¬ (999 : Int32) < nI (k + 1) from nI_nlt (b := k + 1) (a := 999) (by omega) (by decide)), g1, oV_some, oA_at (show a < 201 by omega) (by decide), r5, nI_1, fcA_s]
    by_cases q2 : (aTick A).1 5 a = 2
    · rw [if_pos (e2.2 q2), if_pos q2]
      refine ⟨ρ, rfl, fun n hn => ?_⟩
      have hn : n = k + 1 := (Option.some.inj hn).symm
      subst hn
      rw [show k + 1 - k = 1 by omega]
      refine ⟨Nat.le_refl _, by omega, q2, fun j hj => ?_, (g2.2.2.1 a haJ (Or.inr q2)).1⟩
      have : j = 0 := by omega
      subst this
      exact hp
    · rw [if_neg (fun x => q2 (e2.1 x)), if_neg q2, oA_at (show a < 201 by omega) (by decide), r5]
      by_cases q3 : (aTick A).1 5 a = 3
      · rw [if_pos (e3.2 q3), if_pos (Or.inl q3)]
        exact ⟨ρ, rfl, fun n hn => by cases hn⟩
      · rw [if_neg (fun x => q3 (e3.1 x)), hl, oR_some]
        by_cases q0 : atW (aTick A) = 0
        · rw [if_pos ((nI_eq0 (by omega)).2 q0), if_pos (Or.inr q0)]
          exact ⟨ρ, rfl, fun n hn => by cases hn⟩
        · rw [if_neg (fun x => q0 ((nI_eq0 (by omega)).1 x)), if_neg (fun x => x.elim q3 q0)]
          obtain ⟨σ', u1, u2⟩ := ih (k + 1) m ρ (aTick A) (by omega) (by omega) ⟨g2, g3⟩ J haJ (by omega) (by rw [aTick_10]; omega)
          refine ⟨σ', u1, fun n hn => ?_⟩
          obtain ⟨v1, v2, v3, v4, v5⟩ := u2 n hn
          rw [ticks_shift, show n - (k + 1) + 1 = n - k by omega] at v3 v5
          refine ⟨by omega, by omega, v3, fun j hj => ?_, v5⟩
          cases j with
          | zero => exact hp
          | succ j =>
            have := v4 j (by omega)
            rw [ticks_shift] at this
            exact this
theorem w_fcast {σ : SS} {A : NS} {a : Nat} (hc : CR σ A) (I : Iv A) (ha : a < A.2 0) (hp : A.1 5 a ≤ 1) (ht : A.2 10 ≤ 9999) :
    ∃ σ', f_X3_ticksUntilTold σ (nI a) = some (fcI (fcA a 999 0 A), σ') ∧ ∀ n, fcA a 999 0 A = some n → 1 ≤ n ∧ n ≤ 999 ∧ (aTicks A n).1 5 a = 2 ∧ (∀ j, j < n → (aTicks A j).1 5 a ≤ 1) ∧ σ'.1 6 a = nI ((aTicks A n).1 6 a) := by
  obtain ⟨σ', u1, u2⟩ := w_fcC (a := a) 999 0 FU σ A (by decide) (by decide) hc I ha hp (by omega)
  refine ⟨σ', u1, fun n hn => ?_⟩
  obtain ⟨v1, v2, v3, v4, v5⟩ := u2 n hn
  exact ⟨by omega, by omega, v3, v4, v5⟩
/-- a state without writers, values and those told ahead -/
def prN (A : NS) : NS := (fun m => if m = 2 ∨ m = 4 ∨ m = 20 then fun _ => 0 else A.1 m, A.2)
theorem pr_m {A : NS} {m : Nat} (h : ¬ (m = 2 ∨ m = 4 ∨ m = 20)) : (prN A).1 m = A.1 m := if_neg h
theorem pr_2 {A : NS} {k : Nat} : (prN A).2 k = A.2 k := rfl
theorem pr_setA {A : NS} {m a v : Nat} (h : ¬ (m = 2 ∨ m = 4 ∨ m = 20)) : prN (setA A m a v) = setA (prN A) m a v := by
  refine NS_ext (fun j i => ?_) (fun k => rfl)
  by_cases e : j = 2 ∨ j = 4 ∨ j = 20
  · have hne : ¬ (j = m ∧ i = a) := by omega
    show (if j = 2 ∨ j = 4 ∨ j = 20 then fun _ => 0 else (setA A m a v).1 j) i = if j = m ∧ i = a then v else (prN A).1 j i
    rw [if_pos e, if_neg hne]
    show 0 = (if j = 2 ∨ j = 4 ∨ j = 20 then fun _ => 0 else A.1 j) i
    rw [if_pos e]
  · show (if j = 2 ∨ j = 4 ∨ j = 20 then fun _ => 0 else (setA A m a v).1 j) i = if j = m ∧ i = a then v else (prN A).1 j i
    rw [if_neg e, pr_m e]
    rfl
theorem pr_kill {A : NS} {m a v : Nat} (h : m = 2 ∨ m = 4 ∨ m = 20) : prN (setA A m a v) = prN A := by
  refine NS_ext (fun j i => ?_) (fun k => rfl)
  show (if j = 2 ∨ j = 4 ∨ j = 20 then fun _ => 0 else (setA A m a v).1 j) i = (if j = 2 ∨ j = 4 ∨ j = 20 then fun _ => 0 else A.1 j) i
  by_cases e : j = 2 ∨ j = 4 ∨ j = 20
  · rw [if_pos e, if_pos e]
  · rw [if_neg e, if_neg e]
    exact setA_nm (by omega)
theorem pr_setN {A : NS} {k v : Nat} : prN (setN A k v) = setN (prN A) k v := rfl
theorem pr_open {A : NS} : nOpen (prN A) = nOpen A := by unfold nOpen; rw [pr_m (by decide)]
theorem pr_use {A : NS} : nUse (prN A) = nUse A := by unfold nUse; rw [pr_m (by decide)]
theorem pr_atW {A : NS} : atW (prN A) = atW A := by unfold atW; rw [pr_m (by decide)]; rfl
theorem pr_atWZ {A : NS} {z : Nat} : atWZ (prN A) z = atWZ A z := by unfold atWZ; rw [pr_m (by decide), pr_m (by decide)]; rfl
theorem pr_idl {A : NS} (k : Nat) : idl (prN A) k = idl A k := by
  induction k with
  | zero => rfl
  | succ k ih => rw [idl_s, idl_s, ih, pr_atWZ, pr_m (by decide), pr_m (by decide)]
theorem pr_fail {A : NS} {a r : Nat} : prN (aFail A a r) = aFail (prN A) a r := by unfold aFail; rw [pr_setA (by decide), pr_setA (by decide)]
theorem pr_take {A : NS} {z : Nat} : prN (aTake A z) = aTake (prN A) z := by
  unfold aTake
  rw [pr_setA (by decide), pr_setN, pr_m (by decide), pr_m (by decide)]
  by_cases c : A.1 14 z ≤ A.1 16 z + 1
  · rw [if_pos c, if_pos c, pr_setA (by decide), pr_setA (by decide)]; rfl
  · rw [if_neg c, if_neg c, pr_setA (by decide)]; rfl
theorem pr_go {A : NS} {a z : Nat} : prN (aGo A a z) = aGo (prN A) a z := by
  unfold aGo aBegin
  rw [pr_setA (by decide), pr_setA (by decide), pr_setA (by decide), pr_setA (by decide), pr_take, pr_m (by decide), pr_m (by decide), pr_m (by decide)]
  rfl
theorem pr_opn {A : NS} {z : Nat} : prN (aOpen A z) = aOpen (prN A) z := by
  unfold aOpen aWay
  rw [pr_setA (by decide), pr_open, pr_idl]
  by_cases c : nOpen A < A.2 4
  · rw [if_pos c, if_pos (show nOpen A < (prN A).2 4 from c)]
  · rw [if_neg c, if_neg (show ¬ nOpen A < (prN A).2 4 from c), pr_setN, pr_setA (by decide)]; rfl
theorem pr_look {A : NS} {a : Nat} : prN (stLook A a) = stLook (prN A) a := by
  have q : stLook (prN A) a = if A.1 13 (A.1 3 a) = 3 then aFail (prN A) a 1 else if A.2 8 ≤ atW A then prN A else if A.1 13 (A.1 3 a) = 1 then aGo (prN A) a (A.1 3 a)
      else if ¬ (A.1 13 (A.1 3 a) = 0 ∧ A.2 5 ≤ nUse A) ∧ (nOpen A < A.2 4 ∨ idl A 8 ≠ 8) then aGo (aOpen (prN A) (A.1 3 a)) a (A.1 3 a) else prN A := by
    unfold stLook
    rw [pr_m (m := 13) (by decide), pr_m (m := 3) (by decide), pr_atW, pr_use, pr_open, pr_idl]
    rfl
  rw [q]
  unfold stLook
  by_cases c1 : A.1 13 (A.1 3 a) = 3
  · rw [if_pos c1, if_pos c1, pr_fail]
  · rw [if_neg c1, if_neg c1]
    by_cases c2 : A.2 8 ≤ atW A
    · rw [if_pos c2, if_pos c2]
    · rw [if_neg c2, if_neg c2]
      by_cases c3 : A.1 13 (A.1 3 a) = 1
      · rw [if_pos c3, if_pos c3, pr_go]
      · rw [if_neg c3, if_neg c3]
        by_cases c4 : ¬ (A.1 13 (A.1 3 a) = 0 ∧ A.2 5 ≤ nUse A) ∧ (nOpen A < A.2 4 ∨ idl A 8 ≠ 8)
        · rw [if_pos c4, if_pos c4, pr_go, pr_opn]
        · rw [if_neg c4, if_neg c4]
def stTellP (A : NS) (a : Nat) : NS := if A.1 5 a = 1 ∧ A.1 7 a = A.2 10 then aTold A a else A
theorem pr_told {A : NS} {a : Nat} : prN (aTold A a) = aTold (prN A) a := by
  unfold aTold
  rw [pr_setN, pr_setA (by decide), pr_setA (by decide)]
  rfl
theorem pr_tell {A : NS} {a : Nat} : prN (stTell A a) = stTellP (prN A) a := by
  unfold stTell stTellP
  rw [pr_m (m := 5) (by decide), pr_m (m := 7) (by decide)]
  by_cases c : A.1 5 a = 1 ∧ A.1 7 a = A.2 10
  · rw [if_pos c, if_pos (show A.1 5 a = 1 ∧ A.1 7 a = (prN A).2 10 from c)]
    unfold aTell1
    rw [pr_told]
    split
    · rw [pr_kill (by decide)]
    · rfl
  · rw [if_neg c, if_neg (show ¬ (A.1 5 a = 1 ∧ A.1 7 a = (prN A).2 10) from c)]
theorem pr_tells {A : NS} (l : List Nat) : prN (l.foldl stTell A) = l.foldl stTellP (prN A) := by
  induction l generalizing A with
  | nil => rfl
  | cons a l ih => rw [List.foldl_cons, List.foldl_cons, ih, pr_tell]
theorem pr_ord {A : NS} : aOrd (prN A) = aOrd A := by
  unfold aOrd rnds ordQ
  rw [pr_m (m := 5) (by decide), pr_m (m := 3) (by decide)]
  rfl
theorem pr_lks (O : List Nat) (B : NS) (f : Nat) : O.foldl stLk (prN B, f) = (prN (O.foldl stLk (B, f)).1, (O.foldl stLk (B, f)).2) := by
  induction O generalizing B f with
  | nil => rfl
  | cons a O ih =>
    have s : stLk (prN B, f) a = (prN (stLk (B, f) a).1, (stLk (B, f) a).2) := by
      unfold stLk
      dsimp only
      rw [← pr_look, pr_m (m := 5) (by decide), pr_m (m := 3) (by decide)]
    rw [List.foldl_cons, List.foldl_cons, s, ih]
def aTickP (P : NS) : NS := setN (if P.2 9 = 1 ∧ ((aOrd ((List.range (P.2 0)).foldl stTellP P)).foldl stLk ((List.range (P.2 0)).foldl stTellP P, 8)).2 ≠ 8 then setN ((aOrd ((List.range (P.2 0)).foldl stTellP P)).foldl stLk ((List.range (P.2 0)).foldl stTellP P, 8)).1 6 ((((aOrd ((List.range (P.2 0)).foldl stTellP P)).foldl stLk ((List.range (P.2 0)).foldl stTellP P, 8)).2 + 1) % 8) else ((aOrd ((List.range (P.2 0)).foldl stTellP P)).foldl stLk ((List.range (P.2 0)).foldl stTellP P, 8)).1) 10 (P.2 10 + 1)
theorem pr_tick {A : NS} : prN (aTick A) = aTickP (prN A) := by
  unfold aTickP
  have hT : (List.range ((prN A).2 0)).foldl stTellP (prN A) = prN (aTellDue A) := (pr_tells _).symm
  rw [hT, pr_ord, pr_lks]
  dsimp only
  unfold aTick
  rw [pr_setN]
  by_cases c : A.2 9 = 1 ∧ ((aOrd (aTellDue A)).foldl stLk (aTellDue A, 8)).2 ≠ 8
  · rw [if_pos c, if_pos (show (prN A).2 9 = 1 ∧ ((aOrd (aTellDue A)).foldl stLk (aTellDue A, 8)).2 ≠ 8 from c), pr_setN]; rfl
  · rw [if_neg c, if_neg (show ¬ ((prN A).2 9 = 1 ∧ ((aOrd (aTellDue A)).foldl stLk (aTellDue A, 8)).2 ≠ 8) from c)]; rfl
theorem pr_ticks {A B : NS} (h : prN A = prN B) (n : Nat) : prN (aTicks A n) = prN (aTicks B n) := by
  induction n with
  | zero => exact h
  | succ n ih => rw [aTicks_s, aTicks_s, pr_tick, pr_tick, ih]
theorem pr_eq {A B : NS} (h : prN A = prN B) {m : Nat} (hm : ¬ (m = 2 ∨ m = 4 ∨ m = 20)) : A.1 m = B.1 m := by
  rw [← pr_m (A := A) hm, ← pr_m (A := B) hm, h]
theorem pr_fc {a : Nat} (d : Nat) : ∀ (k : Nat) (A B : NS), prN A = prN B → fcA a d k A = fcA a d k B := by
  induction d with
  | zero => intro k A B _; rfl
  | succ d ih =>
    intro k A B h
    have ht : prN (aTick A) = prN (aTick B) := by rw [pr_tick, pr_tick, h]
    have w : atW (aTick A) = atW (aTick B) := by rw [← pr_atW (A := aTick A), ← pr_atW (A := aTick B), ht]
    rw [fcA_s, fcA_s, pr_eq ht (by decide), w, ih (k + 1) _ _ ht]
theorem pr_add {A : NS} {w z v w' v' : Nat} : prN (aAdd A w z v) = prN (aAdd A w' z v') := by
  unfold aAdd
  simp only [pr_setN, pr_setA (show ¬ (5 = 2 ∨ 5 = 4 ∨ 5 = 20) by decide), pr_kill (show 4 = 2 ∨ 4 = 4 ∨ 4 = 20 by decide), pr_setA (show ¬ (3 = 2 ∨ 3 = 4 ∨ 3 = 20) by decide), pr_kill (show 2 = 2 ∨ 2 = 4 ∨ 2 = 20 by decide)]
