/-! PURE (p25): what else holds of a state: limits, closed zones, empty zones; the log -/
def exZ (A : NS) : Prop := nOpen A ≤ A.2 4 ∧ nUse A ≤ A.2 5 ∧ ∀ z, z < 8 → (A.1 13 z = 2 → atWZ A z = 0) ∧ (A.1 13 z ≠ 0 → A.1 16 z ≠ 0)
def exL (A : NS) : Prop := (∀ k, k < A.2 1 → A.1 10 k < A.2 0 ∧ A.1 5 (A.1 10 k) = 2 ∧ A.1 7 (A.1 10 k) ≤ A.2 10) ∧ ∀ i j, i < j → j < A.2 1 → A.1 7 (A.1 10 i) ≤ A.1 7 (A.1 10 j)
def Ex (A : NS) : Prop := exZ A ∧ exL A
theorem exL_same {A B : NS} (h : exL A) (n1 : B.2 1 = A.2 1) (n0 : A.2 0 ≤ B.2 0) (n10 : A.2 10 ≤ B.2 10) (e10 : B.1 10 = A.1 10) (e : ∀ a, a < A.2 0 → A.1 5 a = 2 → B.1 5 a = 2 ∧ B.1 7 a = A.1 7 a) : exL B := by
  obtain ⟨h1, h2⟩ := h
  refine ⟨fun k hk => ?_, fun i j hij hj => ?_⟩
  · rw [n1] at hk
    obtain ⟨g1, g2, g3⟩ := h1 k hk
    obtain ⟨f1, f2⟩ := e _ g1 g2
    rw [e10, f2]
    exact ⟨Nat.lt_of_lt_of_le g1 n0, f1, Nat.le_trans g3 n10⟩
  · rw [n1] at hj
    obtain ⟨g1, g2, g3⟩ := h1 i (Nat.lt_trans hij hj)
    obtain ⟨k1, k2, k3⟩ := h1 j hj
    rw [e10, (e _ g1 g2).2, (e _ k1 k2).2]
    exact h2 i j hij hj
theorem aTell1_10 {A : NS} {a k : Nat} : (aTell1 A a).1 10 k = if k = A.2 1 then a else A.1 10 k := by
  unfold aTell1 aTold
  split <;> simp [setA, setN]
theorem exL_tell {A : NS} {a : Nat} (h : exL A) (ha : a < A.2 0) (ht : A.1 7 a = A.2 10) : exL (aTell1 A a) := by
  obtain ⟨h1, h2⟩ := h
  have e7 : ∀ i, (aTell1 A a).1 7 i = A.1 7 i := fun i => aTell1_1 (by decide) (by decide) (by decide)
  refine ⟨fun k hk => ?_, fun i j hij hj => ?_⟩
  · rw [aTell1_told] at hk
    rw [aTell1_10, e7, aTell1_5, aTell1_num (k := 0) (by decide), aTell1_num (k := 10) (by decide)]
    by_cases e : k = A.2 1
    · rw [if_pos e, if_pos rfl]
      exact ⟨ha, rfl, by omega⟩
    · rw [if_neg e]
      obtain ⟨g1, g2, g3⟩ := h1 k (by omega)
      refine ⟨g1, ?_, g3⟩
      split
      · rfl
      · exact g2
  · rw [aTell1_told] at hj
    rw [e7, e7, aTell1_10, aTell1_10, if_neg (show ¬ i = A.2 1 by omega)]
    by_cases e : j = A.2 1
    · rw [if_pos e, ht]; exact (h1 i (by omega)).2.2
    · rw [if_neg e]; exact h2 i j hij (by omega)
theorem nOpen_congr {A B : NS} (e : ∀ z, z < 8 → B.1 13 z = A.1 13 z) : nOpen B = nOpen A := cnt_congr fun z hz => by rw [e z hz]
theorem nUse_congr {A B : NS} (e : ∀ z, z < 8 → B.1 13 z = A.1 13 z) : nUse B = nUse A := cnt_congr fun z hz => by rw [e z hz]
theorem atWZ_le {A B : NS} {z : Nat} (n0 : B.2 0 = A.2 0) (e : ∀ a, a < A.2 0 → B.1 3 a = z → B.1 5 a = 1 → A.1 3 a = z ∧ A.1 5 a = 1) : atWZ B z ≤ atWZ A z := by
  unfold atWZ
  rw [n0]
  exact cnt_mono fun a ha h => decide_eq_true (e a ha (of_decide_eq_true h).1 (of_decide_eq_true h).2)
theorem atW_le {A B : NS} (n0 : B.2 0 = A.2 0) (e : ∀ a, a < A.2 0 → B.1 5 a = 1 → A.1 5 a = 1) : atW B ≤ atW A := by
  unfold atW
  rw [n0]
  exact cnt_mono fun a ha h => decide_eq_true (e a ha (of_decide_eq_true h))
theorem exZ_same {A B : NS} (h : exZ A) (e13 : B.1 13 = A.1 13) (e16 : B.1 16 = A.1 16) (n4 : B.2 4 = A.2 4) (n5 : B.2 5 = A.2 5) (hw : ∀ z, z < 8 → atWZ B z ≤ atWZ A z) : exZ B := by
  obtain ⟨h1, h2, h3⟩ := h
  refine ⟨by rw [nOpen_congr (A := A) (B := B) fun z _ => by rw [e13], n4]; exact h1, by rw [nUse_congr (A := A) (B := B) fun z _ => by rw [e13], n5]; exact h2, fun z hz => ?_⟩
  rw [e13, e16]
  refine ⟨fun e => ?_, (h3 z hz).2⟩
  have := (h3 z hz).1 e
  have := hw z hz
  omega
/-- between the opening and the beginning -/
def exO (A : NS) (z : Nat) : Prop := nOpen A ≤ A.2 4 ∧ nUse A ≤ A.2 5 ∧ A.1 13 z = 1 ∧ ∀ y, y < 8 → y ≠ z → (A.1 13 y = 2 → atWZ A y = 0) ∧ (A.1 13 y ≠ 0 → A.1 16 y ≠ 0)
theorem exO_go {A : NS} {a z : Nat} (h : exO A z) (hz : z < 8) (haz : A.1 3 a = z) : exZ (aGo A a z) := by
  obtain ⟨h1, h2, h3, h4⟩ := h
  have g13 : ∀ y, (aGo A a z).1 13 y = if y = z ∧ A.1 14 z ≤ A.1 16 z + 1 then 3 else A.1 13 y := fun y => aGo_13
  refine ⟨?_, ?_, fun y hy => ?_⟩
  · rw [aGo_2, if_neg (by decide)]
    refine Nat.le_trans (cnt_mono fun y hy e => ?_) h1
    have e := of_decide_eq_true e
    rw [g13] at e
    split at e
    · omega
    · exact decide_eq_true e
  · rw [aGo_2, if_neg (by decide)]
    refine Nat.le_trans (cnt_mono fun y hy e => ?_) h2
    have e := of_decide_eq_true e
    rw [g13] at e
    split at e
    · omega
    · exact decide_eq_true e
  · rw [g13, aGo_16]
    by_cases e : y = z
    · subst e
      rw [if_pos rfl]
      refine ⟨fun x => ?_, fun _ => by omega⟩
      split at x <;> omega
    · rw [if_neg (fun x => e x.1), if_neg e]
      refine ⟨fun x => ?_, (h4 y hy e).2⟩
      have h0 := (h4 y hy e).1 x
      have : atWZ (aGo A a z) y ≤ atWZ A y := by
        refine atWZ_le (by rw [aGo_2, if_neg (by decide)]) fun i hi e3 e5 => ?_
        rw [aGo_1 (by decide) (by decide) (by decide) (by decide) (by decide) (by decide) (by decide)] at e3
        rw [aGo_5] at e5
        by_cases ei : i = a
        · subst ei; omega
        · rw [if_neg ei] at e5; exact ⟨e3, e5⟩
      omega
theorem exZ_o {A : NS} {z : Nat} (h : exZ A) (h1 : A.1 13 z = 1) : exO A z := ⟨h.1, h.2.1, h1, fun y hy _ => h.2.2 y hy⟩
theorem exZ_open {A : NS} {z : Nat} (h : exZ A) (I : Iv A) (hz : z < 8) (h1 : A.1 13 z ≠ 1) (h3 : A.1 13 z ≠ 3) (hc1 : ¬ (A.1 13 z = 0 ∧ A.2 5 ≤ nUse A)) (hc2 : nOpen A < A.2 4 ∨ idl A 8 ≠ 8) : exO (aOpen A z) z := by
  obtain ⟨g1, g2, g3⟩ := h
  have Z := (I.z z hz).1
  have o13 : ∀ y, (aOpen A z).1 13 y = if y = z then 1 else if ¬ nOpen A < A.2 4 ∧ y = idl A 8 then 2 else A.1 13 y := fun y => aOpen_13
  have hi := idl_lt (A := A) 8
  have hW : ∀ y, atWZ (aOpen A z) y = atWZ A y := fun y => by
    unfold atWZ
    rw [aOpen_1 (m := 3) (by decide), aOpen_1 (m := 5) (by decide), aOpen_2 (by decide)]
  refine ⟨?_, ?_, by rw [o13, if_pos rfl], fun y hy hne => ?_⟩
  · rw [aOpen_2 (by decide)]
    by_cases c : nOpen A < A.2 4
    · have : nOpen (aOpen A z) = nOpen A + 1 := by
        unfold nOpen
        refine cnt_one (a := z) 8 hz (decide_eq_false h1) (decide_eq_true (by rw [o13, if_pos rfl])) fun i _ hne => ?_
        rw [o13, if_neg hne, if_neg (fun x => x.1 c)]
      omega
    · have hi8 : idl A 8 ≠ 8 := hc2.resolve_left c
      obtain ⟨i1, i2, i3⟩ := hi.resolve_left hi8
      have ne : z ≠ idl A 8 := fun x => h1 (by rw [x]; exact i2)
      have c1 : nOpen A = cnt (fun y => decide (y ≠ idl A 8 ∧ A.1 13 y = 1)) 8 + 1 := by
        unfold nOpen
        exact cnt_one (a := idl A 8) 8 i1 (decide_eq_false (fun x => x.1 rfl)) (decide_eq_true i2) fun i _ hne => by
          exact decide_eq_decide.2 ⟨fun x => ⟨hne, x⟩, fun x => x.2⟩
      have c2 : nOpen (aOpen A z) = cnt (fun y => decide (y ≠ idl A 8 ∧ A.1 13 y = 1)) 8 + 1 := by
        unfold nOpen
        refine cnt_one (a := z) 8 hz (decide_eq_false (fun x => h1 x.2)) (decide_eq_true (by rw [o13, if_pos rfl])) fun i _ hne => ?_
        rw [o13, if_neg hne]
        by_cases e : i = idl A 8
        · rw [if_pos ⟨c, e⟩, decide_eq_false (by decide), decide_eq_false (fun x => x.1 e)]
        · rw [if_neg (fun x => e x.2)]
          exact decide_eq_decide.2 ⟨fun x => ⟨e, x⟩, fun x => x.2⟩
      omega
  · rw [aOpen_2 (by decide)]
    have oth : ∀ i, i ≠ z → ((aOpen A z).1 13 i = 1 ∨ (aOpen A z).1 13 i = 2) = (A.1 13 i = 1 ∨ A.1 13 i = 2) := fun i hne => by
      rw [o13, if_neg hne]
      split
      · rename_i e
        obtain ⟨i1, i2, i3⟩ := hi.resolve_left (hc2.resolve_left e.1)
        rw [e.2, i2]
        exact propext ⟨fun _ => Or.inl rfl, fun _ => Or.inr rfl⟩
      · rfl
    by_cases c : A.1 13 z = 0
    · have hn : nUse A < A.2 5 := Nat.not_le.1 fun x => hc1 ⟨c, x⟩
      have : nUse (aOpen A z) = nUse A + 1 := by
        unfold nUse
        refine cnt_one (a := z) 8 hz (decide_eq_false (by omega)) (decide_eq_true (by rw [o13, if_pos rfl]; exact Or.inl rfl)) fun i _ hne => ?_
        simp only [oth i hne]
      omega
    · have h2 : A.1 13 z = 2 := by omega
      have : nUse (aOpen A z) = nUse A := by
        unfold nUse
        refine cnt_congr fun i _ => ?_
        by_cases e : i = z
        · subst e
          rw [decide_eq_true (by rw [o13, if_pos rfl]; exact Or.inl rfl), decide_eq_true (Or.inr h2)]
        · simp only [oth i e]
      omega
  · rw [hW, aOpen_1 (m := 16) (by decide), o13, if_neg hne]
    split
    · rename_i e
      obtain ⟨i1, i2, i3⟩ := hi.resolve_left (hc2.resolve_left e.1)
      refine ⟨fun _ => by rw [e.2]; exact i3, fun _ => (g3 y hy).2 (by rw [e.2, i2]; decide)⟩
    · exact g3 y hy
theorem look_m {A : NS} {a m : Nat} (h5 : m ≠ 5) (h6 : m ≠ 6) (h7 : m ≠ 7) (h8 : m ≠ 8) (h9 : m ≠ 9) (h13 : m ≠ 13) (h16 : m ≠ 16) (h18 : m ≠ 18) : (stLook A a).1 m = A.1 m := by
  unfold stLook
  split
  · exact funext fun i => aFail_1 h5 h8
  · split
    · rfl
    · split
      · exact aGo_1 h5 h6 h7 h9 h13 h16 h18
      · split
        · rw [aGo_1 h5 h6 h7 h9 h13 h16 h18, aOpen_1 h13]
        · rfl
theorem look_n {A : NS} {a k : Nat} (h3 : k ≠ 3) (h7 : k ≠ 7) : (stLook A a).2 k = A.2 k := by
  unfold stLook
  split
  · rw [aFail_2]
  · split
    · rfl
    · split
      · rw [aGo_2, if_neg h3]
      · split
        · rw [aGo_2, if_neg h3, aOpen_2 h7]
        · rfl
theorem look_7 {A : NS} {a i : Nat} (h : i ≠ a) : (stLook A a).1 7 i = A.1 7 i := by
  unfold stLook
  split
  · exact aFail_1 (by decide) (by decide)
  · split
    · rfl
    · split
      · rw [aGo_7, if_neg h]
      · split
        · rw [aGo_7, if_neg h, aOpen_1 (by decide)]
        · rfl
theorem atW_go {A : NS} {a z : Nat} (ha : a < A.2 0) (hp : A.1 5 a = 0) : atW (aGo A a z) = atW A + 1 := by
  unfold atW
  rw [aGo_2, if_neg (by decide)]
  refine cnt_one (a := a) (A.2 0) ha (decide_eq_false (by omega)) (decide_eq_true (by rw [aGo_5, if_pos rfl])) fun i _ hne => ?_
  rw [aGo_5, if_neg hne]
/-- a look keeps what else holds; at work there are no more than the channels, or than before -/
theorem look_ex {A : NS} {a : Nat} (h : Ex A) (I : Iv A) (ha : a < A.2 0) (hp : A.1 5 a = 0) : Ex (stLook A a) ∧ (atW (stLook A a) ≤ atW A ∨ atW (stLook A a) ≤ A.2 8) := by
  have hz : A.1 3 a < 8 := (I.a.2 a ha).2.1
  have hL : exL (stLook A a) := exL_same h.2 (look_n (by decide) (by decide)) (Nat.le_of_eq (look_n (by decide) (by decide)).symm) (Nat.le_of_eq (look_n (by decide) (by decide)).symm) (look_m (by decide) (by decide) (by decide) (by decide) (by decide) (by decide) (by decide) (by decide)) fun i _ e2 => by
    have hne : i ≠ a := fun x => by rw [x, hp] at e2; omega
    exact ⟨(look_5 hne).trans e2, look_7 hne⟩
  suffices hs : exZ (stLook A a) ∧ (atW (stLook A a) ≤ atW A ∨ atW (stLook A a) ≤ A.2 8) from ⟨⟨hs.1, hL⟩, hs.2⟩
  unfold stLook
  split
  · have e5 : ∀ i, (aFail A a 1).1 5 i = 1 → A.1 5 i = 1 := fun i x => by
      rw [aFail_5] at x
      split at x <;> omega
    refine ⟨exZ_same h.1 (funext fun i => aFail_1 (by decide) (by decide)) (funext fun i => aFail_1 (by decide) (by decide)) (by rw [aFail_2]) (by rw [aFail_2]) fun z _ => atWZ_le (by rw [aFail_2]) fun i _ x3 x5 => ⟨by rw [aFail_1 (by decide) (by decide)] at x3; exact x3, e5 i x5⟩, Or.inl (atW_le (by rw [aFail_2]) fun i _ => e5 i)⟩
  · rename_i n3
    split
    · exact ⟨h.1, Or.inl (Nat.le_refl _)⟩
    · rename_i nc
      split
      · rename_i e1
        exact ⟨exO_go (exZ_o h.1 e1) hz rfl, Or.inr (by rw [atW_go ha hp]; omega)⟩
      · rename_i n1
        split
        · rename_i hc
          refine ⟨exO_go (exZ_open h.1 I hz n1 n3 hc.1 hc.2) hz (by rw [aOpen_1 (by decide)]), Or.inr ?_⟩
          have w : atW (aOpen A (A.1 3 a)) = atW A := by
            unfold atW
            rw [aOpen_1 (m := 5) (by decide), aOpen_2 (by decide)]
          rw [atW_go (by rw [aOpen_2 (by decide)]; exact ha) (by rw [aOpen_1 (by decide)]; exact hp), w]
          omega
        · exact ⟨h.1, Or.inl (Nat.le_refl _)⟩
theorem fold_ex : ∀ (O : List Nat) (B : NS) (f : Nat), Iv B → B.2 10 < 2 ^ 30 → O.Pairwise (fun a b => a ≠ b) → (∀ a, a ∈ O → a < B.2 0 ∧ B.1 5 a = 0) → Ex B →
    Ex (O.foldl stLk (B, f)).1 ∧ (atW (O.foldl stLk (B, f)).1 ≤ atW B ∨ atW (O.foldl stLk (B, f)).1 ≤ B.2 8) ∧ (∀ i, B.1 5 i ≠ 0 → (O.foldl stLk (B, f)).1.1 7 i = B.1 7 i) ∧ (∀ i, (O.foldl stLk (B, f)).1.1 5 i = 2 → B.1 5 i = 2) ∧ (O.foldl stLk (B, f)).1.2 10 = B.2 10 := by
  intro O
  induction O with
  | nil => intro B f _ _ _ _ h; exact ⟨h, Or.inl (Nat.le_refl _), fun _ _ => rfl, fun _ x => x, rfl⟩
  | cons a O ih =>
    intro B f I ht hp hm h
    obtain ⟨p1, p2⟩ := List.pairwise_cons.1 hp
    obtain ⟨ha, ha5⟩ := hm a (List.mem_cons_self)
    obtain ⟨J, L⟩ := Iv_look I ha ha5 ht
    obtain ⟨e1, e2⟩ := look_ex h I ha ha5
    have t10 : (stLook B a).2 10 = B.2 10 := look_n (by decide) (by decide)
    have t8 : (stLook B a).2 8 = B.2 8 := look_n (by decide) (by decide)
    obtain ⟨g1, g2, g3, g4, g5⟩ := ih (stLook B a) (if f = 8 ∧ (stLook B a).1 5 a = 1 then B.1 3 a else f) J (by rw [t10]; exact ht) p2 (fun b hb => by
      obtain ⟨q1, q2⟩ := hm b (List.mem_cons_of_mem _ hb)
      exact ⟨by rw [L.n0]; exact q1, by rw [look_5 (Ne.symm (p1 b hb))]; exact q2⟩) e1
    show Ex (O.foldl stLk (stLk (B, f) a)).1 ∧ _
    refine ⟨g1, ?_, fun i hi => ?_, fun i hi => ?_, ?_⟩
    · show atW (O.foldl stLk (stLook B a, if f = 8 ∧ (stLook B a).1 5 a = 1 then B.1 3 a else f)).1 ≤ atW B ∨ atW (O.foldl stLk (stLook B a, if f = 8 ∧ (stLook B a).1 5 a = 1 then B.1 3 a else f)).1 ≤ B.2 8
      omega
    · have hne : i ≠ a := fun x => hi (by rw [x]; exact ha5)
      exact (g3 i (by rw [look_5 hne]; exact hi)).trans (look_7 hne)
    · have x := g4 i hi
      by_cases e : i = a
      · subst e
        rcases look_5a (A := B) (a := i) with q | q | q
        · omega
        · omega
        · rw [q] at x; exact x
      · rw [look_5 e] at x; exact x
    · exact g5.trans t10
/-- what is due is told -/
theorem tellDue_ex {A : NS} (h : Ex A) : Ex (aTellDue A) ∧ (aTellDue A).2 10 = A.2 10 ∧ (∀ i, (aTellDue A).1 7 i = A.1 7 i) ∧ ∀ i, (aTellDue A).1 5 i = A.1 5 i ∨ ((aTellDue A).1 5 i = 2 ∧ A.1 5 i = 1 ∧ A.1 7 i = A.2 10) := by
  have go : ∀ (l : List Nat) (B : NS), (∀ a, a ∈ l → a < A.2 0) → Ex B → B.2 0 = A.2 0 → B.2 10 = A.2 10 → (∀ i, B.1 7 i = A.1 7 i) → (∀ i, B.1 5 i = A.1 5 i ∨ (B.1 5 i = 2 ∧ A.1 5 i = 1 ∧ A.1 7 i = A.2 10)) →
      Ex (l.foldl stTell B) ∧ (l.foldl stTell B).2 10 = A.2 10 ∧ (∀ i, (l.foldl stTell B).1 7 i = A.1 7 i) ∧ ∀ i, (l.foldl stTell B).1 5 i = A.1 5 i ∨ ((l.foldl stTell B).1 5 i = 2 ∧ A.1 5 i = 1 ∧ A.1 7 i = A.2 10) := by
    intro l
    induction l with
    | nil => intro B _ e _ n10 h7 h5; exact ⟨e, n10, h7, h5⟩
    | cons a l ih =>
      intro B hm e n0 n10 h7 h5
      have ha := hm a List.mem_cons_self
      show Ex (l.foldl stTell (stTell B a)) ∧ (l.foldl stTell (stTell B a)).2 10 = A.2 10 ∧ (∀ i, (l.foldl stTell (stTell B a)).1 7 i = A.1 7 i) ∧ ∀ i, (l.foldl stTell (stTell B a)).1 5 i = A.1 5 i ∨ ((l.foldl stTell (stTell B a)).1 5 i = 2 ∧ A.1 5 i = 1 ∧ A.1 7 i = A.2 10)
      unfold stTell
      by_cases c : B.1 5 a = 1 ∧ B.1 7 a = B.2 10
      · rw [if_pos c]
        have e5 : ∀ i, (aTell1 B a).1 5 i = if i = a then 2 else B.1 5 i := fun i => aTell1_5
        have r : ∀ m, m ≠ 5 → m ≠ 10 → m ≠ 20 → (aTell1 B a).1 m = B.1 m := fun m x5 x10 x20 => funext fun i => aTell1_1 x5 x10 x20
        have d5 : ∀ i, (aTell1 B a).1 5 i = 1 → B.1 5 i = 1 := fun i x => by
          rw [e5] at x
          split at x
          · omega
          · exact x
        refine ih (aTell1 B a) (fun b hb => hm b (List.mem_cons_of_mem _ hb)) ⟨?_, exL_tell e.2 (by rw [n0]; exact ha) c.2⟩ ((aTell1_num (by decide)).trans n0) ((aTell1_num (by decide)).trans n10) (fun i => by rw [r 7 (by decide) (by decide) (by decide)]; exact h7 i) fun i => ?_
        · exact exZ_same e.1 (r 13 (by decide) (by decide) (by decide)) (r 16 (by decide) (by decide) (by decide)) (aTell1_num (by decide)) (aTell1_num (by decide)) fun z _ => atWZ_le (aTell1_num (by decide)) fun i _ x3 x5 => ⟨by rw [r 3 (by decide) (by decide) (by decide)] at x3; exact x3, d5 i x5⟩
        · rw [e5]
          by_cases ei : i = a
          · subst ei
            rw [if_pos rfl]
            have c2 := c.2
            rw [h7, n10] at c2
            rcases h5 i with q | q
            · exact Or.inr ⟨rfl, by rw [← q]; exact c.1, c2⟩
            · omega
          · rw [if_neg ei]; exact h5 i
      · rw [if_neg c]
        exact ih B (fun b hb => hm b (List.mem_cons_of_mem _ hb)) e n0 n10 h7 h5
  exact go (List.range (A.2 0)) A (fun a ha => List.mem_range.1 ha) h rfl rfl (fun _ => rfl) fun _ => Or.inl rfl
/-- a tick -/
theorem tick_ex {A : NS} (h : Ex A) (I : Iv A) (ht : A.2 10 < 2 ^ 29) : Ex (aTick A) ∧ (atW (aTick A) ≤ atW A ∨ atW (aTick A) ≤ A.2 8) ∧ (∀ a, A.1 5 a ≠ 2 → (aTick A).1 5 a = 2 → (aTick A).1 7 a = A.2 10) := by
  obtain ⟨t1, t2, t3, t4⟩ := tellDue_ex h
  obtain ⟨J, L⟩ := Iv_tellDue I
  obtain ⟨f1, f2, f3, f4, f5⟩ := fold_ex (aOrd (aTellDue A)) (aTellDue A) 8 J (by rw [t2]; omega) (ord_nodup J) (fun a ha => ord_mem ha) t1
  have w1 : atW (aTellDue A) ≤ atW A := atW_le L.n0 fun i _ x => by
    rcases t4 i with q | q
    · rw [← q]; exact x
    · omega
  have w8 : (aTellDue A).2 8 = A.2 8 := L.1 8 (by decide) (by decide) (by decide)
  rw [aTick_eq]
  have e1 : (aLooks A).1 = ((aOrd (aTellDue A)).foldl stLk (aTellDue A, 8)).1 := rfl
  have hX : ∀ X : NS, Ex X → X.2 10 = A.2 10 → Ex (setN X 10 (A.2 10 + 1)) := fun X hX hx =>
    ⟨exZ_same hX.1 rfl rfl (setN_ne (by decide)) (setN_ne (by decide)) fun z _ => by unfold atWZ; rw [setN_ne (by decide)]; exact Nat.le_refl _, exL_same hX.2 (setN_ne (by decide)) (by rw [setN_ne (by decide)]; exact Nat.le_refl _) (by rw [setN_eq, hx]; omega) rfl fun _ _ x => ⟨x, rfl⟩⟩
  have hw : ∀ (X : NS) (k v : Nat), k ≠ 0 → atW (setN X k v) = atW X := fun X k v hk => by unfold atW; rw [setN_ne (Ne.symm hk)]; rfl
  have tl : ∀ a, A.1 5 a ≠ 2 → (aLooks A).1.1 5 a = 2 → (aLooks A).1.1 7 a = A.2 10 := fun a hn h2 => by
    rw [e1] at h2 ⊢
    have q2 := f4 a h2
    rcases t4 a with q | q
    · exact absurd (q.symm.trans q2) hn
    · rw [f3 a (by rw [q2]; decide), t3]
      exact q.2.2
  by_cases c : A.2 9 = 1 ∧ (aLooks A).2 ≠ 8
  · rw [if_pos c]
    refine ⟨hX _ ⟨exZ_same f1.1 rfl rfl (setN_ne (by decide)) (setN_ne (by decide)) fun z _ => by unfold atWZ; rw [setN_ne (by decide)]; exact Nat.le_refl _, exL_same f1.2 (setN_ne (by decide)) (by rw [setN_ne (by decide)]; exact Nat.le_refl _) (by rw [setN_ne (by decide)]; exact Nat.le_refl _) rfl fun _ _ x => ⟨x, rfl⟩⟩ (by rw [setN_ne (by decide), e1, f5, t2]), ?_, tl⟩
    rw [hw _ _ _ (by decide), hw _ _ _ (by decide), e1]
    omega
  · rw [if_neg c]
    refine ⟨hX _ f1 (by rw [e1, f5, t2]), ?_, tl⟩
    rw [hw _ _ _ (by decide), e1]
    omega
theorem ticks_ex {A : NS} (h : Ex A) (I : Iv A) : ∀ k, A.2 10 + k ≤ 20000 → Ex (aTicks A k) ∧ (atW (aTicks A k) ≤ atW A ∨ atW (aTicks A k) ≤ A.2 8) := by
  intro k
  induction k with
  | zero => intro _; exact ⟨h, Or.inl (Nat.le_refl _)⟩
  | succ k ih =>
    intro hk
    obtain ⟨g1, g2⟩ := ih (by omega)
    obtain ⟨J, L, t⟩ := Iv_ticks I k (by omega)
    obtain ⟨e1, e2, _⟩ := tick_ex g1 J (by omega)
    have n8 : (aTicks A k).2 8 = A.2 8 := L.1 8 (by decide)
    rw [aTicks_s]
    exact ⟨e1, by omega⟩
