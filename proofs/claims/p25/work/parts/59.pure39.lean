/-! PURE: nothing at work behind a tick: what waits, waits for ever -/
def CW (B : NS) (x : Nat) : Prop := B.1 13 (B.1 3 x) ≠ 3 ∧ B.1 13 (B.1 3 x) ≠ 1 ∧ ¬ (¬ (B.1 13 (B.1 3 x) = 0 ∧ B.2 5 ≤ nUse B) ∧ (nOpen B < B.2 4 ∨ idl B 8 ≠ 8))
theorem atWZ_0 {B : NS} (h : atW B = 0) (z : Nat) : atWZ B z = 0 := by
  unfold atW at h
  unfold atWZ
  rw [cnt_zero] at h ⊢
  intro a ha
  have := of_decide_eq_false (h a ha)
  exact decide_eq_false fun x => this x.2
theorem idl_congr {X F : NS} (e13 : F.1 13 = X.1 13) (e18 : F.1 18 = X.1 18) (hX : atW X = 0) (hF : atW F = 0) : ∀ k, idl F k = idl X k
  | 0 => rfl
  | k + 1 => by
    rw [idl_s, idl_s, idl_congr e13 e18 hX hF k, e13, e18, atWZ_0 hX, atWZ_0 hF]
theorem CW_congr {X F : NS} (e3 : F.1 3 = X.1 3) (e13 : F.1 13 = X.1 13) (e18 : F.1 18 = X.1 18) (n4 : F.2 4 = X.2 4) (n5 : F.2 5 = X.2 5) (hX : atW X = 0) (hF : atW F = 0) {x : Nat} (h : CW X x) : CW F x := by
  unfold CW at h ⊢
  have u : nUse F = nUse X := by unfold nUse; rw [e13]
  have o : nOpen F = nOpen X := by unfold nOpen; rw [e13]
  rw [e3, e13, n4, n5, u, o, idl_congr e13 e18 hX hF]
  exact h
theorem atW_ge {B : NS} {a : Nat} (ha : a < B.2 0) (h : B.1 5 a = 1) : atW B ≠ 0 := by
  intro x
  unfold atW at x
  rw [cnt_zero] at x
  exact of_decide_eq_false (x a ha) h
/-- the looks, when nothing is at work behind them -/
theorem fold_stuck : ∀ (O : List Nat) (B : NS) (f : Nat), Iv B → B.2 10 < 2 ^ 30 → O.Pairwise (fun a b => a ≠ b) → (∀ a, a ∈ O → a < B.2 0 ∧ B.1 5 a = 0) → f ≤ 8 → atW (O.foldl stLk (B, f)).1 = 0 →
    (∀ m, m ≠ 5 → m ≠ 8 → (O.foldl stLk (B, f)).1.1 m = B.1 m) ∧ (O.foldl stLk (B, f)).1.2 = B.2 ∧ atW B = 0 ∧ ∀ x, x ∈ O → (O.foldl stLk (B, f)).1.1 5 x = 0 → CW B x
  | [], B, f, _, _, _, _, _, h => ⟨fun _ _ _ => rfl, rfl, h, fun _ hx => absurd hx (by simp)⟩
  | a :: O, B, f, hI, ht, hp, hm, hf, h => by
    have ha := hm a List.mem_cons_self
    have L := Iv_look hI ha.1 ha.2 ht
    have hz := (hI.a.2 a ha.1).2.1
    obtain ⟨p1, p2⟩ := List.pairwise_cons.1 hp
    rw [List.foldl_cons] at h ⊢
    have hm1 : ∀ x, x ∈ O → x < (stLook B a).2 0 ∧ (stLook B a).1 5 x = 0 := fun x hx => ⟨by rw [L.2.n0]; exact (hm x (List.mem_cons_of_mem _ hx)).1, by rw [look_5 (fun e => p1 x hx e.symm)]; exact (hm x (List.mem_cons_of_mem _ hx)).2⟩
    have hf1 : (if f = 8 ∧ (stLook B a).1 5 a = 1 then B.1 3 a else f) ≤ 8 := by split <;> omega
    have ht1 : (stLook B a).2 10 < 2 ^ 30 := by rw [L.2.1 10 (by decide) (by decide) (by decide)]; exact ht
    obtain ⟨g1, g2, g3, g4⟩ := fold_stuck O (stLook B a) _ L.1 ht1 p2 hm1 hf1 h
    have keep := (fold_lk O (stLook B a) (stLook B a) (if f = 8 ∧ (stLook B a).1 5 a = 1 then B.1 3 a else f) L.1 Le.refl ht1 p2 hm1 hf1).2.2.2 a (fun x => p1 a x rfl)
    have n8 := hI.n.1.1
    have not1 : (stLook B a).1 5 a ≠ 1 := fun x => atW_ge (by rw [L.2.n0]; exact ha.1) x g3
    have ga : ∀ x, (List.foldl stLk (stLk (B, f) a) O) = x → (List.foldl stLk (stLook B a, if f = 8 ∧ (stLook B a).1 5 a = 1 then B.1 3 a else f) O) = x := fun x e => e
    by_cases e3 : B.1 13 (B.1 3 a) = 3
    · have eB : stLook B a = aFail B a 1 := by unfold stLook; rw [if_pos e3]
      have w0 : atW B = 0 := by
        unfold atW at g3 ⊢
        rw [cnt_zero] at g3 ⊢
        intro i hi
        have := g3 i (by rw [L.2.n0]; exact hi)
        by_cases ei : i = a
        · subst ei; rw [ha.2]; rfl
        · rw [look_5 ei] at this; exact this
      have r : ∀ m, m ≠ 5 → m ≠ 8 → (stLook B a).1 m = B.1 m := fun m h5 h8 => by rw [eB]; exact funext fun i => aFail_1 h5 h8
      have rn : (stLook B a).2 = B.2 := by rw [eB, aFail_2]
      refine ⟨fun m h5 h8 => (g1 m h5 h8).trans (r m h5 h8), g2.trans rn, w0, fun x hx hx0 => ?_⟩
      rcases List.mem_cons.1 hx with e | hx
      · subst e
        have : (List.foldl stLk (stLk (B, f) x) O).1.1 5 x = (stLook B x).1 5 x := keep
        rw [this, eB, aFail_5, if_pos rfl] at hx0
        omega
      · exact CW_congr (r 3 (by decide) (by decide)).symm (r 13 (by decide) (by decide)).symm (r 18 (by decide) (by decide)).symm (by rw [rn]) (by rw [rn]) g3 w0 (g4 x hx hx0)
    · have cases : stLook B a = B ∧ CW B a := by
        by_cases e8 : B.2 8 ≤ atW B
        · have eB : stLook B a = B := by unfold stLook; rw [if_neg e3, if_pos e8]
          rw [eB] at g3
          omega
        · by_cases e1 : B.1 13 (B.1 3 a) = 1
          · exfalso
            apply not1
            unfold stLook
            rw [if_neg e3, if_neg e8, if_pos e1, aGo_5, if_pos rfl]
          · by_cases ec : ¬ (B.1 13 (B.1 3 a) = 0 ∧ B.2 5 ≤ nUse B) ∧ (nOpen B < B.2 4 ∨ idl B 8 ≠ 8)
            · exfalso
              apply not1
              unfold stLook
              rw [if_neg e3, if_neg e8, if_neg e1, if_pos ec, aGo_5, if_pos rfl]
            · exact ⟨by unfold stLook; rw [if_neg e3, if_neg e8, if_neg e1, if_neg ec], e3, e1, ec⟩
      obtain ⟨eB, c⟩ := cases
      refine ⟨fun m h5 h8 => (g1 m h5 h8).trans (by rw [eB]), g2.trans (by rw [eB]), by rw [← eB]; exact g3, fun x hx hx0 => ?_⟩
      rcases List.mem_cons.1 hx with e | hx
      · subst e; exact c
      · have := g4 x hx hx0
        rw [eB] at this
        exact this
theorem ord_all {A : NS} (I : Iv A) {a : Nat} (ha : a < A.2 0) (hp : A.1 5 a = 0) : a ∈ aOrd A := by
  have hz := (I.a.2 a ha).2.1
  have h9 := I.n.2.1
  have h6 := I.n.2.2.1
  unfold aOrd
  rw [List.mem_flatMap]
  by_cases e : A.2 9 = 1
  · refine ⟨(A.1 3 a + 8 - A.2 6) % 8, List.mem_range.2 (by unfold rnds; rw [if_pos e]; omega), List.mem_filter.2 ⟨List.mem_range.2 ha, ?_⟩⟩
    unfold ordQ
    simp only [Bool.and_eq_true, decide_eq_true_eq]
    exact ⟨hp, Or.inr (by omega)⟩
  · refine ⟨0, List.mem_range.2 (by unfold rnds; rw [if_neg e]; omega), List.mem_filter.2 ⟨List.mem_range.2 ha, ?_⟩⟩
    unfold ordQ
    simp only [Bool.and_eq_true, decide_eq_true_eq]
    exact ⟨hp, Or.inl (by omega)⟩
def Stuck (B : NS) : Prop := atW B = 0 ∧ ∀ x, x < B.2 0 → B.1 5 x = 0 → CW B x
theorem Stuck_num {B : NS} (h : Stuck B) {k v : Nat} (hk : k = 6 ∨ k = 10) : Stuck (setN B k v) := by
  have n0 : (setN B k v).2 0 = B.2 0 := setN_ne (by omega)
  have w : atW (setN B k v) = 0 := by
    have := h.1
    unfold atW at this ⊢
    rw [n0]
    exact this
  exact ⟨w, fun x hx h0 => CW_congr (X := B) (F := setN B k v) rfl rfl rfl (setN_ne (by omega)) (setN_ne (by omega)) h.1 w (h.2 x (by rw [n0] at hx; exact hx) h0)⟩
theorem stuck_tick {A : NS} (I : Iv A) (ht : A.2 10 < 2 ^ 29) (h : atW (aTick A) = 0) : Stuck (aTick A) := by
  obtain ⟨I1, L1⟩ := Iv_tellDue I
  obtain ⟨F1, F2, F3⟩ := Iv_looks I ht
  have t1 : (aTellDue A).2 10 = A.2 10 := L1.1 10 (by decide) (by decide) (by decide)
  have hl : atW (aLooks A).1 = 0 := by
    rw [aTick_eq] at h
    unfold atW at h ⊢
    rw [setN_ne (show (0 : Nat) ≠ 10 by decide)] at h
    split at h
    · exact h
    · exact h
  have hl' : atW ((aOrd (aTellDue A)).foldl stLk (aTellDue A, 8)).1 = 0 := hl
  obtain ⟨g1, g2, g3, g4⟩ := fold_stuck (aOrd (aTellDue A)) (aTellDue A) 8 I1 (by omega) (ord_nodup I1) (fun a ha => ord_mem ha) (Nat.le_refl _) hl'
  have FL := (fold_lk (aOrd (aTellDue A)) (aTellDue A) (aTellDue A) 8 I1 Le.refl (by omega) (ord_nodup I1) (fun a ha => ord_mem ha) (Nat.le_refl _)).2.1
  have S : Stuck (aLooks A).1 := by
    refine ⟨hl, fun x hx h0 => ?_⟩
    have g1 : ∀ m, m ≠ 5 → m ≠ 8 → (aLooks A).1.1 m = (aTellDue A).1 m := g1
    have g2 : (aLooks A).1.2 = (aTellDue A).2 := g2
    have hx' : x < (aTellDue A).2 0 := by rw [← g2]; exact hx
    have h0' : (aTellDue A).1 5 x = 0 := (FL.2.2 x hx').1 h0
    exact CW_congr (g1 3 (by decide) (by decide)) (g1 13 (by decide) (by decide)) (g1 18 (by decide) (by decide)) (by rw [g2]) (by rw [g2]) g3 hl (g4 x (ord_all I1 hx' h0') h0)
  rw [aTick_eq]
  split
  · exact Stuck_num (Stuck_num S (Or.inl rfl)) (Or.inr rfl)
  · exact Stuck_num S (Or.inr rfl)
theorem stuck_stays {B : NS} (I : Iv B) (h : Stuck B) : aTick B = setN B 10 (B.2 10 + 1) := by
  have n8 := I.n.1.1
  have t0 : aTellDue B = B := by
    have go : ∀ l : List Nat, (∀ a, a ∈ l → a < B.2 0) → l.foldl stTell B = B := by
      intro l
      induction l with
      | nil => intro _; rfl
      | cons a l ih =>
        intro hm
        rw [List.foldl_cons]
        have : stTell B a = B := if_neg fun x => atW_ge (hm a List.mem_cons_self) x.1 h.1
        rw [this]
        exact ih fun x hx => hm x (List.mem_cons_of_mem _ hx)
    exact go _ fun a ha => List.mem_range.1 ha
  have l0 : aLooks B = (B, 8) := by
    unfold aLooks
    rw [t0]
    have go : ∀ l : List Nat, (∀ a, a ∈ l → a < B.2 0 ∧ B.1 5 a = 0) → l.foldl stLk (B, 8) = (B, 8) := by
      intro l
      induction l with
      | nil => intro _; rfl
      | cons a l ih =>
        intro hm
        have ha := hm a List.mem_cons_self
        have c := h.2 a ha.1 ha.2
        have e8 : ¬ B.2 8 ≤ atW B := by rw [h.1]; omega
        have eB : stLook B a = B := by unfold stLook; rw [if_neg c.1, if_neg e8, if_neg c.2.1, if_neg c.2.2]
        rw [List.foldl_cons]
        have : stLk (B, 8) a = (B, 8) := by
          unfold stLk
          show (stLook B a, if 8 = 8 ∧ (stLook B a).1 5 a = 1 then B.1 3 a else 8) = (B, 8)
          rw [eB, ha.2, if_neg (by decide)]
        rw [this]
        exact ih fun x hx => hm x (List.mem_cons_of_mem _ hx)
    exact go _ fun a ha => ord_mem ha
  rw [aTick_eq, l0, if_neg (by simp)]
