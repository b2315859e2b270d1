/-! PURE: a tick of the class -/
theorem w_putInOrder {σ : SS} {A : NS} {P : Nat → Bool} (h : RC σ A) (I : Iv A) (lv : LV σ (A.2 0) P) (hP : ∀ c, c < A.2 0 → A.1 5 c = 0 → P c = true) :
    ∃ τ, f_X3_putInOrder σ = some (nI (aOrd A).length, τ) ∧ ENT τ (aOrd A) ∧ But21 σ τ ∧ (aOrd A).length ≤ 33 := by
  have hn := I.a.1
  have b := I.b
  have hl := lv.2.1
  have hf : ∀ r, ((List.range (A.2 0)).filter P).filter (ordQ A r) = (List.range (A.2 0)).filter (ordQ A r) := fun r => by
    rw [List.filter_filter]
    refine List.filter_congr fun a ha => ?_
    have ha := List.mem_range.1 ha
    by_cases e : A.1 5 a = 0
    · rw [hP a ha e, Bool.and_true]
    · have : ordQ A r a = false := by unfold ordQ; simp [e]
      rw [this, Bool.false_and]
  have h0 : ((List.range (A.2 0)).filter fun a => decide (A.1 5 a = 0)).length ≤ ((List.range (A.2 0)).filter P).length := by
    have e : (List.range (A.2 0)).filter (fun a => decide (A.1 5 a = 0)) = ((List.range (A.2 0)).filter P).filter (fun a => decide (A.1 5 a = 0)) := by
      rw [List.filter_filter]
      refine List.filter_congr fun a ha => ?_
      have ha := List.mem_range.1 ha
      by_cases e : A.1 5 a = 0
      · rw [hP a ha e, Bool.and_true]
      · simp [e]
    rw [e]
    exact List.length_filter_le _ _
  have hlen : ∀ K, K ≤ rnds A → ((List.range K).flatMap fun r => (List.range (A.2 0)).filter (ordQ A r)).length ≤ 33 := fun K hK => by
    have := ord_len I K hK
    omega
  have hr8 : rnds A ≤ 8 := by unfold rnds; split <;> omega
  have key : ∃ τ, f_X3_putInOrder_L19 (nI (rnds A)) (fun w2_141 sx141 => some (w2_141, sx141)) FU (nI 0) (nI 0) σ = some (nI (aOrd A).length, τ) ∧ ENT τ (aOrd A) ∧ But21 σ τ := by
    obtain ⟨c, hR, e⟩ := loop_to (B := Unit) (rnds A) (fun m i (c : Int32 × SS) => f_X3_putInOrder_L19 (nI (rnds A)) (fun w2_141 sx141 => some (w2_141, sx141)) m c.1 i c.2) (fun c => some (c.1, c.2)) (fun _ b => b)
      (fun i _ c => c.1 = nI ((List.range i).flatMap fun r => (List.range (A.2 0)).filter (ordQ A r)).length ∧ ENT c.2 ((List.range i).flatMap fun r => (List.range (A.2 0)).filter (ordQ A r)) ∧ But21 σ c.2) (fun m _ c hR => by
        show f_X3_putInOrder_L19 (nI (rnds A)) _ (m + 1) c.1 (nI (rnds A)) c.2 = _
        rw [f_X3_putInOrder_L19, if_pos (nI_le (Nat.le_refl _) (by omega))]) (fun m i _ c hi hR => by
        obtain ⟨cc, s⟩ := c
        obtain ⟨h1, h2, h3⟩ := hR
        have h1 : cc = nI ((List.range i).flatMap fun r => (List.range (A.2 0)).filter (ordQ A r)).length := h1
        subst h1
        have h3 : But21 σ s := h3
        have rc := h3.rc h
        have hL := hlen (i + 1) hi
        rw [flat_s, ← hf] at hL
        obtain ⟨τ, f1, f2, f3⟩ := w_ord1 rc I (h3.lv lv) h2 (r := i) (by omega) (s19 := s) (rc.1 6 (by decide) (by decide)) hL (k := fun w2_135 sx135 => f_X3_putInOrder_L19 (nI (rnds A)) (fun w2_141 sx141 => some (w2_141, sx141)) m w2_135 (nI i + 1) sx135)
        show ∃ c' : Int32 × SS, _ ∧ f_X3_putInOrder_L19 (nI (rnds A)) _ (m + 1) (nI _) (nI i) s = f_X3_putInOrder_L19 (nI (rnds A)) _ m c'.1 (nI (i + 1)) c'.2
        rw [f_X3_putInOrder_L19, if_neg (nI_ge hi (by omega)), f1, flat_s, ← hf, nI_1]
        exact ⟨(_, τ), ⟨rfl, f2, h3.trans f3⟩, rfl⟩) (nI 0, σ) () FU ⟨rfl, fun j x hx => by simp at hx, rfl, fun _ _ => rfl⟩ (by show _ < 20000; omega)
    refine ⟨c.2, ?_, hR.2.1, hR.2.2⟩
    rw [show (aOrd A) = (List.range (rnds A)).flatMap fun r => (List.range (A.2 0)).filter (ordQ A r) from rfl, ← hR.1]
    exact e
  obtain ⟨τ, f1, f2, f3⟩ := key
  refine ⟨τ, ?_, f2, f3, hlen (rnds A) (Nat.le_refl _)⟩
  have g9 : (σ.2 9 = 1) ↔ A.2 9 = 1 := by
    rw [h.1 9 (by decide) (by decide)]
    exact nI_eq (b := 1) (b.2.2 9) (by decide)
  unfold f_X3_putInOrder
  rw [oJ_to]
  unfold rnds at f1
  by_cases e : A.2 9 = 1
  · rw [if_pos e] at f1
    rw [if_pos (g9.2 e)]
    exact f1
  · rw [if_neg e] at f1
    rw [if_neg (fun x => e (g9.1 x))]
    exact f1
/-- looking at one, with the zone of the first that began -/
def stLk (x : NS × Nat) (a : Nat) : NS × Nat := (stLook x.1 a, if x.2 = 8 ∧ (stLook x.1 a).1 5 a = 1 then x.1.1 3 a else x.2)
def aTick (A : NS) : NS := setN (if A.2 9 = 1 ∧ ((aOrd (aTellDue A)).foldl stLk (aTellDue A, 8)).2 ≠ 8 then setN ((aOrd (aTellDue A)).foldl stLk (aTellDue A, 8)).1 6 ((((aOrd (aTellDue A)).foldl stLk (aTellDue A, 8)).2 + 1) % 8) else ((aOrd (aTellDue A)).foldl stLk (aTellDue A, 8)).1) 10 (A.2 10 + 1)
theorem look_5 {A : NS} {a i : Nat} (h : i ≠ a) : (stLook A a).1 5 i = A.1 5 i := by
  unfold stLook
  split
  · rw [aFail_5, if_neg h]
  · split
    · rfl
    · split
      · rw [aGo_5, if_neg h]
      · split
        · rw [aGo_5, if_neg h, aOpen_1 (by decide)]
        · rfl
theorem look_5a {A : NS} {a : Nat} : (stLook A a).1 5 a = 3 ∨ (stLook A a).1 5 a = 1 ∨ stLook A a = A := by
  unfold stLook
  split
  · rw [aFail_5, if_pos rfl]; exact Or.inl rfl
  · split
    · exact Or.inr (Or.inr rfl)
    · split
      · rw [aGo_5, if_pos rfl]; exact Or.inr (Or.inl rfl)
      · split
        · rw [aGo_5, if_pos rfl]; exact Or.inr (Or.inl rfl)
        · exact Or.inr (Or.inr rfl)
def liveP (A : NS) (a : Nat) : Bool := decide (A.1 5 a = 0 ∨ A.1 5 a = 1)
theorem LV_congr {σ : SS} {n : Nat} {P Q : Nat → Bool} (h : LV σ n P) (e : ∀ a, a < n → P a = Q a) : LV σ n Q := by
  unfold LV at h ⊢
  rw [← List.filter_congr fun a ha => e a (List.mem_range.1 ha)]
  exact h
theorem Iv_tellDue {A : NS} (I : Iv A) : Iv (aTellDue A) ∧ Le A (aTellDue A) := by
  have go : ∀ (l : List Nat) (B : NS), Iv B → Le A B → (∀ a, a ∈ l → a < A.2 0) → Iv (l.foldl stTell B) ∧ Le A (l.foldl stTell B) := by
    intro l
    induction l with
    | nil => intro B hI hL _; exact ⟨hI, hL⟩
    | cons a l ih =>
      intro B hI hL hm
      have ha := hm a (List.mem_cons_self ..)
      rw [List.foldl_cons]
      refine ih _ ?_ ?_ fun x hx => hm x (List.mem_cons_of_mem _ hx)
      · unfold stTell
        split
        · rename_i e; exact Iv_tell hI (by rw [hL.n0]; exact ha) e.1
        · exact hI
      · unfold stTell
        split
        · rename_i e; exact hL.trans (Le_tell e.1)
        · exact hL
  exact go _ A I Le.refl fun a ha => List.mem_range.1 ha
theorem fold_lk : ∀ (O : List Nat) (A B : NS) (f : Nat), Iv B → Le A B → A.2 10 < 2 ^ 30 → O.Pairwise (fun a b => a ≠ b) → (∀ a, a ∈ O → a < A.2 0 ∧ B.1 5 a = 0) → f ≤ 8 →
    Iv (O.foldl stLk (B, f)).1 ∧ Le A (O.foldl stLk (B, f)).1 ∧ (O.foldl stLk (B, f)).2 ≤ 8 ∧ ∀ b, b ∉ O → (O.foldl stLk (B, f)).1.1 5 b = B.1 5 b
  | [], A, B, f, hI, hL, _, _, _, hf => ⟨hI, hL, hf, fun _ _ => rfl⟩
  | a :: O, A, B, f, hI, hL, ht, hp, hm, hf => by
    have ha := hm a (List.mem_cons_self ..)
    have haB : a < B.2 0 := by rw [hL.n0]; exact ha.1
    have htB : B.2 10 < 2 ^ 30 := by rw [hL.1 10 (by decide) (by decide) (by decide)]; exact ht
    have L := Iv_look hI haB ha.2 htB
    have hz := (hI.a.2 a haB).2.1
    obtain ⟨p1, p2⟩ := List.pairwise_cons.1 hp
    rw [List.foldl_cons]
    have ih := fold_lk O A (stLook B a) (if f = 8 ∧ (stLook B a).1 5 a = 1 then B.1 3 a else f) L.1 (hL.trans L.2) ht p2 (fun x hx => ⟨(hm x (List.mem_cons_of_mem _ hx)).1, by rw [look_5 (fun e => p1 x hx e.symm)]; exact (hm x (List.mem_cons_of_mem _ hx)).2⟩) (by split <;> omega)
    refine ⟨ih.1, ih.2.1, ih.2.2.1, fun b hb => ?_⟩
    have hba : b ≠ a := fun e => hb (by rw [e]; exact List.mem_cons_self)
    exact (ih.2.2.2 b (fun x => hb (List.mem_cons_of_mem _ x))).trans (look_5 hba)
theorem enc_neg {f : Nat} (h : f ≤ 8) : ((if f = 8 then (-1 : Int32) else nI f) = -1) ↔ f = 8 := by
  by_cases e : f = 8
  · simp [e]
  · rw [if_neg e]
    refine ⟨fun x => ?_, fun x => absurd x e⟩
    have := nI_pos (n := f) (by omega)
    rw [x] at this
    exact absurd (by decide) this
theorem w_looksC {σ : SS} {B : NS} {P : Nat → Bool} {O : List Nat} (h : RC σ B) (I : Iv B) (lv : LV σ (B.2 0) P) (hP : ∀ c, c < B.2 0 → B.1 5 c = 0 ∨ B.1 5 c = 1 → P c = true) (ht : B.2 10 < 2 ^ 30)
    (hE : ENT σ O) (hO : O.length ≤ 33) (hp : O.Pairwise (fun a b => a ≠ b)) (hm : ∀ a, a ∈ O → a < B.2 0 ∧ B.1 5 a = 0) {k : Int32 → SS → Option SS} :
    ∃ τ, f_X3_letOnePass_L13 (nI O.length) k FU (-1) 0 σ = k (if (O.foldl stLk (B, 8)).2 = 8 then -1 else nI (O.foldl stLk (B, 8)).2) τ ∧ RC τ (O.foldl stLk (B, 8)).1 ∧ LV τ (B.2 0) P := by
  obtain ⟨c, hR, e⟩ := loop_rel (B := NS × Nat) O (fun m i (c : Int32 × SS) => f_X3_letOnePass_L13 (nI O.length) k m c.1 i c.2) (fun c => k c.1 c.2) (fun a x => stLk x a)
    (fun i x c => c.1 = (if x.2 = 8 then -1 else nI x.2) ∧ RC c.2 x.1 ∧ Iv x.1 ∧ LV c.2 (B.2 0) P ∧ Le B x.1 ∧ ENT c.2 O ∧ x.2 ≤ 8 ∧ ∀ j (hj : j < O.length), i ≤ j → x.1.1 5 O[j] = 0) (fun m x c hR => by
      show f_X3_letOnePass_L13 (nI O.length) k (m + 1) c.1 (nI O.length) c.2 = _
      rw [f_X3_letOnePass_L13, if_pos (nI_le (Nat.le_refl _) (by omega))]) (fun m i x c hi hR => by
      obtain ⟨cc, s⟩ := c
      obtain ⟨X, f⟩ := x
      obtain ⟨h1, h2, h3, h4, h5, h6, h7, h8⟩ := hR
      have h1 : cc = (if f = 8 then -1 else nI f) := h1
      subst h1
      have h2 : RC s X := h2
      have h3 : Iv X := h3
      have h4 : LV s (B.2 0) P := h4
      have h5 : Le B X := h5
      have h7 : f ≤ 8 := h7
      have e21 : s.1 21 i = nI O[i] := h6 i _ (List.getElem?_eq_getElem hi)
      have hp0 : X.1 5 O[i] = 0 := h8 i hi (Nat.le_refl _)
      have hmi := hm O[i] (List.getElem_mem hi)
      have hd : ∀ j (hj : j < O.length), i < j → O[j] ≠ O[i] := fun j hj hij => fun x => List.pairwise_iff_getElem.1 hp i j hi hj hij x.symm
      have haX : O[i] < X.2 0 := by rw [h5.n0]; exact hmi.1
      have hPX : ∀ c, c < X.2 0 → X.1 5 c = 1 → P c = true := fun c hc hx => by
        have hc' : c < B.2 0 := by rw [← h5.n0]; exact hc
        have := (h5.2.2 c hc').2.1 (by omega)
        exact hP c hc' (by omega)
      have htX : X.2 10 < 2 ^ 30 := by rw [h5.1 10 (by decide) (by decide) (by decide)]; exact ht
      obtain ⟨τ, f1, f2, f3⟩ := w_hasBegun h2 h3 (by rw [h5.n0]; exact h4) hPX haX hp0
      have L := Iv_look h3 haX hp0 htX
      have hz := (h3.a.2 _ haX).2.1
      have hn := h3.a.1
      have tE : ENT τ O := fun j y hy => by rw [f3.2.2]; exact h6 j y hy
      show ∃ c' : Int32 × SS, _ ∧ f_X3_letOnePass_L13 (nI O.length) k (m + 1) _ (nI i) s = f_X3_letOnePass_L13 (nI O.length) k m c'.1 (nI (i + 1)) c'.2
      rw [f_X3_letOnePass_L13, if_neg (nI_ge hi (by omega)), oA_at (show i < 33 by omega) (by decide), e21, f1, oW_some]
      simp only [oJ_to, nI_1]
      have rest : RC τ (stLook X O[i]) ∧ Iv (stLook X O[i]) ∧ LV τ (B.2 0) P ∧ Le B (stLook X O[i]) ∧ ENT τ O := ⟨f2, L.1, h4.same f3.1 f3.2.1, h5.trans L.2, tE⟩
      have rest2 : ∀ j (hj : j < O.length), i + 1 ≤ j → (stLook X O[i]).1 5 O[j] = 0 := fun j hj hij => by rw [look_5 (hd j hj hij)]; exact h8 j hj (by omega)
      have e3 : (stLook X O[i]).1 3 = X.1 3 := L.2.2.1 3 (by decide)
      have q3 : τ.1 3 O[i] = nI (X.1 3 O[i]) := by
        rw [f2.ap (m := 3) (by decide) (by decide) (by rw [L.2.n0]; exact haX), e3]
      by_cases eb : (stLook X O[i]).1 5 O[i] = 1
      · rw [if_pos eb, if_neg (show ¬ (1 : Int32) = 0 by decide)]
        by_cases e8 : f = 8
        · rw [if_pos ((enc_neg h7).2 e8), oA_at (show i < 33 by omega) (by decide), f3.2.2, e21, oA_at (show O[i] < 201 by omega) (by decide), q3]
          refine ⟨(nI (X.1 3 O[i]), τ), ⟨?_, rest.1, rest.2.1, rest.2.2.1, rest.2.2.2.1, rest.2.2.2.2, ?_, rest2⟩, rfl⟩
          · show nI (X.1 3 O[i]) = if (if f = 8 ∧ (stLook X O[i]).1 5 O[i] = 1 then X.1 3 O[i] else f) = 8 then -1 else nI (if f = 8 ∧ (stLook X O[i]).1 5 O[i] = 1 then X.1 3 O[i] else f)
            rw [show (if f = 8 ∧ (stLook X O[i]).1 5 O[i] = 1 then X.1 3 O[i] else f) = X.1 3 O[i] from if_pos ⟨e8, eb⟩, if_neg (by omega)]
          · show (if f = 8 ∧ (stLook X O[i]).1 5 O[i] = 1 then X.1 3 O[i] else f) ≤ 8
            rw [show (if f = 8 ∧ (stLook X O[i]).1 5 O[i] = 1 then X.1 3 O[i] else f) = X.1 3 O[i] from if_pos ⟨e8, eb⟩]; omega
        · rw [if_neg (fun x => e8 ((enc_neg h7).1 x))]
          refine ⟨(if f = 8 then -1 else nI f, τ), ⟨?_, rest.1, rest.2.1, rest.2.2.1, rest.2.2.2.1, rest.2.2.2.2, ?_, rest2⟩, rfl⟩
          · show (if f = 8 then -1 else nI f) = if (if f = 8 ∧ (stLook X O[i]).1 5 O[i] = 1 then X.1 3 O[i] else f) = 8 then -1 else nI (if f = 8 ∧ (stLook X O[i]).1 5 O[i] = 1 then X.1 3 O[i] else f)
            rw [show (if f = 8 ∧ (stLook X O[i]).1 5 O[i] = 1 then X.1 3 O[i] else f) = f from if_neg (fun x => e8 x.1)]
          · show (if f = 8 ∧ (stLook X O[i]).1 5 O[i] = 1 then X.1 3 O[i] else f) ≤ 8
            rw [show (if f = 8 ∧ (stLook X O[i]).1 5 O[i] = 1 then X.1 3 O[i] else f) = f from if_neg (fun x => e8 x.1)]; exact h7
      · rw [if_neg eb, if_pos (show (0 : Int32) = 0 from rfl)]
        refine ⟨(if f = 8 then -1 else nI f, τ), ⟨?_, rest.1, rest.2.1, rest.2.2.1, rest.2.2.2.1, rest.2.2.2.2, ?_, rest2⟩, rfl⟩
        · show (if f = 8 then -1 else nI f) = if (if f = 8 ∧ (stLook X O[i]).1 5 O[i] = 1 then X.1 3 O[i] else f) = 8 then -1 else nI (if f = 8 ∧ (stLook X O[i]).1 5 O[i] = 1 then X.1 3 O[i] else f)
          rw [show (if f = 8 ∧ (stLook X O[i]).1 5 O[i] = 1 then X.1 3 O[i] else f) = f from if_neg (fun x => eb x.2)]
        · show (if f = 8 ∧ (stLook X O[i]).1 5 O[i] = 1 then X.1 3 O[i] else f) ≤ 8
          rw [show (if f = 8 ∧ (stLook X O[i]).1 5 O[i] = 1 then X.1 3 O[i] else f) = f from if_neg (fun x => eb x.2)]; exact h7) (-1, σ) (B, 8) FU ⟨rfl, h, I, lv, Le.refl, hE, Nat.le_refl _, fun j hj _ => (hm _ (List.getElem_mem hj)).2⟩ (by show _ < 20000; omega)
  refine ⟨c.2, ?_, hR.2.1, hR.2.2.2.1⟩
  have hR1 : c.1 = (if (O.foldl stLk (B, 8)).2 = 8 then -1 else nI (O.foldl stLk (B, 8)).2) := hR.1
  rw [← hR1]
  exact e
