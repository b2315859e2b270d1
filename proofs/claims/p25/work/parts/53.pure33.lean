/-! PURE: the order in which those that wait are looked at -/
def psum (f : Nat → Nat) : Nat → Nat
  | 0 => 0
  | n + 1 => psum f n + f n
theorem psum_add {f g : Nat → Nat} : ∀ n, psum (fun r => f r + g r) n = psum f n + psum g n
  | 0 => rfl
  | n + 1 => by
    show psum (fun r => f r + g r) n + (f n + g n) = psum f n + f n + (psum g n + g n)
    rw [psum_add n]; omega
theorem psum_zero {f : Nat → Nat} : ∀ {n}, (∀ r, r < n → f r = 0) → psum f n = 0
  | 0, _ => rfl
  | n + 1, h => by
    show psum f n + f n = 0
    rw [psum_zero fun r hr => h r (by omega), h n (by omega)]
theorem psum_congr {f g : Nat → Nat} : ∀ {n}, (∀ r, r < n → f r = g r) → psum f n = psum g n
  | 0, _ => rfl
  | n + 1, h => by
    show psum f n + f n = psum g n + g n
    rw [psum_congr fun r hr => h r (by omega), h n (by omega)]
theorem psum_one {Q : Nat → Bool} : ∀ {n}, (∀ r s, r < n → s < n → Q r = true → Q s = true → r = s) → psum (fun r => if Q r = true then 1 else 0) n ≤ 1
  | 0, _ => Nat.zero_le _
  | n + 1, h => by
    show psum (fun r => if Q r = true then 1 else 0) n + (if Q n = true then 1 else 0) ≤ 1
    by_cases e : Q n = true
    · rw [psum_zero fun r hr => if_neg fun x => by have := h r n (by omega) (by omega) x e; omega, if_pos e]; omega
    · rw [if_neg e]
      exact psum_one fun r s hr hs => h r s (by omega) (by omega)
theorem flat_len {g : Nat → List Nat} : ∀ n, ((List.range n).flatMap g).length = psum (fun r => (g r).length) n
  | 0 => rfl
  | n + 1 => by
    rw [List.range_succ, List.flatMap_append, List.length_append, flat_len n]
    show _ = psum _ n + _
    simp
theorem flat_s {g : Nat → List Nat} (n : Nat) : (List.range (n + 1)).flatMap g = (List.range n).flatMap g ++ g n := by
  rw [List.range_succ, List.flatMap_append]
  simp
theorem flat_le {p : Nat → Bool} {q : Nat → Nat → Bool} {K : Nat} (h : ∀ a r s, r < K → s < K → q r a = true → q s a = true → r = s) : ∀ l : List Nat, psum (fun r => (l.filter fun a => p a && q r a).length) K ≤ (l.filter p).length
  | [] => Nat.le_of_eq (psum_zero fun r _ => rfl)
  | a :: l => by
    have ih := flat_le (p := p) h l
    have e : psum (fun r => ((a :: l).filter fun a => p a && q r a).length) K = psum (fun r => if (p a && q r a) = true then 1 else 0) K + psum (fun r => (l.filter fun a => p a && q r a).length) K := by
      rw [← psum_add]
      refine psum_congr fun r _ => ?_
      by_cases e : (p a && q r a) = true
      · rw [List.filter_cons_of_pos (p := fun a => p a && q r a) e, if_pos e, List.length_cons]; omega
      · rw [List.filter_cons_of_neg (p := fun a => p a && q r a) e, if_neg e]; omega
    rw [e]
    by_cases ep : p a = true
    · rw [List.filter_cons_of_pos ep, List.length_cons]
      have : psum (fun r => if (p a && q r a) = true then 1 else 0) K ≤ 1 := psum_one fun r s hr hs x y => h a r s hr hs (by simp at x; exact x.2) (by simp at y; exact y.2)
      omega
    · rw [List.filter_cons_of_neg ep, psum_zero fun r _ => if_neg (by simp [ep])]
      omega
def ordQ (A : NS) (r a : Nat) : Bool := decide (A.1 5 a = 0) && decide (A.2 9 = 0 ∨ A.1 3 a = (A.2 6 + r) % 8)
def rnds (A : NS) : Nat := if A.2 9 = 1 then 8 else 1
def aOrd (A : NS) : List Nat := (List.range (rnds A)).flatMap fun r => (List.range (A.2 0)).filter (ordQ A r)
theorem ord_len {A : NS} (I : Iv A) : ∀ K, K ≤ rnds A → ((List.range K).flatMap fun r => (List.range (A.2 0)).filter (ordQ A r)).length ≤ ((List.range (A.2 0)).filter fun a => decide (A.1 5 a = 0)).length := by
  intro K hK
  rw [flat_len]
  refine flat_le (p := fun a => decide (A.1 5 a = 0)) (q := fun r a => decide (A.2 9 = 0 ∨ A.1 3 a = (A.2 6 + r) % 8)) (fun a r s hr hs x y => ?_) _
  have h9 := I.n.2.1
  unfold rnds at hK
  split at hK
  · simp at x y; omega
  · omega
theorem ord_nodup {A : NS} (I : Iv A) : (aOrd A).Pairwise (fun a b => a ≠ b) := by
  unfold aOrd
  rw [List.pairwise_flatMap]
  refine ⟨fun r _ => List.Pairwise.imp (fun h => Nat.ne_of_lt h) (List.Pairwise.filter _ List.pairwise_lt_range), ?_⟩
  refine List.Pairwise.imp_of_mem (fun {r s} hr hs hlt x hx y hy e => ?_) List.pairwise_lt_range
  subst e
  have hx := (List.mem_filter.1 hx).2
  have hy := (List.mem_filter.1 hy).2
  have hr := List.mem_range.1 hr
  have hs := List.mem_range.1 hs
  have h9 := I.n.2.1
  unfold rnds at hr hs
  unfold ordQ at hx hy
  by_cases e : A.2 9 = 1
  · rw [if_pos e] at hr hs
    simp at hx hy; omega
  · rw [if_neg e] at hr hs
    omega
theorem ord_mem {A : NS} {a : Nat} (h : a ∈ aOrd A) : a < A.2 0 ∧ A.1 5 a = 0 := by
  unfold aOrd at h
  obtain ⟨r, _, h⟩ := List.mem_flatMap.1 h
  obtain ⟨h1, h2⟩ := List.mem_filter.1 h
  unfold ordQ at h2
  simp at h2
  exact ⟨List.mem_range.1 h1, h2.1⟩
/-- the entries of the class's order -/
def ENT (σ : SS) (O : List Nat) : Prop := ∀ j x, O[j]? = some x → σ.1 21 j = nI x
def But21 (σ τ : SS) : Prop := τ.2 = σ.2 ∧ ∀ j, j ≠ 21 → τ.1 j = σ.1 j
theorem But21.rc {σ τ : SS} {A : NS} (s : But21 σ τ) (h : RC σ A) : RC τ A := by
  obtain ⟨g1, g2, g3, g4, g5, g6, g7⟩ := h
  refine ⟨fun j j1 j2 => by rw [s.1]; exact g1 j j1 j2, fun j j1 j2 i hi => by rw [s.2 j (by omega)]; exact g2 j j1 j2 i hi, fun i hi hp => by rw [s.2 6 (by decide), s.2 7 (by decide), s.2 9 (by decide)]; exact g3 i hi hp, fun i hi => by rw [s.2 8 (by decide)]; exact g4 i hi, fun k hk => by rw [s.2 10 (by decide)]; exact g5 k hk, fun j j1 j2 i hi => by rw [s.2 j (by omega)]; exact g6 j j1 j2 i hi, fun j j1 j2 i hi => by rw [s.2 j (by omega)]; exact g7 j j1 j2 i hi⟩
theorem But21.lv {σ τ : SS} {n : Nat} {P : Nat → Bool} (s : But21 σ τ) (h : LV σ n P) : LV τ n P := h.same (by rw [s.1]) (s.2 11 (by decide))
theorem But21.trans {σ τ ρ : SS} (h : But21 σ τ) (g : But21 τ ρ) : But21 σ ρ := ⟨g.1.trans h.1, fun j hj => (g.2 j hj).trans (h.2 j hj)⟩
theorem w_ord1 {σ : SS} {A : NS} {P : Nat → Bool} (h : RC σ A) (I : Iv A) (lv : LV σ (A.2 0) P) {O : List Nat} (hO : ENT σ O) {r : Nat} (hr : r < 8) {s19 : SS} (h6 : s19.2 6 = nI (A.2 6)) (hlen : (O ++ (((List.range (A.2 0)).filter P).filter (ordQ A r))).length ≤ 33) {k : Int32 → SS → Option (Int32 × SS)} :
    ∃ τ, f_X3_putInOrder_L41 (nI r) s19 k FU (nI O.length) 0 σ = k (nI (O ++ (((List.range (A.2 0)).filter P).filter (ordQ A r))).length) τ ∧ ENT τ (O ++ (((List.range (A.2 0)).filter P).filter (ordQ A r))) ∧ But21 σ τ := by
  have hn := I.a.1
  have hl := lv.2.1
  have b := I.b
  obtain ⟨c, hR, e⟩ := loop_rel (B := Unit) ((List.range (A.2 0)).filter P) (fun m i (c : Int32 × SS) => f_X3_putInOrder_L41 (nI r) s19 k m c.1 i c.2) (fun c => k c.1 c.2) (fun _ b => b)
    (fun i _ c => c.1 = nI (O ++ ((((List.range (A.2 0)).filter P).take i).filter (ordQ A r))).length ∧ ENT c.2 (O ++ ((((List.range (A.2 0)).filter P).take i).filter (ordQ A r))) ∧ But21 σ c.2) (fun m _ c hR => by
      show f_X3_putInOrder_L41 (nI r) s19 k (m + 1) c.1 (nI _) c.2 = _
      rw [f_X3_putInOrder_L41, (hR.2.2.lv lv).len, if_pos (nI_le (Nat.le_refl _) (by omega))]) (fun m i _ c hi hR => by
      obtain ⟨cc, s⟩ := c
      obtain ⟨h1, h2, h3⟩ := hR
      have h1 : cc = nI (O ++ ((((List.range (A.2 0)).filter P).take i).filter (ordQ A r))).length := h1
      subst h1
      have h3 : But21 σ s := h3
      have rc := h3.rc h
      have lv' := h3.lv lv
      obtain ⟨hc, hp⟩ := live_lt hi
      have hsub : (((((List.range (A.2 0)).filter P).take (i + 1)).filter (ordQ A r))).length ≤ (((List.range (A.2 0)).filter P).filter (ordQ A r)).length := ((List.take_sublist _ _).filter _).length_le
      have hT : (((List.range (A.2 0)).filter P).take (i + 1)).filter (ordQ A r) = (((List.range (A.2 0)).filter P).take i).filter (ordQ A r) ++ (if ordQ A r (((List.range (A.2 0)).filter P)[i]) = true then [((List.range (A.2 0)).filter P)[i]] else []) := by
        rw [List.take_succ, List.filter_append, List.getElem?_eq_getElem hi]
        congr 1
        by_cases e : ordQ A r (((List.range (A.2 0)).filter P)[i]) = true
        · simp [e]
        · simp [e]
      show ∃ c' : Int32 × SS, _ ∧ f_X3_putInOrder_L41 (nI r) s19 k (m + 1) (nI _) (nI i) s = f_X3_putInOrder_L41 (nI r) s19 k m c'.1 (nI (i + 1)) c'.2
      rw [f_X3_putInOrder_L41, lv'.len, if_neg (nI_ge hi (by omega)), oA_at (show i < 33 by omega) (by decide), lv'.2.2 i hi]
      rw [hT] at hsub ⊢
      generalize ((List.range (A.2 0)).filter P)[i] = a at hc hp hsub
      generalize hX : O ++ ((((List.range (A.2 0)).filter P).take i).filter (ordQ A r)) = X at h2
      have hXl : X.length + (if ordQ A r a = true then [a] else []).length ≤ 33 := by
        rw [List.length_append] at hlen hsub
        rw [← hX, List.length_append]
        omega
      have ha : a < 201 := by omega
      have h6b := I.n.2.2.1
      have e6 : s19.2 6 + nI r - (s19.2 6 + nI r) / 8 * 8 = nI ((A.2 6 + r) % 8) := by
        rw [h6, nI_add]
        exact pk_rem (d := 8) (by omega) (by decide) (by decide)
      have g9 : (s.2 9 = 0) ↔ A.2 9 = 0 := by
        rw [rc.1 9 (by decide) (by decide)]
        exact nI_eq0 (b.2.2 9)
      have g5 : (nI (A.1 5 a) = 0) ↔ A.1 5 a = 0 := nI_eq0 (b.2.1 5 a)
      have q5 : s.1 5 a = nI (A.1 5 a) := rc.ap (by decide) (by decide) hc
      have q3 : s.1 3 a = nI (A.1 3 a) := rc.ap (by decide) (by decide) hc
      simp only [oJ_to, nI_1, oA_at ha (by decide : (201 : Nat) < 2 ^ 31), q5, q3, e6, if_eqN (b.2.1 3 a) (show (A.2 6 + r) % 8 < 2 ^ 31 by omega)]
      rw [← List.append_assoc, hX]
      have yes : ordQ A r a = true → ∃ c' : Int32 × SS, (c'.1 = nI (X ++ (if ordQ A r a = true then [a] else [])).length ∧ ENT c'.2 (X ++ (if ordQ A r a = true then [a] else [])) ∧ But21 σ c'.2) ∧ (if nI (A.1 5 a) = 0 then if 33 ≤ nI X.length then f_X3_putInOrder_L41 (nI r) s19 k m (nI X.length) (nI (i + 1)) s else oS 33 (s.1 21) (nI X.length) (nI a) (sA s 21) fun s125 => f_X3_putInOrder_L41 (nI r) s19 k m (nI (X.length + 1)) (nI (i + 1)) s125 else f_X3_putInOrder_L41 (nI r) s19 k m (nI X.length) (nI (i + 1)) s) = f_X3_putInOrder_L41 (nI r) s19 k m c'.1 (nI (i + 1)) c'.2 := by
        intro hq
        have hq5 : A.1 5 a = 0 := by unfold ordQ at hq; simp at hq; exact hq.1
        rw [if_pos hq] at hXl ⊢
        have hXl : X.length < 33 := by simp at hXl; omega
        rw [if_pos (g5.2 hq5), if_neg (show ¬ (33 : Int32) ≤ nI X.length from nI_ge hXl (by decide)), oS_at hXl (by decide)]
        refine ⟨(nI (X.length + 1), sA s 21 (upd (s.1 21) X.length (nI a))), ⟨by rw [List.length_append]; rfl, fun j x hx => ?_, h3.trans ⟨rfl, fun j hj => sA_ne hj⟩⟩, rfl⟩
        rw [sA_eq]
        by_cases ej : j = X.length
        · subst ej
          rw [List.getElem?_append_right (Nat.le_refl _), Nat.sub_self] at hx
          simp at hx
          rw [upd_eq, hx]
        · rw [upd_ne ej]
          by_cases ej2 : j < X.length
          · rw [List.getElem?_append_left ej2] at hx
            exact h2 j x hx
          · rw [List.getElem?_append_right (by omega), List.getElem?_eq_none (by simp; omega)] at hx
            cases hx
      have no : ¬ ordQ A r a = true → ∃ c' : Int32 × SS, (c'.1 = nI (X ++ (if ordQ A r a = true then [a] else [])).length ∧ ENT c'.2 (X ++ (if ordQ A r a = true then [a] else [])) ∧ But21 σ c'.2) ∧ f_X3_putInOrder_L41 (nI r) s19 k m (nI X.length) (nI (i + 1)) s = f_X3_putInOrder_L41 (nI r) s19 k m c'.1 (nI (i + 1)) c'.2 := by
        intro hq
        rw [if_neg hq, List.append_nil]
        exact ⟨(_, _), ⟨rfl, h2, h3⟩, rfl⟩
      have both : (A.2 9 = 0 ∨ A.1 3 a = (A.2 6 + r) % 8) → ∃ c' : Int32 × SS, (c'.1 = nI (X ++ (if ordQ A r a = true then [a] else [])).length ∧ ENT c'.2 (X ++ (if ordQ A r a = true then [a] else [])) ∧ But21 σ c'.2) ∧ (if nI (A.1 5 a) = 0 then if 33 ≤ nI X.length then f_X3_putInOrder_L41 (nI r) s19 k m (nI X.length) (nI (i + 1)) s else oS 33 (s.1 21) (nI X.length) (nI a) (sA s 21) fun s125 => f_X3_putInOrder_L41 (nI r) s19 k m (nI (X.length + 1)) (nI (i + 1)) s125 else f_X3_putInOrder_L41 (nI r) s19 k m (nI X.length) (nI (i + 1)) s) = f_X3_putInOrder_L41 (nI r) s19 k m c'.1 (nI (i + 1)) c'.2 := by
        intro hz
        by_cases hq : ordQ A r a = true
        · exact yes hq
        · have hq5 : ¬ A.1 5 a = 0 := fun x => hq (by unfold ordQ; simp only [x, hz]; rfl)
          rw [if_neg (fun x => hq5 (g5.1 x))]
          exact no hq
      by_cases e9 : A.2 9 = 0
      · rw [if_pos (g9.2 e9), if_neg (show ¬ (1 : Int32) = 0 by decide)]
        exact both (Or.inl e9)
      · rw [if_neg (fun x => e9 (g9.1 x))]
        by_cases ez : A.1 3 a = (A.2 6 + r) % 8
        · rw [if_pos ez, if_neg (show ¬ (1 : Int32) = 0 by decide)]
          exact both (Or.inr ez)
        · rw [if_neg ez, if_pos trivial]
          exact no (fun x => by unfold ordQ at x; simp at x; omega)) (nI O.length, σ) () FU ⟨by simp, by simpa using hO, rfl, fun _ _ => rfl⟩ (by show _ < 20000; omega)
  rw [List.take_length] at hR
  refine ⟨c.2, ?_, hR.2.1, hR.2.2⟩
  rw [← hR.1]
  exact e
