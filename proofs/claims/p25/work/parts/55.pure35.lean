/-! PURE: a whole tick of the class -/
theorem Iv_num {A : NS} (I : Iv A) {k v : Nat} (h0 : k ≠ 0) (h1 : k ≠ 1) (h3 : k ≠ 3) (h7 : k ≠ 7) (hN : ivN (setN A k v)) (hv : v < 2 ^ 31) : Iv (setN A k v) := by
  have e0 : (setN A k v).2 0 = A.2 0 := setN_ne (Ne.symm h0)
  have e1 : (setN A k v).2 1 = A.2 1 := setN_ne (Ne.symm h1)
  have e3 : (setN A k v).2 3 = A.2 3 := setN_ne (Ne.symm h3)
  have e7 : (setN A k v).2 7 = A.2 7 := setN_ne (Ne.symm h7)
  refine ⟨⟨by rw [e0]; exact I.a.1, fun a ha => I.a.2 a (by rw [e0] at ha; exact ha)⟩, ivH_congr I.h e0 (fun _ _ => Iff.rfl) (fun _ _ => id) rfl rfl rfl rfl rfl, ivZ_congr I.z e3 (fun _ _ _ => rfl), ⟨by rw [e3, e0]; exact I.e.1, by rw [e7, e3]; exact I.e.2⟩, hN,
    ⟨by rw [e1, e0]; exact I.t.1, fun w => by rw [e1]; exact I.t.2.1 w, fun a ha => I.t.2.2 a (by rw [e0] at ha; exact ha)⟩, Bd_setN I.b h0 hv⟩
theorem Iv_turn {A : NS} (I : Iv A) {v : Nat} (hv : v < 8) : Iv (setN A 6 v) := by
  refine Iv_num I (by decide) (by decide) (by decide) (by decide) ?_ (by omega)
  have := I.n
  unfold ivN at this ⊢
  rw [setN_ne (by decide), setN_ne (by decide), setN_eq, setN_ne (by decide), setN_ne (by decide)]
  exact ⟨this.1, this.2.1, hv, this.2.2.2⟩
theorem Iv_time {A : NS} (I : Iv A) {v : Nat} (hv : v < 2 ^ 31) : Iv (setN A 10 v) := by
  refine Iv_num I (by decide) (by decide) (by decide) (by decide) ?_ hv
  have := I.n
  unfold ivN at this ⊢
  rw [setN_ne (by decide), setN_ne (by decide), setN_ne (by decide), setN_ne (by decide), setN_ne (by decide)]
  exact this
def LeT (A B : NS) : Prop := (∀ k, k = 0 ∨ k = 4 ∨ k = 5 ∨ k = 8 ∨ k = 9 → B.2 k = A.2 k) ∧ (∀ m, m = 2 ∨ m = 3 ∨ m = 4 ∨ m = 14 ∨ m = 15 ∨ m = 17 ∨ m = 19 → B.1 m = A.1 m) ∧
  ∀ a, a < A.2 0 → (B.1 5 a = 0 → A.1 5 a = 0) ∧ (B.1 5 a ≤ 1 → A.1 5 a ≤ 1) ∧ (2 ≤ A.1 5 a → B.1 5 a = A.1 5 a)
theorem LeT.refl {A : NS} : LeT A A := ⟨fun _ _ => rfl, fun _ _ => rfl, fun _ _ => ⟨id, id, fun _ => rfl⟩⟩
theorem LeT.n0 {A B : NS} (h : LeT A B) : B.2 0 = A.2 0 := h.1 0 (by decide)
theorem LeT.trans {A B C : NS} (h : LeT A B) (g : LeT B C) : LeT A C := by
  refine ⟨fun k hk => (g.1 k hk).trans (h.1 k hk), fun m hm => (g.2.1 m hm).trans (h.2.1 m hm), fun a ha => ?_⟩
  have h1 := h.2.2 a ha
  have g1 := g.2.2 a (by rw [h.n0]; exact ha)
  refine ⟨fun x => h1.1 (g1.1 x), fun x => h1.2.1 (g1.2.1 x), fun x => ?_⟩
  rw [g1.2.2 (by rw [h1.2.2 x]; exact x), h1.2.2 x]
theorem Le.t {A B : NS} (h : Le A B) : LeT A B := ⟨fun k hk => h.1 k (by omega) (by omega) (by omega), h.2.1, h.2.2⟩
theorem LeT.num {A B : NS} (h : LeT A B) {k v : Nat} (hk : k = 6 ∨ k = 10) : LeT A (setN B k v) := ⟨fun j hj => by rw [setN_ne (by omega)]; exact h.1 j hj, h.2.1, h.2.2⟩
/-- the state after the looks -/
def aLooks (A : NS) : NS × Nat := (aOrd (aTellDue A)).foldl stLk (aTellDue A, 8)
theorem aTick_eq {A : NS} : aTick A = setN (if A.2 9 = 1 ∧ (aLooks A).2 ≠ 8 then setN (aLooks A).1 6 (((aLooks A).2 + 1) % 8) else (aLooks A).1) 10 (A.2 10 + 1) := rfl
theorem Iv_looks {A : NS} (I : Iv A) (ht : A.2 10 < 2 ^ 29) : Iv (aLooks A).1 ∧ Le A (aLooks A).1 ∧ (aLooks A).2 ≤ 8 := by
  obtain ⟨I1, L1⟩ := Iv_tellDue I
  have t1 : (aTellDue A).2 10 = A.2 10 := L1.1 10 (by decide) (by decide) (by decide)
  have F := fold_lk (aOrd (aTellDue A)) (aTellDue A) (aTellDue A) 8 I1 Le.refl (by omega) (ord_nodup I1) (fun a ha => ord_mem ha) (Nat.le_refl _)
  exact ⟨F.1, L1.trans F.2.1, F.2.2.1⟩
theorem Iv_tick {A : NS} (I : Iv A) (ht : A.2 10 < 2 ^ 29) : Iv (aTick A) ∧ LeT A (aTick A) := by
  obtain ⟨F1, F2, F3⟩ := Iv_looks I ht
  rw [aTick_eq]
  split
  · exact ⟨Iv_time (Iv_turn F1 (by omega)) (by omega), (F2.t.num (Or.inl rfl)).num (Or.inr rfl)⟩
  · exact ⟨Iv_time F1 (by omega), F2.t.num (Or.inr rfl)⟩
theorem aTick_10 {A : NS} : (aTick A).2 10 = A.2 10 + 1 := setN_eq
theorem w_tickC {σ : SS} {A : NS} (h : RC σ A) (I : Iv A) (lv : LV σ (A.2 0) (liveP A)) (ht : A.2 10 < 2 ^ 29) :
    ∃ τ, f_X3_letOnePass σ = some τ ∧ RC τ (aTick A) ∧ LV τ ((aTick A).2 0) (liveP (aTick A)) := by
  have b := I.b
  have hPA : ∀ c, c < A.2 0 → A.1 5 c = 0 ∨ A.1 5 c = 1 → liveP A c = true := fun c _ hx => decide_eq_true hx
  obtain ⟨σ1, f1, r1, I1, lv1, L1⟩ := w_tellDue h I lv hPA
  have n1 := L1.n0
  have t1 : (aTellDue A).2 10 = A.2 10 := L1.1 10 (by decide) (by decide) (by decide)
  have lv1' : LV σ1 ((aTellDue A).2 0) (liveP A) := by rw [n1]; exact lv1
  have hP1 : ∀ c, c < (aTellDue A).2 0 → (aTellDue A).1 5 c = 0 ∨ (aTellDue A).1 5 c = 1 → liveP A c = true := fun c hc hx => by
    have := (L1.2.2 c (by rw [← n1]; exact hc)).2.1 (by omega)
    exact decide_eq_true (by omega)
  obtain ⟨σ2, g1, g2, g3, g4⟩ := w_putInOrder r1 I1 lv1' (fun c hc hx => hP1 c hc (Or.inl hx))
  have lv2 := g3.lv lv1'
  obtain ⟨F1, F2, F3⟩ := Iv_looks I ht
  obtain ⟨σ3, k1, k2, k3⟩ := w_looksC (g3.rc r1) I1 lv2 hP1 (by omega) g2 g4 (ord_nodup I1) (fun a ha => ord_mem ha) (k := fun w2_57 sx57 => oJ (κ := SS → Option (SS)) (fun s_83 => oV (f_X0_dropEnded s_83) (fun t => t) (fun s87 => oN ((s87.2 10) + 1) (sN s87 10) (fun s97 => some s97))) (fun k83 => if (sx57.2 9) = 1 then (if w2_57 = (-1) then (k83 sx57) else (oN ((w2_57 + 1) - (w2_57 + 1) / 8 * 8) (sN sx57 6) (fun s80 => k83 s80))) else (k83 sx57)))
  have k2 : RC σ3 (aLooks A).1 := k2
  have nF := F2.n0
  have n9 : (aLooks A).1.2 9 = A.2 9 := F2.1 9 (by decide) (by decide) (by decide)
  have n10 : (aLooks A).1.2 10 = A.2 10 := F2.1 10 (by decide) (by decide) (by decide)
  have g9 : (σ3.2 9 = 1) ↔ A.2 9 = 1 := by
    rw [k2.1 9 (by decide) (by decide), n9]
    exact nI_eq (b := 1) (b.2.2 9) (by decide)
  have fin : ∀ (ρ : SS) (B : NS), RC ρ B → Iv B → LV ρ (B.2 0) (liveP A) → B.2 0 = A.2 0 → B.2 10 = A.2 10 → B.1 5 = (aLooks A).1.1 5 → ∃ τ, oV (f_X0_dropEnded ρ) (fun t => t) (fun s87 => oN ((s87.2 10) + 1) (sN s87 10) (fun s97 => some s97)) = some τ ∧ RC τ (setN B 10 (A.2 10 + 1)) ∧ LV τ (B.2 0) (liveP B) := by
    intro ρ B hr hI hl h0 h10 h5
    obtain ⟨τ, d1, d2, d3⟩ := w_dropEnded hr hI.b hl
    have rc := d2.rc hr
    rw [d1, oV_some, oN_to, rc.1 10 (by decide) (by decide), h10, nI_1]
    refine ⟨_, rfl, RC_num rc (by decide) (by decide), LV_congr (LV.same d3 (sN_ne (by decide)) rfl) fun a ha => ?_⟩
    unfold liveP
    by_cases e : B.1 5 a = 0 ∨ B.1 5 a = 1
    · have := (F2.2.2 a (by rw [← h0]; exact ha)).2.1 (by rw [← h5]; omega)
      have e2 : A.1 5 a = 0 ∨ A.1 5 a = 1 := by omega
      rw [decide_eq_true e, decide_eq_true e2]; rfl
    · rw [decide_eq_false e, Bool.false_and]
  unfold f_X3_letOnePass
  rw [f1, oV_some, g1, oW_some, k1, oJ_to, aTick_eq]
  have lv3 : LV σ3 ((aLooks A).1.2 0) (liveP A) := by rw [nF, ← n1]; exact k3
  have hy : (List.foldl stLk (aTellDue A, 8) (aOrd (aTellDue A))) = aLooks A := rfl
  rw [hy]
  by_cases e9 : A.2 9 = 1
  · rw [if_pos (g9.2 e9)]
    by_cases e8 : (aLooks A).2 = 8
    · rw [if_pos ((enc_neg F3).2 e8), if_neg (fun x => x.2 e8)]
      obtain ⟨τ, d1, d2, d3⟩ := fin σ3 (aLooks A).1 k2 F1 lv3 nF n10 rfl
      exact ⟨τ, d1, d2, d3⟩
    · rw [if_neg (fun x => e8 ((enc_neg F3).1 x)), if_neg e8, if_pos (show A.2 9 = 1 ∧ (aLooks A).2 ≠ 8 from ⟨e9, e8⟩), oN_to, nI_1, show (nI ((aLooks A).2 + 1) - nI ((aLooks A).2 + 1) / 8 * 8) = nI (((aLooks A).2 + 1) % 8) from pk_rem (d := 8) (by omega) (by decide) (by decide)]
      obtain ⟨τ, d1, d2, d3⟩ := fin (sN σ3 6 (nI (((aLooks A).2 + 1) % 8))) (setN (aLooks A).1 6 (((aLooks A).2 + 1) % 8)) (RC_num k2 (by decide) (by decide)) (Iv_turn F1 (by omega)) (LV.same lv3 (sN_ne (by decide)) rfl) nF n10 rfl
      exact ⟨τ, d1, d2, d3⟩
  · rw [if_neg (fun x => e9 (g9.1 x)), if_neg (fun x => e9 x.1)]
    obtain ⟨τ, d1, d2, d3⟩ := fin σ3 (aLooks A).1 k2 F1 lv3 nF n10 rfl
    exact ⟨τ, d1, d2, d3⟩
