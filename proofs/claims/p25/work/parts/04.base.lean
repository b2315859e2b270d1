/-! What the printed contracts lean on -/
/-- the rounds that a loop's word may go: more than any loop of these classes ever needs -/
def FU : Nat := 20000
theorem x_kont {κ' α : Type} {res : α} {r : κ'} {b : κ' → Option α} {G : Prop} (P : κ' → Prop) (hf : b r = some res) (h1 : P r) (h2 : ∀ k, P k → b k = some res → G) : G := h2 r h1 hf
theorem x_room {ST : Type} {κ : XCtx ST} (E : XE κ) (σ : ST) : κ.K σ + 0 ≤ κ.R.cells ∧ κ.N σ + 0 ≤ κ.R.slots := by
  rw [(E.2 σ).1, (E.2 σ).2]
  exact ⟨Nat.zero_le _, Nat.zero_le _⟩
theorem XMet.ofE {ST : Type} {HP : ST → Nat → va_E} {l : Launch} {G : va_G} {tys : List (ClassId × FieldType)} {S0 c nL F L : Nat} {y : MethodName} {bytes : ByteArray} {rt : Option FieldType} {av : List Value} {rv : Option Value} (σ0 σ1 : ST) (hy : plainName y.cls = true) (hlen : (lg_sl av).length ≤ nL)
    (body : ∀ κ : XCtx ST, κ.l = l → κ.G = G → κ.tys = tys → κ.S0 = S0 → κ.HP = HP → (∀ σ, κ.HC σ = c) → XE κ → XC κ bytes nL y.cls rt F L → XR κ (κ.HC σ0) rv (κ.HP σ1) 0 0 → XG κ σ0 0 (lv_args 0 av) []) :
    XMet l G tys S0 c y bytes nL rt F L av (HP σ0) c rv (HP σ1) 0 0 := by
  refine XMet.of (fun _ => c) HP (fun _ => 0) (fun _ => 0) σ0 hy ⟨rfl, rfl⟩ hlen ?_
  intro κ k1 k2 k3 k4 k5 k6 k7 k8 _ _ _ X hQ
  refine body κ k5 k6 k7 k8 k2 (fun σ => by rw [k1]) ⟨⟨fun _ _ => by rw [k1], fun _ _ => by rw [k3], fun _ _ => by rw [k4]⟩, fun σ => ⟨by rw [k3], by rw [k4]⟩⟩ X ?_
  rw [k1, k2]
  exact hQ
