/-! ===== check: told trees ===== -/
def EF (lf : Nat → Bool) : Nat → Nat → Nat → Option Nat
  | 0, p, c => if c = 0 then some p else none
  | f + 1, p, c => if c = 0 then some p else EF lf f (p + 1) (if lf p then c - 1 else c + 1)
def EE (lf : Nat → Bool) (w p c : Nat) : Option Nat := EF lf (w - p) p c
theorem EE_0 {lf : Nat → Bool} {w p : Nat} : EE lf w p 0 = some p := by
  unfold EE
  cases w - p <;> rfl
theorem EE_s {lf : Nat → Bool} {w p c : Nat} (hp : p < w) (hc : 1 ≤ c) : EE lf w p c = EE lf w (p + 1) (if lf p then c - 1 else c + 1) := by
  unfold EE
  obtain ⟨f, hf⟩ : ∃ f, w - p = f + 1 := ⟨w - p - 1, by omega⟩
  rw [hf, show w - (p + 1) = f by omega]
  show (if c = 0 then some p else _) = _
  rw [if_neg (by omega)]
theorem EE_n {lf : Nat → Bool} {w p c : Nat} (hp : w ≤ p) (hc : 1 ≤ c) : EE lf w p c = none := by
  unfold EE
  rw [show w - p = 0 by omega]
  show (if c = 0 then some p else none) = none
  rw [if_neg (by omega)]
theorem EE_add {lf : Nat → Bool} {w : Nat} : ∀ (f p a b : Nat), w - p = f → EE lf w p (a + b) = (EE lf w p a).bind (fun q => EE lf w q b) := by
  intro f
  induction f with
  | zero =>
    intro p a b hf
    by_cases ha : a = 0
    · subst ha; rw [Nat.zero_add, EE_0]; rfl
    · rw [EE_n (by omega) (by omega), EE_n (by omega) (by omega)]; rfl
  | succ f ih =>
    intro p a b hf
    by_cases ha : a = 0
    · subst ha; rw [Nat.zero_add, EE_0]; rfl
    · rw [EE_s (by omega) (by omega), EE_s (c := a) (by omega) (by omega)]
      by_cases hl : lf p = true
      · rw [if_pos hl, if_pos hl, ← ih (p + 1) (a - 1) b (by omega)]
        congr 1
        omega
      · rw [if_neg hl, if_neg hl, ← ih (p + 1) (a + 1) b (by omega)]
        congr 1
        omega
theorem EE_r {lf : Nat → Bool} {w : Nat} : ∀ (f p c q : Nat), w - p = f → EE lf w p c = some q → p ≤ q ∧ (1 ≤ c → p < q ∧ q ≤ w) := by
  intro f
  induction f with
  | zero =>
    intro p c q hf h
    by_cases hc : c = 0
    · subst hc
      rw [EE_0] at h
      obtain rfl := Option.some.inj h
      exact ⟨Nat.le_refl _, fun w => by omega⟩
    · rw [EE_n (by omega) (by omega)] at h; cases h
  | succ f ih =>
    intro p c q hf h
    by_cases hc : c = 0
    · subst hc
      rw [EE_0] at h
      obtain rfl := Option.some.inj h
      exact ⟨Nat.le_refl _, fun w => by omega⟩
    · rw [EE_s (by omega) (by omega)] at h
      have := ih (p + 1) _ q (by omega) h
      refine ⟨by omega, fun _ => ⟨by omega, ?_⟩⟩
      by_cases c0 : (if lf p = true then c - 1 else c + 1) = 0
      · rw [c0, EE_0] at h
        have := Option.some.inj h
        omega
      · exact (this.2 (by omega)).2
theorem EE_leaf {lf : Nat → Bool} {w p : Nat} (hp : p < w) (h : lf p = true) : EE lf w p 1 = some (p + 1) := by
  rw [EE_s hp (by omega), if_pos h]
  exact EE_0
theorem EE_look {lf : Nat → Bool} {w p : Nat} (hp : p < w) (h : ¬ lf p = true) : EE lf w p 1 = (EE lf w (p + 1) 1).bind (fun q => EE lf w q 1) := by
  rw [EE_s hp (by omega), if_neg h, ← EE_add (w - (p + 1)) (p + 1) 1 1 rfl]
/-- where all is one tree, each place begins one -/
theorem EE_thru {lf : Nat → Bool} {w : Nat} (h : EE lf w 0 1 = some w) : ∀ p, p ≤ w → ∃ c, EE lf w p c = some w := by
  intro p
  induction p with
  | zero => intro _; exact ⟨1, h⟩
  | succ p ih =>
    intro hp
    obtain ⟨c, hc⟩ := ih (by omega)
    have c1 : 1 ≤ c := by
      by_cases c0 : c = 0
      · subst c0
        rw [EE_0] at hc
        have := Option.some.inj hc
        omega
      · omega
    rw [EE_s (by omega) c1] at hc
    exact ⟨_, hc⟩
theorem EE_all {lf : Nat → Bool} {w p : Nat} (h : EE lf w 0 1 = some w) (hp : p < w) : ∃ e, EE lf w p 1 = some e := by
  obtain ⟨c, hc⟩ := EE_thru h p (by omega)
  have c1 : 1 ≤ c := by
    by_cases c0 : c = 0
    · subst c0
      rw [EE_0] at hc
      have := Option.some.inj hc
      omega
    · omega
  rw [show c = 1 + (c - 1) by omega, EE_add (w - p) p 1 (c - 1) rfl] at hc
  cases e : EE lf w p 1 with
  | none => rw [e] at hc; cases hc
  | some q => exact ⟨q, rfl⟩
