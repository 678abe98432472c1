/-! ===== the cubes of n bits: digits, what they hold, weights ===== -/
theorem p3 (i : Nat) : 0 < 3 ^ i := Nat.pow_pos (by omega)
theorem dg_lt (c i : Nat) : dg c i < 3 := Nat.mod_lt _ (by omega)
theorem dg_ge {c i : Nat} (h : dg c i = 2) : 2 * 3 ^ i ≤ c := by
  have h1 : 2 ≤ c / 3 ^ i := by unfold dg at h; generalize c / 3 ^ i = q at h ⊢; omega
  have h2 := Nat.mul_le_mul_right (3 ^ i) h1
  have h3 := Nat.div_mul_le_self c (3 ^ i)
  omega
theorem dg_div (c i j : Nat) : dg (c / 3 ^ i) j = dg c (i + j) := by
  unfold dg
  rw [Nat.div_div_eq_div_mul, Nat.pow_add]
theorem dg_sub {c i a : Nat} (h : dg c i = 2) (ha : a ≤ 2) (j : Nat) : dg (c - a * 3 ^ i) j = if j = i then 2 - a else dg c j := by
  have hp := p3 i
  have hge := dg_ge h
  have e1 : c - a * 3 ^ i = c % 3 ^ i + 3 ^ i * (c / 3 ^ i - a) := by
    have := Nat.mod_add_div c (3 ^ i)
    rw [Nat.mul_sub, Nat.mul_comm (3 ^ i) a]
    have h1 : 2 ≤ c / 3 ^ i := by unfold dg at h; generalize c / 3 ^ i = q at h ⊢; omega
    have := Nat.mul_le_mul_left (3 ^ i) h1
    have : a * 3 ^ i ≤ 2 * 3 ^ i := Nat.mul_le_mul_right _ ha
    omega
  have e2 : (c - a * 3 ^ i) / 3 ^ i = c / 3 ^ i - a := by
    rw [e1, Nat.add_mul_div_left _ _ hp, Nat.div_eq_of_lt (Nat.mod_lt _ hp)]
    omega
  have e3 : (c - a * 3 ^ i) % 3 ^ i = c % 3 ^ i := by
    rw [e1, Nat.add_mul_mod_self_left, Nat.mod_mod]
  have low : ∀ x, j < i → dg x j = dg (x % 3 ^ i) j := by
    intro x hj
    unfold dg
    have : 3 ^ i = 3 ^ j * (3 * 3 ^ (i - 1 - j)) := by
      rw [← Nat.pow_succ', ← Nat.pow_add]; congr 1; omega
    rw [this, Nat.mod_mul_right_div_self, Nat.mod_mul_right_mod]
  by_cases h1 : j = i
  · rw [if_pos h1, h1]
    unfold dg at h ⊢
    rw [e2]
    generalize c / 3 ^ i = q at h ⊢
    omega
  · rw [if_neg h1]
    by_cases h2 : j < i
    · rw [low _ h2, e3, ← low c h2]
    · obtain ⟨d, rfl⟩ : ∃ d, j = i + (1 + d) := ⟨j - i - 1, by omega⟩
      rw [← dg_div (c - a * 3 ^ i) i (1 + d), ← dg_div c i (1 + d), e2, ← dg_div (c / 3 ^ i - a) 1 d, ← dg_div (c / 3 ^ i) 1 d]
      congr 1
      unfold dg at h
      rw [Nat.pow_one]
      generalize c / 3 ^ i = q at h ⊢
      omega
theorem sub_lt {c i a : Nat} (h : dg c i = 2) (h1 : 1 ≤ a) : c - a * 3 ^ i < c := by
  have := dg_ge h
  have := p3 i
  have : 1 * 3 ^ i ≤ a * 3 ^ i := Nat.mul_le_mul_right _ h1
  omega
theorem nfree_congr {n c d : Nat} (h : ∀ j, j < n → (dg c j = 2 ↔ dg d j = 2)) : nfree n c = nfree n d := by
  induction n with
  | zero => rfl
  | succ n ih =>
    unfold nfree
    rw [ih (fun j hj => h j (by omega))]
    have := h n (by omega)
    by_cases e : dg c n = 2
    · rw [if_pos e, if_pos (this.mp e)]
    · rw [if_neg e, if_neg (fun w => e (this.mpr w))]
theorem nfree_sub {n c i a : Nat} (hi : i < n) (h : dg c i = 2) (h1 : 1 ≤ a) (ha : a ≤ 2) : nfree n (c - a * 3 ^ i) + 1 = nfree n c := by
  induction n with
  | zero => omega
  | succ n ih =>
    unfold nfree
    by_cases e : i = n
    · subst e
      rw [if_pos h, nfree_congr (c := c - a * 3 ^ i) (d := c) (fun j hj => by rw [dg_sub h ha, if_neg (by omega)]), if_neg (by rw [dg_sub h ha, if_pos rfl]; omega)]
    · have := ih (by omega)
      rw [dg_sub h ha n, if_neg (show ¬ n = i by omega)]
      generalize (if dg c n = 2 then 1 else 0) = u
      omega
theorem nfree_le (n c : Nat) : nfree n c ≤ n := by
  induction n with
  | zero => exact Nat.le_refl _
  | succ n ih => unfold nfree; split <;> omega
theorem top_some {n c i : Nat} (h : top n c = some i) : i < n ∧ dg c i = 2 ∧ ∀ j, i < j → j < n → dg c j ≠ 2 := by
  induction n with
  | zero => cases h
  | succ n ih =>
    unfold top at h
    by_cases e : dg c n = 2
    · rw [if_pos e] at h
      obtain rfl := Option.some.inj h
      exact ⟨by omega, e, fun j h1 h2 => by omega⟩
    · rw [if_neg e] at h
      obtain ⟨h1, h2, h3⟩ := ih h
      refine ⟨by omega, h2, fun j h4 h5 => ?_⟩
      by_cases e2 : j = n
      · rw [e2]; exact e
      · exact h3 j h4 (by omega)
theorem top_none {n c : Nat} (h : top n c = none) : ∀ j, j < n → dg c j ≠ 2 := by
  induction n with
  | zero => intro j hj; omega
  | succ n ih =>
    unfold top at h
    by_cases e : dg c n = 2
    · rw [if_pos e] at h; cases h
    · rw [if_neg e] at h
      intro j hj
      by_cases e2 : j = n
      · rw [e2]; exact e
      · exact ih h j (by omega)
theorem hasF_fuel (n : Nat) (g : Nat → Nat) : ∀ k k' c, c < k → c < k' → hasF n g k c = hasF n g k' c := by
  intro k
  induction k with
  | zero => intro k' c h; omega
  | succ k ih =>
    intro k' c h h'
    obtain ⟨m, rfl⟩ : ∃ m, k' = m + 1 := ⟨k' - 1, by omega⟩
    unfold hasF
    cases e : top n c with
    | none => rfl
    | some i =>
      have h2 := (top_some e).2.1
      have l1 := sub_lt (a := 1) h2 (by omega)
      have l2 := sub_lt (a := 2) h2 (by omega)
      rw [Nat.one_mul] at l1
      simp only
      rw [ih m (c - 3 ^ i) (by omega) (by omega), ih m (c - 2 * 3 ^ i) (by omega) (by omega)]
theorem hasT_none {n : Nat} {g : Nat → Nat} {c : Nat} (h : top n c = none) : hasT n g c = hv (g (inp n c)) := by
  unfold hasT hasF
  rw [h]
theorem hasT_some {n : Nat} {g : Nat → Nat} {c i : Nat} (h : top n c = some i) : hasT n g c = hasT n g (c - 3 ^ i) ||| hasT n g (c - 2 * 3 ^ i) := by
  have h2 := (top_some h).2.1
  have l1 := sub_lt (a := 1) h2 (by omega)
  have l2 := sub_lt (a := 2) h2 (by omega)
  rw [Nat.one_mul] at l1
  unfold hasT
  have e : hasF n g (c + 1) c = hasF n g c (c - 3 ^ i) ||| hasF n g c (c - 2 * 3 ^ i) := by
    conv => lhs; unfold hasF
    rw [h]
  rw [e, hasF_fuel n g c (c - 3 ^ i + 1) _ l1 (by omega), hasF_fuel n g c (c - 2 * 3 ^ i + 1) _ l2 (by omega)]
theorem hv_le (v : Nat) : hv v ≤ 2 := by
  unfold hv
  split
  · omega
  · split <;> omega
theorem hasT_le (n : Nat) (g : Nat → Nat) (c : Nat) : hasT n g c ≤ 3 := by
  induction c using Nat.strongRecOn with
  | _ c ih =>
    cases e : top n c with
    | none => rw [hasT_none e]; have := hv_le (g (inp n c)); omega
    | some i =>
      have h2 := (top_some e).2.1
      have l1 := sub_lt (a := 1) h2 (by omega)
      have l2 := sub_lt (a := 2) h2 (by omega)
      rw [Nat.one_mul] at l1
      rw [hasT_some e]
      have a1 := ih _ l1
      have a2 := ih _ l2
      have : hasT n g (c - 3 ^ i) ||| hasT n g (c - 2 * 3 ^ i) < 2 ^ 2 := Nat.or_lt_two_pow (by omega) (by omega)
      omega
theorem hasT_3 {n : Nat} {g : Nat → Nat} {c : Nat} (h : hasT n g c = 3) : ∃ i, top n c = some i := by
  cases e : top n c with
  | none => rw [hasT_none e] at h; have := hv_le (g (inp n c)); omega
  | some i => exact ⟨i, rfl⟩
theorem bestF_congr {n c : Nat} {w w' : Nat → Nat} (h : ∀ i, i < n → dg c i = 2 → w i = w' i) : bestF n w c = bestF n w' c := by
  induction n with
  | zero => rfl
  | succ n ih =>
    unfold bestF
    rw [ih (fun i hi => h i (by omega))]
    by_cases e : dg c n = 2
    · rw [if_pos e, if_pos e, h n (by omega) e]
    · rw [if_neg e, if_neg e]
theorem bestF_le {n c i : Nat} {w : Nat → Nat} (hi : i < n) (h : dg c i = 2) : bestF n w c ≤ w i := by
  induction n with
  | zero => omega
  | succ n ih =>
    unfold bestF
    by_cases e : i = n
    · subst e; rw [if_pos h]; exact Nat.min_le_right _ _
    · have := ih (by omega)
      split
      · exact Nat.le_trans (Nat.min_le_left _ _) this
      · exact this
theorem bestF_m (n c : Nat) (w : Nat → Nat) : bestF n w c ≤ 1000000 := by
  induction n with
  | zero => exact Nat.le_refl _
  | succ n ih =>
    unfold bestF
    split
    · exact Nat.le_trans (Nat.min_le_left _ _) ih
    · exact ih
theorem wF_fuel (n : Nat) (g : Nat → Nat) (bs : Bool) : ∀ k k' c, c < k → c < k' → wF n g bs k c = wF n g bs k' c := by
  intro k
  induction k with
  | zero => intro k' c h; omega
  | succ k ih =>
    intro k' c h h'
    obtain ⟨m, rfl⟩ : ∃ m, k' = m + 1 := ⟨k' - 1, by omega⟩
    unfold wF
    rw [bestF_congr (fun i hi h2 => ?_)]
    have l1 := sub_lt (a := 1) h2 (by omega)
    have l2 := sub_lt (a := 2) h2 (by omega)
    rw [Nat.one_mul] at l1
    show comb bs _ _ = comb bs _ _
    rw [ih m (c - 3 ^ i) (by omega) (by omega), ih m (c - 2 * 3 ^ i) (by omega) (by omega)]
/-- the weight of the halves at bit i -/
def hw (n : Nat) (g : Nat → Nat) (bs : Bool) (c i : Nat) : Nat := comb bs (wT n g bs (c - 2 * 3 ^ i)) (wT n g bs (c - 3 ^ i))
theorem wT_eq (n : Nat) (g : Nat → Nat) (bs : Bool) (c : Nat) : wT n g bs c = if hasT n g c = 3 then bestF n (hw n g bs c) c + ownW bs n c else 0 := by
  conv => lhs; unfold wT wF
  rw [bestF_congr (w' := hw n g bs c) (fun i hi h2 => ?_)]
  have l1 := sub_lt (a := 1) h2 (by omega)
  have l2 := sub_lt (a := 2) h2 (by omega)
  rw [Nat.one_mul] at l1
  show comb bs _ _ = comb bs _ _
  rw [wF_fuel n g bs c (c - 3 ^ i + 1) _ l1 (by omega), wF_fuel n g bs c (c - 2 * 3 ^ i + 1) _ l2 (by omega)]
  rfl
theorem wT_d (n : Nat) (g : Nat → Nat) (c : Nat) : wT n g false c ≤ nfree n c := by
  induction c using Nat.strongRecOn with
  | _ c ih =>
    rw [wT_eq]
    by_cases h : hasT n g c = 3
    · rw [if_pos h]
      obtain ⟨i, e⟩ := hasT_3 h
      obtain ⟨hi, h2, -⟩ := top_some e
      have l1 := sub_lt (a := 1) h2 (by omega)
      have l2 := sub_lt (a := 2) h2 (by omega)
      have f1 := nfree_sub (a := 1) hi h2 (by omega) (by omega)
      have f2 := nfree_sub (a := 2) hi h2 (by omega) (by omega)
      rw [Nat.one_mul] at l1 f1
      have a1 := ih _ l1
      have a2 := ih _ l2
      have b := bestF_le (w := hw n g false c) hi h2
      have : hw n g false c i = max (wT n g false (c - 2 * 3 ^ i)) (wT n g false (c - 3 ^ i)) := rfl
      have : ownW false n c = 1 := rfl
      omega
    · rw [if_neg h]; omega
theorem wT_s (n : Nat) (g : Nat → Nat) (c : Nat) : wT n g true c ≤ nfree n c * 2 ^ nfree n c := by
  induction c using Nat.strongRecOn with
  | _ c ih =>
    rw [wT_eq]
    by_cases h : hasT n g c = 3
    · rw [if_pos h]
      obtain ⟨i, e⟩ := hasT_3 h
      obtain ⟨hi, h2, -⟩ := top_some e
      have l1 := sub_lt (a := 1) h2 (by omega)
      have l2 := sub_lt (a := 2) h2 (by omega)
      have f1 := nfree_sub (a := 1) hi h2 (by omega) (by omega)
      have f2 := nfree_sub (a := 2) hi h2 (by omega) (by omega)
      rw [Nat.one_mul] at l1 f1
      have a1 := ih _ l1
      have a2 := ih _ l2
      have b := bestF_le (w := hw n g true c) hi h2
      have e1 : hw n g true c i = wT n g true (c - 2 * 3 ^ i) + wT n g true (c - 3 ^ i) := rfl
      have e2 : ownW true n c = 2 ^ nfree n c := rfl
      obtain ⟨f, hf⟩ : ∃ f, nfree n c = f + 1 := ⟨nfree n c - 1, by omega⟩
      rw [show nfree n (c - 3 ^ i) = f by omega] at a1
      rw [show nfree n (c - 2 * 3 ^ i) = f by omega] at a2
      rw [e2, hf, Nat.pow_succ, Nat.add_mul, ← Nat.mul_assoc]
      omega
    · rw [if_neg h]; omega
theorem wT_b {n : Nat} (hn : n ≤ 8) (g : Nat → Nat) (bs : Bool) (c : Nat) : wT n g bs c ≤ 2048 := by
  have h0 := nfree_le n c
  cases bs with
  | false => have := wT_d n g c; omega
  | true =>
    have h1 := wT_s n g c
    have h2 : 2 ^ nfree n c ≤ 2 ^ 8 := Nat.pow_le_pow_right (by omega) (by omega)
    have h3 := Nat.mul_le_mul (show nfree n c ≤ 8 by omega) h2
    omega
/-- the input of the digits that are values -/
def inpR : Nat → Nat → Nat
  | 0, _ => 0
  | n + 1, c => inpR n c + (if dg c n = 1 then 2 ^ n else 0)
theorem inpR_lt (n c : Nat) : inpR n c < 2 ^ n := by
  induction n with
  | zero => exact Nat.one_pos
  | succ n ih =>
    unfold inpR
    rw [Nat.pow_succ]
    split <;> omega
theorem inpR_none {n c : Nat} (h : top n c = none) : inpR n c = inp n c := by
  have h' := top_none h
  clear h
  induction n with
  | zero => rfl
  | succ n ih =>
    unfold inpR inp
    rw [ih (fun j hj => h' j (by omega))]
    have := h' n (by omega)
    have := dg_lt c n
    by_cases e : dg c n = 1
    · rw [if_pos e, e, Nat.one_mul]
    · rw [if_neg e, show dg c n = 0 by omega, Nat.zero_mul]
theorem or_pow {a i : Nat} (h : a < 2 ^ i) : a ||| 2 ^ i = a + 2 ^ i := by
  have := Nat.two_pow_add_eq_or_of_lt h 1
  rw [Nat.mul_one] at this
  rw [Nat.or_comm, ← this, Nat.add_comm]
theorem nfree_none {n c : Nat} (h : top n c = none) : nfree n c = 0 := by
  have h' := top_none h
  clear h
  induction n with
  | zero => rfl
  | succ n ih => unfold nfree; rw [ih (fun j hj => h' j (by omega)), if_neg (h' n (by omega))]
theorem nfree_some {n c i : Nat} (h : top n c = some i) : 0 < nfree n c := by
  obtain ⟨hi, h2, -⟩ := top_some h
  have := nfree_sub (a := 1) hi h2 (by omega) (by omega)
  omega
