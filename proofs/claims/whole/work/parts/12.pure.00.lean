/-! ===== pure words: loops, numbers, reads and writes ===== -/
theorem lpN_s {S E : Type} {body : S → Option (S ⊕ E)} {n : Nat} {s s' : S} (h : body s = some (.inl s')) : lpN body (n + 1) s = lpN body n s' := by
  show (match body s with | none => none | some (.inl s') => lpN body n s' | some (.inr e) => some e) = _
  rw [h]
theorem lpN_e {S E : Type} {body : S → Option (S ⊕ E)} {n : Nat} {s : S} {e : E} (h : body s = some (.inr e)) : lpN body (n + 1) s = some e := by
  show (match body s with | none => none | some (.inl s') => lpN body n s' | some (.inr e) => some e) = _
  rw [h]
/-- a loop with a measure: it ends, and what holds at its end -/
theorem lp_meas {S E : Type} {body : S → Option (S ⊕ E)} (I : S → Prop) (μ : S → Nat) (X : E → Prop) (step : ∀ s, I s → (∃ s', body s = some (.inl s') ∧ I s' ∧ μ s' < μ s) ∨ (∃ e, body s = some (.inr e) ∧ X e)) : ∀ (n : Nat) (s : S), I s → μ s < n → ∃ e, lpN body n s = some e ∧ X e := by
  intro n
  induction n with
  | zero => intro s _ h; omega
  | succ n ih =>
    intro s hI h
    rcases step s hI with ⟨s', h1, h2, h3⟩ | ⟨e, h1, h2⟩
    · obtain ⟨e, h4, h5⟩ := ih s' h2 (by omega)
      exact ⟨e, by rw [lpN_s h1]; exact h4, h5⟩
    · exact ⟨e, lpN_e h1, h2⟩
/-- a loop that counts from 0 to N -/
theorem lp_count {S E : Type} {body : S → Option (S ⊕ E)} (I : Nat → S → Prop) (N : Nat) (X : E → Prop) (hN : N < bigN) (step : ∀ i s, i < N → I i s → ∃ s', body s = some (.inl s') ∧ I (i + 1) s') (last : ∀ s, I N s → ∃ e, body s = some (.inr e) ∧ X e) {s : S} (h0 : I 0 s) : ∃ e, lpN body bigN s = some e ∧ X e := by
  have key : ∀ (k i : Nat) (s : S), i + k = N → I i s → ∀ n, k < n → ∃ e, lpN body n s = some e ∧ X e := by
    intro k
    induction k with
    | zero =>
      intro i s hi hI n hn
      obtain ⟨m, rfl⟩ : ∃ m, n = m + 1 := ⟨n - 1, by omega⟩
      have : i = N := by omega
      subst this
      obtain ⟨e, h1, h2⟩ := last s hI
      exact ⟨e, lpN_e h1, h2⟩
    | succ k ih =>
      intro i s hi hI n hn
      obtain ⟨m, rfl⟩ : ∃ m, n = m + 1 := ⟨n - 1, by omega⟩
      obtain ⟨s', h1, h2⟩ := step i s (by omega) hI
      obtain ⟨e, h3, h4⟩ := ih (i + 1) s' (by omega) h2 m (by omega)
      exact ⟨e, by rw [lpN_s h1]; exact h3, h4⟩
  exact key N 0 s (by omega) h0 bigN hN
/-- a loop that counts from 0 to N, and may end earlier -/
theorem lp_upto {S E : Type} {body : S → Option (S ⊕ E)} (I : Nat → S → Prop) (N : Nat) (X : E → Prop) (hN : N < bigN) (step : ∀ i s, i < N → I i s → (∃ s', body s = some (.inl s') ∧ I (i + 1) s') ∨ (∃ e, body s = some (.inr e) ∧ X e)) (last : ∀ s, I N s → ∃ e, body s = some (.inr e) ∧ X e) {s : S} (h0 : I 0 s) : ∃ e, lpN body bigN s = some e ∧ X e := by
  have key : ∀ (k i : Nat) (s : S), i + k = N → I i s → ∀ n, k < n → ∃ e, lpN body n s = some e ∧ X e := by
    intro k
    induction k with
    | zero =>
      intro i s hi hI n hn
      obtain ⟨m, rfl⟩ : ∃ m, n = m + 1 := ⟨n - 1, by omega⟩
      have : i = N := by omega
      subst this
      obtain ⟨e, h1, h2⟩ := last s hI
      exact ⟨e, lpN_e h1, h2⟩
    | succ k ih =>
      intro i s hi hI n hn
      obtain ⟨m, rfl⟩ : ∃ m, n = m + 1 := ⟨n - 1, by omega⟩
      rcases step i s (by omega) hI with ⟨s', h1, h2⟩ | ⟨e, h1, h2⟩
      · obtain ⟨e, h3, h4⟩ := ih (i + 1) s' (by omega) h2 m (by omega)
        exact ⟨e, by rw [lpN_s h1]; exact h3, h4⟩
      · exact ⟨e, lpN_e h1, h2⟩
  exact key N 0 s (by omega) h0 bigN hN
theorem bigN_gt {n : Nat} (h : n < 1000000000) : n < bigN := h
/-! numbers -/
theorem lit (n : Nat) : (OfNat.ofNat n : Int32) = nI n := rfl
theorem ib_nI {k n : Nat} (h : k < n) (hn : n < 2 ^ 31) : ib (nI k) n = true := by
  unfold ib
  rw [nI_toInt (by omega)]
  exact decide_eq_true ⟨by omega, by omega⟩
theorem aI_n {k n : Nat} (f : Nat → Int32) (h : k < n) (hn : n < 2 ^ 31) : aI n f (nI k) = some (f k) := by
  unfold aI
  rw [if_pos (ib_nI h hn), nI_clamp (by omega)]
theorem aL_n {k n : Nat} (f : Nat → Int64) (h : k < n) (hn : n < 2 ^ 31) : aL n f (nI k) = some (f k) := by
  unfold aL
  rw [if_pos (ib_nI h hn), nI_clamp (by omega)]
theorem aQ_n {k n : Nat} (f : Nat → Option Nat) (h : k < n) (hn : n < 2 ^ 31) : aQ n f (nI k) = some (f k) := by
  unfold aQ
  rw [if_pos (ib_nI h hn), nI_clamp (by omega)]
theorem sA_n {r : RS} {k n i : Nat} {x : Int32} (h : i < n) (hn : n < 2 ^ 31) : sA r k n (nI i) x = some (rA r k i x) := by
  unfold sA
  rw [if_pos (ib_nI h hn), nI_clamp (by omega)]
theorem sL_n {r : RS} {k n i : Nat} {x : Int64} (h : i < n) (hn : n < 2 ^ 31) : sL r k n (nI i) x = some (rL r k i x) := by
  unfold sL
  rw [if_pos (ib_nI h hn), nI_clamp (by omega)]
theorem csA_n {z : CS} {k n i : Nat} {x : Int32} (h : i < n) (hn : n < 2 ^ 31) : csA z k n (nI i) x = some (cAr z k i x) := by
  unfold csA
  rw [if_pos (ib_nI h hn), nI_clamp (by omega)]
theorem stQS_n {z : CS} {i : Nat} {x : Option Nat} (h : i < 6) (hx : okS z x = true) : stQS z (nI i) x = some (cQ z 0 i x) := by
  unfold stQS
  rw [if_pos ⟨ib_nI h (by omega), hx⟩, nI_clamp (by omega)]
theorem stQT_n {z : CS} {k i : Nat} {x : Option Nat} (h : i < 8) (hx : okT z x = true) : stQT z k (nI i) x = some (cQ z k i x) := by
  unfold stQT
  rw [if_pos ⟨ib_nI h (by omega), hx⟩, nI_clamp (by omega)]
/-- an int is none of 0 .. n - 1, or one of them -/
theorem ix (x : Int32) {n : Nat} (hn : n < 2 ^ 31) : (x < 0 ∨ nI n ≤ x) ∨ ∃ j : Nat, j < n ∧ x = nI j := by
  rcases pk_ix x hn with h | h | h
  · exact Or.inl (Or.inl h)
  · exact Or.inl (Or.inr h)
  · exact Or.inr h
theorem nlt0 {x : Int32} {n : Nat} (hn : n < 2 ^ 31) (h : nI n ≤ x) : ¬ x < 0 := fun q => by
  have h1 := Int32.le_iff_toInt_le.mp h
  have h2 := Int32.lt_iff_toInt_lt.mp q
  rw [nI_toInt hn] at h1
  have h3 : (0 : Int32).toInt = 0 := rfl
  omega
theorem nI_nlt0 {k : Nat} (h : k < 2 ^ 31) : ¬ nI k < 0 := nI_pos h
theorem isPl9_out {x : Int32} (h : x < 0 ∨ nI 8 ≤ x) : fX9_isPlace x = some 0 := by
  unfold fX9_isPlace fX9_isPlace_J14
  by_cases h0 : x < 0
  · rw [if_pos h0]
  · rw [if_neg h0, if_pos (show (8 : Int32) ≤ x from h.resolve_left h0)]
theorem isPl9_in {k : Nat} (h : k < 8) : fX9_isPlace (nI k) = some 1 := by
  unfold fX9_isPlace fX9_isPlace_J14
  rw [if_neg (nI_nlt0 (by omega)), if_neg (show ¬ (8 : Int32) ≤ nI k from nI_ge (b := 8) h (by omega))]
theorem isPl10_out {x : Int32} (h : x < 0 ∨ nI 8 ≤ x) : fX10_isPlace x = some 0 := by
  unfold fX10_isPlace fX10_isPlace_J14
  by_cases h0 : x < 0
  · rw [if_pos h0]
  · rw [if_neg h0, if_pos (show (8 : Int32) ≤ x from h.resolve_left h0)]
theorem isPl10_in {k : Nat} (h : k < 8) : fX10_isPlace (nI k) = some 1 := by
  unfold fX10_isPlace fX10_isPlace_J14
  rw [if_neg (nI_nlt0 (by omega)), if_neg (show ¬ (8 : Int32) ≤ nI k from nI_ge (b := 8) h (by omega))]
theorem isSh9_out {x : Int32} (h : x < 0 ∨ nI 6 ≤ x) : fX9_isSheet x = some 0 := by
  unfold fX9_isSheet fX9_isSheet_J14
  by_cases h0 : x < 0
  · rw [if_pos h0]
  · rw [if_neg h0, if_pos (show (6 : Int32) ≤ x from h.resolve_left h0)]
theorem isSh9_in {k : Nat} (h : k < 6) : fX9_isSheet (nI k) = some 1 := by
  unfold fX9_isSheet fX9_isSheet_J14
  rw [if_neg (nI_nlt0 (by omega)), if_neg (show ¬ (6 : Int32) ≤ nI k from nI_ge (b := 6) h (by omega))]
theorem isSh10_out {x : Int32} (h : x < 0 ∨ nI 6 ≤ x) : fX10_isSheet x = some 0 := by
  unfold fX10_isSheet fX10_isSheet_J14
  by_cases h0 : x < 0
  · rw [if_pos h0]
  · rw [if_neg h0, if_pos (show (6 : Int32) ≤ x from h.resolve_left h0)]
theorem isSh10_in {k : Nat} (h : k < 6) : fX10_isSheet (nI k) = some 1 := by
  unfold fX10_isSheet fX10_isSheet_J14
  rw [if_neg (nI_nlt0 (by omega)), if_neg (show ¬ (6 : Int32) ≤ nI k from nI_ge (b := 6) h (by omega))]
theorem i1n0 : ¬ (1 : Int32) = 0 := by decide
theorem nI_n0 {k : Nat} (h : 0 < k) (h2 : k < 2 ^ 31) : ¬ nI k = 0 := nI_ne0 h h2
/-! findings -/
theorem meet_n {r : RS} {x : Int32} (h : ¬ (-10 : Int32) < x) : fX10_meet r x = some (x, rI r 2 (r.1 2 + 1)) := by
  unfold fX10_meet fX10_meet_J16
  rw [if_neg h]
theorem meet_z {r : RS} {x : Int32} (h : (-10 : Int32) < x) : fX10_meet r x = some (x, rI r 2 (r.1 2 + 0)) := by
  unfold fX10_meet fX10_meet_J16
  rw [if_pos h]
theorem meet_N {r : RS} : fX10_meet r (-10) = some (-10, rI r 2 (r.1 2 + 1)) := meet_n (by decide)
theorem meet_P {r : RS} : fX10_meet r (-11) = some (-11, rI r 2 (r.1 2 + 1)) := meet_n (by decide)
theorem meet_S {r : RS} : fX10_meet r (-12) = some (-12, rI r 2 (r.1 2 + 1)) := meet_n (by decide)
theorem meet_Z {r : RS} : fX10_meet r (-13) = some (-13, rI r 2 (r.1 2 + 1)) := meet_n (by decide)
theorem rI_self {r : RS} {k : Nat} : rI r k (r.1 k + 0) = r := by
  have h : upd r.1 k (r.1 k + 0) = r.1 := by
    funext j
    by_cases hj : j = k
    · subst hj; simp [upd]
    · simp [upd, hj]
  show (upd r.1 k (r.1 k + 0), r.2) = r
  rw [h]
theorem meet_B {r : RS} : fX10_meet r (-2) = some (-2, r) := by rw [meet_z (by decide), rI_self]
theorem meet_O {r : RS} : fX10_meet r (-4) = some (-4, r) := by rw [meet_z (by decide), rI_self]
theorem counted_n {o : Nat} {z : CS} {x : Int32} : fX9_counted o z x = some (x, cI z 3 (z.1 3 + 1)) := rfl
theorem find9_out {o : Nat} {z : CS} {x : Int32} (h : x < 0 ∨ nI 8 ≤ x) : fX9_findingOfTask o z x = some (-2, z) := by
  unfold fX9_findingOfTask
  rw [isPl9_out h]
  rfl
theorem find9_no {o : Nat} {z : CS} {k : Nat} (h : k < 8) (hz : z.2.2.1 1 k = none) : fX9_findingOfTask o z (nI k) = some (-10, cI z 3 (z.1 3 + 1)) := by
  unfold fX9_findingOfTask
  rw [isPl9_in h, Option.bind_some, if_neg i1n0, aQ_n _ h (by omega), hz]
  rfl
theorem find9_yes {o : Nat} {z : CS} {k q : Nat} (h : k < 8) (hz : z.2.2.1 1 k = some q) : fX9_findingOfTask o z (nI k) = some (0, z) := by
  unfold fX9_findingOfTask
  rw [isPl9_in h, Option.bind_some, if_neg i1n0, aQ_n _ h (by omega), hz]
  rfl
theorem askP_out {r : RS} {x : Int32} (h : x < 0 ∨ nI 8 ≤ x) : fX10_askPlace r x = some (-2) := by
  unfold fX10_askPlace
  rw [isPl10_out h]
  rfl
theorem askP_no {r : RS} {k : Nat} (h : k < 8) (hz : r.2.1 0 k = 0) : fX10_askPlace r (nI k) = some (-10) := by
  unfold fX10_askPlace
  rw [isPl10_in h, Option.bind_some, if_neg i1n0, aI_n _ (show k < 16 by omega) (by omega), Option.bind_some, if_pos hz]
theorem askP_yes {r : RS} {k n : Nat} (h : k < 8) (hz : r.2.1 0 k = nI n) (h1 : 1 ≤ n) (h8 : n ≤ 8) : fX10_askPlace r (nI k) = some 0 := by
  unfold fX10_askPlace
  rw [isPl10_in h, Option.bind_some, if_neg i1n0, aI_n _ (show k < 16 by omega) (by omega), Option.bind_some, hz, if_neg (nI_n0 (by omega) (by omega))]
/-! what a write leaves -/
theorem rA_1 {r : RS} {k i : Nat} {x : Int32} : (rA r k i x).1 = r.1 := rfl
theorem rA_L {r : RS} {k i : Nat} {x : Int32} : (rA r k i x).2.2 = r.2.2 := rfl
theorem rA_A {r : RS} {k i j : Nat} {x : Int32} : (rA r k i x).2.1 j = if j = k then upd (r.2.1 k) i x else r.2.1 j := rfl
theorem rI_A {r : RS} {k : Nat} {x : Int32} : (rI r k x).2 = r.2 := rfl
theorem rI_1 {r : RS} {k j : Nat} {x : Int32} : (rI r k x).1 j = if j = k then x else r.1 j := rfl
theorem rL_1 {r : RS} {k i : Nat} {x : Int64} : (rL r k i x).1 = r.1 := rfl
theorem rL_A {r : RS} {k i : Nat} {x : Int64} : (rL r k i x).2.1 = r.2.1 := rfl
theorem rL_L {r : RS} {k i j : Nat} {x : Int64} : (rL r k i x).2.2 j = if j = k then vp_updL (r.2.2 k) i x else r.2.2 j := rfl
/-! ===== the relation between the class's state and the reference's ===== -/
/-- a task of the pool: n bits, kind, worth, what it says -/
def TkAt (z : CS) (q n : Nat) (kd wt : Int32) (g : Nat → Nat) : Prop := ∃ (a : Nat) (f : Nat → Int32), dT z q = some (kd, nI n, wt, some a) ∧ dB z a = some (2 ^ n, f) ∧ (∀ x, f x = nI (g x)) ∧ 1 ≤ n ∧ n ≤ 8 ∧ ∀ x, g x ≤ 2
/-- the reference's task at p -/
def TkR (r : RS) (p n : Nat) (kd wt : Int32) (g : Nat → Nat) : Prop := r.2.1 0 p = nI n ∧ r.2.1 1 p = kd ∧ (kd = 0 ∧ wt = nI n ∨ kd = 3 ∧ wt = r.2.1 2 p ∨ kd = 4 ∧ wt = nI (n + 100) ∨ (kd = 1 ∨ kd = 2) ∧ wt = nI (n + 10)) ∧ ∀ x, x < 2 ^ n → r.2.1 3 (256 * p + x) = nI (g x)
def PlR (z : CS) (r : RS) (k off : Nat) : Prop := ∀ p, p < 8 → (z.2.2.1 k p = none → r.2.1 0 (off + p) = 0) ∧ ∀ q, z.2.2.1 k p = some q → ∃ (n : Nat) (kd wt : Int32) (g : Nat → Nat), TkAt z q n kd wt g ∧ TkR r (off + p) n kd wt g
def ShAt (z : CS) (q k n a : Nat) (f : Nat → Int64) : Prop := dS z q = some (nI k, some a) ∧ dL z a = some (n, f) ∧ k ≤ 3 ∧ n ≤ 256
def ShR (z : CS) (r : RS) : Prop := (∀ s, s < 6 → (z.2.2.1 0 s = none → r.2.1 5 s = -1) ∧ ∀ q, z.2.2.1 0 s = some q → ∃ (k n a : Nat) (f : Nat → Int64), ShAt z q k n a f ∧ r.2.1 4 s = nI k ∧ r.2.1 5 s = nI n ∧ ∀ i, i < n → r.2.2 6 (256 * s + i) = f i) ∧
  ∀ s t q w k n a f k' n' f', s < 6 → t < 6 → z.2.2.1 0 s = some q → z.2.2.1 0 t = some w → ShAt z q k n a f → ShAt z w k' n' a f' → s = t
def PoolOK (o : Nat) (z : CS) : Prop := o + 64 ≤ cn z ∧ ∀ q x, cpl z q = some x → o + 64 ≤ q ∧ q < cn z
def WtR (z : CS) (r : RS) : Prop := ∃ w, w ≤ 100 ∧ z.1 1 = nI w ∧ r.1 1 = nI w ∧ ∀ k, k < w → z.2.1 0 k = r.2.1 7 k
def ScR (z : CS) (r : RS) : Prop := z.1 3 = r.1 2 ∧ z.1 0 = r.1 0 ∧ ((z.1 2 = -1 ∧ r.1 3 = -1 ∧ r.1 4 = -1) ∨ ∃ x y, x < 256 ∧ y < 256 ∧ z.1 2 = nI (x * 256 + y) ∧ r.1 3 = nI x ∧ r.1 4 = nI y)
def PwR (r : RS) : Prop := ∀ k, k ≤ 8 → r.2.1 11 k = nI (3 ^ k)
