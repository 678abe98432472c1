/-! ===== cubes: digits, what they hold, weights ===== -/
def dg (c i : Nat) : Nat := c / 3 ^ i % 3
/-- the INPUT of a cube all of whose digits are values -/
def inp : Nat → Nat → Nat
  | 0, _ => 0
  | n + 1, c => inp n c + dg c n * 2 ^ n
/-- the highest digit without a value -/
def top : Nat → Nat → Option Nat
  | 0, _ => none
  | n + 1, c => if dg c n = 2 then some n else top n c
def nfree : Nat → Nat → Nat
  | 0, _ => 0
  | n + 1, c => nfree n c + if dg c n = 2 then 1 else 0
def hv (v : Nat) : Nat := if v = 0 then 1 else if v = 1 then 2 else 0
def hasF (n : Nat) (g : Nat → Nat) : Nat → Nat → Nat
  | 0, _ => 0
  | k + 1, c => match top n c with
    | none => hv (g (inp n c))
    | some i => hasF n g k (c - 3 ^ i) ||| hasF n g k (c - 2 * 3 ^ i)
def hasT (n : Nat) (g : Nat → Nat) (c : Nat) : Nat := hasF n g (c + 1) c
/-- the least over the digits without a value, below a million -/
def bestF : Nat → (Nat → Nat) → Nat → Nat
  | 0, _, _ => 1000000
  | i + 1, w, c => if dg c i = 2 then min (bestF i w c) (w i) else bestF i w c
def comb (bs : Bool) (x y : Nat) : Nat := if bs then x + y else max x y
def ownW (bs : Bool) (n c : Nat) : Nat := if bs then 2 ^ nfree n c else 1
def wF (n : Nat) (g : Nat → Nat) (bs : Bool) : Nat → Nat → Nat
  | 0, _ => 0
  | k + 1, c => if hasT n g c = 3 then bestF n (fun i => comb bs (wF n g bs k (c - 2 * 3 ^ i)) (wF n g bs k (c - 3 ^ i))) c + ownW bs n c else 0
def wT (n : Nat) (g : Nat → Nat) (bs : Bool) (c : Nat) : Nat := wF n g bs (c + 1) c
/-! letters of the tasks of three bits -/
def LTn : Nat := 2244363981159924998080186828415776634000309439800108642725291697563552736464684529795896906660469214346836397558749224676624474550984058618707094681263208124835039164223962547256730770390866066067514625041827764746853831144387997735051866232038007712951666125503182612617884731670108662638117396258740183856
def LT (t : Nat) : Nat := LTn / 16 ^ t % 16
/-! ===== the rest of the relation ===== -/
def CuR (z : CS) (j h w b a : Nat) : Prop := ∀ q, z.2.2.2.1 j = some q → ∃ (n : Nat) (kd wt : Int32) (g : Nat → Nat) (bs : Bool), TkAt z q n kd wt g ∧ z.1 a = nI (3 ^ n - 1) ∧ z.1 b = (if bs then 1 else 0) ∧ ∀ c, c < 3 ^ n → z.2.1 h c = nI (hasT n g c) ∧ z.2.1 w c = nI (wT n g bs c)
def GaR (z : CS) (r : RS) : Prop := (z.1 12 = 0 ∧ r.1 8 = 0) ∨ ∃ (q n : Nat) (kd wt : Int32) (g : Nat → Nat) (c A : Nat), z.2.2.2.1 1 = some q ∧ TkAt z q n kd wt g ∧ z.1 15 = 0 ∧ z.1 12 = nI n ∧ r.1 8 = nI n ∧ c < 3 ^ n ∧ A < 2 ^ n ∧ z.1 14 = nI c ∧ r.1 9 = nI c ∧ z.1 13 = nI A ∧ (∀ i, i < n → (A.testBit i = true ↔ dg c i ≠ 2)) ∧ ∀ d, d < 3 ^ n → r.2.1 30 d = nI (hasT n g d) ∧ r.2.1 29 d = nI (wT n g false d)
def NdR (N : Nat) (sg ah be says looks ze on : Nat → Int32) (k : Nat) : Prop := ∃ s d, sg k = nI s ∧ says k = nI s ∧ ah k = nI d ∧ looks k = nI d ∧ d ≤ 8 ∧
  ((s < 8 ∧ ze k = nI (k + 1) ∧ ∃ m, k + 1 < m ∧ m < N ∧ be (k + 1) = nI m ∧ on k = nI m ∧ ah (k + 1) = nI (d + 1) ∧ ah m = nI (d + 1)) ∨ (20 ≤ s ∧ s ≤ 22 ∧ ze k = -1 ∧ on k = -1))
def TrR (z : CS) (r : RS) : Prop := ∃ N, N ≤ 511 ∧ z.1 6 = nI N ∧ r.1 5 = nI N ∧ (0 < N → z.2.1 4 0 = 0) ∧ ∀ k, k < N → NdR N (z.2.1 3) (z.2.1 4) (z.2.1 5) (r.2.1 16) (r.2.1 17) (r.2.1 18) (r.2.1 19) k
def FoR (z : CS) (r : RS) : Prop := ∃ m, m ≤ 16 ∧ z.1 9 = nI m ∧ r.1 7 = nI m ∧ ∀ k, k < m → z.2.1 13 k = r.2.1 26 k
def LeR (z : CS) : Prop := z.1 11 = 0 ∨ (z.1 11 = 1 ∧ ∀ t, t < 256 → z.2.1 16 t = nI (LT t))
def Sim (o : Nat) (z : CS) (r : RS) : Prop := PoolOK o z ∧ ShR z r ∧ PlR z r 1 0 ∧ PlR z r 2 8 ∧ WtR z r ∧ ScR z r ∧ PwR r ∧ TrR z r ∧ FoR z r ∧ LeR z ∧ CuR z 0 1 2 4 5 ∧ CuR z 1 17 18 15 16 ∧ GaR z r
theorem Sim_start (o : Nat) : Sim o (cs0 o) rs0 := by
  refine ⟨⟨Nat.le_refl _, fun q x h => (by cases h)⟩, ⟨fun s hs => ⟨fun _ => ?_, fun q h => (by cases h)⟩, fun s t q w k n a f k' n' f' _ _ h => (by cases h)⟩, fun p _ => ⟨fun _ => rfl, fun q h => (by cases h)⟩, fun p _ => ⟨fun _ => rfl, fun q h => (by cases h)⟩, ⟨0, by omega, rfl, rfl, fun k h => by omega⟩, ⟨rfl, rfl, Or.inl ⟨rfl, rfl, rfl⟩⟩, fun k hk => ?_, ⟨0, by omega, rfl, rfl, fun h => by omega, fun k h => by omega⟩, ⟨0, by omega, rfl, rfl, fun k h => by omega⟩, Or.inl rfl, fun q h => (by cases h), fun q h => (by cases h), Or.inl ⟨rfl, rfl⟩⟩
  · rcases (show s = 0 ∨ s = 1 ∨ s = 2 ∨ s = 3 ∨ s = 4 ∨ s = 5 by omega) with rfl | rfl | rfl | rfl | rfl | rfl <;> rfl
  · rcases (show k = 0 ∨ k = 1 ∨ k = 2 ∨ k = 3 ∨ k = 4 ∨ k = 5 ∨ k = 6 ∨ k = 7 ∨ k = 8 by omega) with rfl | rfl | rfl | rfl | rfl | rfl | rfl | rfl | rfl <;> rfl
/-- one more finding is counted on both sides -/
theorem Sim_met {o : Nat} {z : CS} {r : RS} (h : Sim o z r) : Sim o (cI z 3 (z.1 3 + 1)) (rI r 2 (r.1 2 + 1)) := by
  obtain ⟨h1, h2, h3, h4, h5, h6, h7, h8, h9, h10, h11, h12, h13⟩ := h
  refine ⟨h1, h2, h3, h4, h5, ⟨?_, h6.2.1, h6.2.2⟩, h7, h8, h9, h10, h11, h12, h13⟩
  show z.1 3 + 1 = r.1 2 + 1
  rw [h6.1]
