/-! ===== form: the cubes that may be taken ===== -/
def okc (n : Nat) (g : Nat → Nat) (c : Nat) : Prop := ¬ ∃ y, y < 2 ^ n ∧ InC n c y ∧ g y = 0
def upc (c i : Nat) : Nat := c + (2 - dg c i) * 3 ^ i
theorem dg_up {c i : Nat} (h : dg c i ≠ 2) (j : Nat) : dg (upc c i) j = if j = i then 2 else dg c j := by
  have hp := p3 i
  have hl := dg_lt c i
  unfold upc
  have e2 : (c + (2 - dg c i) * 3 ^ i) / 3 ^ i = c / 3 ^ i + (2 - dg c i) := by rw [Nat.add_mul_div_right _ _ hp]
  by_cases h1 : j = i
  · rw [if_pos h1, h1]
    show (c + (2 - dg c i) * 3 ^ i) / 3 ^ i % 3 = 2
    rw [e2]
    have : c / 3 ^ i % 3 = dg c i := rfl
    generalize c / 3 ^ i = q at *
    omega
  · rw [if_neg h1]
    by_cases h2 : j < i
    · unfold dg
      have e : 3 ^ i = 3 ^ j * (3 * 3 ^ (i - 1 - j)) := by rw [← Nat.pow_succ', ← Nat.pow_add]; congr 1; omega
      rw [e, show (2 - c / (3 ^ j * (3 * 3 ^ (i - 1 - j))) % 3) * (3 ^ j * (3 * 3 ^ (i - 1 - j))) = 3 ^ j * (3 * ((2 - c / (3 ^ j * (3 * 3 ^ (i - 1 - j))) % 3) * 3 ^ (i - 1 - j))) by rw [Nat.mul_left_comm, Nat.mul_left_comm _ 3], Nat.add_mul_div_left _ _ (p3 j)]
      omega
    · obtain ⟨d, rfl⟩ : ∃ d, j = i + (1 + d) := ⟨j - i - 1, by omega⟩
      rw [← dg_div (c + (2 - dg c i) * 3 ^ i) i (1 + d), ← dg_div c i (1 + d), e2, ← dg_div (c / 3 ^ i + (2 - dg c i)) 1 d, ← dg_div (c / 3 ^ i) 1 d]
      congr 1
      have : c / 3 ^ i % 3 = dg c i := rfl
      rw [Nat.pow_one]
      generalize c / 3 ^ i = q at *
      omega
theorem up_lt {n c i : Nat} (h : dg c i ≠ 2) (hi : i < n) (hc : c < 3 ^ n) : upc c i < 3 ^ n := by
  have hl := dg_lt c i
  have e : 3 ^ n = 3 ^ i * (3 * 3 ^ (n - 1 - i)) := by rw [← Nat.pow_succ', ← Nat.pow_add]; congr 1; omega
  have q1 : c / 3 ^ i < 3 * 3 ^ (n - 1 - i) := by
    rw [Nat.div_lt_iff_lt_mul (p3 i), Nat.mul_comm, ← e]; exact hc
  have q2 : c / 3 ^ i % 3 = dg c i := rfl
  have q3 := Nat.div_add_mod c (3 ^ i)
  have q4 := Nat.mod_lt c (p3 i)
  have q5 : c / 3 ^ i + (2 - dg c i) + 1 ≤ 3 * 3 ^ (n - 1 - i) := by
    generalize c / 3 ^ i = q at *
    omega
  have q6 := Nat.mul_le_mul_left (3 ^ i) q5
  rw [← e, Nat.mul_add, Nat.mul_add, Nat.mul_one, Nat.mul_comm (3 ^ i) (2 - dg c i)] at q6
  unfold upc
  omega
theorem up_free {n c i : Nat} (h : dg c i ≠ 2) (hi : i < n) : nfree n c + 1 = nfree n (upc c i) := by
  have hl := dg_lt c i
  have e := dg_up h i
  rw [if_pos rfl] at e
  have := nfree_sub (n := n) (c := upc c i) (a := 2 - dg c i) hi e (by omega) (by omega)
  rw [show upc c i - (2 - dg c i) * 3 ^ i = c by unfold upc; omega] at this
  exact this
theorem up_in {n c i x : Nat} (h : dg c i ≠ 2) (hx : InC n c x) : InC n (upc c i) x := by
  intro j hj
  rw [dg_up h]
  by_cases e : j = i
  · rw [if_pos e]; exact Or.inl rfl
  · rw [if_neg e]; exact hx j hj
def wdc (n : Nat) (g : Nat → Nat) (c : Nat) : Prop := okc n g c ∧ ¬ ∃ i, i < n ∧ dg c i ≠ 2 ∧ okc n g (upc c i)
theorem wide_ex {n : Nat} {g : Nat → Nat} : ∀ (k c : Nat), n - nfree n c ≤ k → c < 3 ^ n → okc n g c → ∃ c', c' < 3 ^ n ∧ wdc n g c' ∧ ∀ x, InC n c x → InC n c' x := by
  intro k
  induction k with
  | zero =>
    intro c hk hc ok
    refine ⟨c, hc, ⟨ok, fun ⟨i, hi, hd, _⟩ => ?_⟩, fun _ h => h⟩
    have := up_free hd hi
    have := nfree_le n (upc c i)
    omega
  | succ k ih =>
    intro c hk hc ok
    by_cases w : ∃ i, i < n ∧ dg c i ≠ 2 ∧ okc n g (upc c i)
    · obtain ⟨i, hi, hd, ok'⟩ := w
      have := up_free hd hi
      obtain ⟨c', a1, a2, a3⟩ := ih (upc c i) (by omega) (up_lt hd hi hc) ok'
      exact ⟨c', a1, a2, fun x hx => a3 x (up_in hd hx)⟩
    · exact ⟨c, hc, ⟨ok, w⟩, fun _ h => h⟩
theorem p16 {n : Nat} (h : n ≤ 4) : 2 ^ n ≤ 16 := Nat.pow_le_pow_right (n := 2) (j := 4) (by omega) h
theorem p81 {n : Nat} (h : n ≤ 4) : 3 ^ n ≤ 81 := Nat.pow_le_pow_right (n := 3) (j := 4) (by omega) h
theorem IMc_16 {n : Nat} (h : n ≤ 4) (c : Nat) : IMc n c < 65536 := by
  have a := IMc_lt n c
  have b : 2 ^ 2 ^ n ≤ 2 ^ 16 := Nat.pow_le_pow_right (by omega) (p16 h)
  omega
theorem IMc_x {n c x : Nat} (hn : n ≤ 4) : bt (IMc n c) x = 1 ↔ x < 2 ^ n ∧ InC n c x := by
  by_cases hx : x < 2 ^ n
  · rw [IMc_bt hx, inB_in]
    exact ⟨fun h => ⟨hx, h⟩, fun h => h.2⟩
  · rw [bt_ge (IMc_lt n c) (by omega)]
    exact ⟨fun h => by omega, fun h => absurd h.1 hx⟩
/-- wide cubes are enough -/
theorem Cov_wide {n : Nat} {g : Nat → Nat} (hn : n ≤ 4) {k l : Nat} (hl : l < 65536) : Cov (wdc n g) (IMc n) (3 ^ n) k l ↔ Cov (okc n g) (IMc n) (3 ^ n) k l := by
  constructor
  · intro h
    exact SC_Cov k l hl (SC_mono (Cov_SC k l h) (fun c hc w => ⟨c, hc, w.1, fun _ _ q => q⟩))
  · intro h
    refine SC_Cov k l hl (SC_mono (Cov_SC k l h) (fun c hc ok => ?_))
    obtain ⟨c', a1, a2, a3⟩ := wide_ex n c (by omega) hc ok
    exact ⟨c', a1, a2, fun x _ q => (IMc_x hn).mpr ⟨((IMc_x hn).mp q).1, a3 x ((IMc_x hn).mp q).2⟩⟩
/-- the inputs that say yes -/
def Ym (n : Nat) (g : Nat → Nat) : Nat := nmF (fun x => if g x = 1 then 1 else 0) (2 ^ n)
theorem Ym_le (g : Nat → Nat) (N : Nat) : ∀ x, x < N → (fun x => if g x = 1 then 1 else 0) x ≤ 1 := fun x _ => by
  show (if g x = 1 then 1 else 0) ≤ 1
  split <;> omega
theorem Ym_16 {n : Nat} (h : n ≤ 4) (g : Nat → Nat) : Ym n g < 65536 := by
  have a := nmF_lt (Ym_le g (2 ^ n))
  have b : 2 ^ 2 ^ n ≤ 2 ^ 16 := Nat.pow_le_pow_right (by omega) (p16 h)
  unfold Ym
  omega
theorem Ym_x {n x : Nat} (g : Nat → Nat) : bt (Ym n g) x = 1 ↔ x < 2 ^ n ∧ g x = 1 := by
  by_cases hx : x < 2 ^ n
  · unfold Ym
    rw [nm_bt (Ym_le g (2 ^ n)) x hx]
    by_cases q : g x = 1
    · exact ⟨fun _ => ⟨hx, q⟩, fun _ => if_pos q⟩
    · refine ⟨fun w => ?_, fun w => absurd w.2 q⟩
      have : (if g x = 1 then 1 else 0) = 1 := w
      rw [if_neg q] at this
      omega
  · unfold Ym
    rw [bt_ge (nmF_lt (Ym_le g (2 ^ n))) (by omega)]
    exact ⟨fun h => by omega, fun h => absurd h.1 hx⟩
/-- sixteen cubes are always enough -/
theorem Cov_16 {n : Nat} {g : Nat → Nat} (hn : n ≤ 4) {l : Nat} (hl : l < 65536) (hY : ∀ x, x < 16 → bt l x = 1 → x < 2 ^ n ∧ g x = 1) : Cov (okc n g) (IMc n) (3 ^ n) 16 l := by
  have p := p16 hn
  have b1 : ∀ i, i < n → bt (2 ^ n - 1) i = 1 := fun i hi => by
    have := cpl_bt (n := n) (m := 0) (i := i) (by omega) (Nat.two_pow_pos n) hi
    rw [Nat.sub_zero, bt_z] at this
    exact this
  have pt : ∀ x y, y < 2 ^ n → x < 2 ^ n → InC n (cub x (2 ^ n - 1) n) y → y = x := fun x y hy hx h => bt_ext hy hx (fun j hj => cub_in.mp h j hj (b1 j hj))
  refine SC_Cov 16 l hl ⟨((List.range (2 ^ n)).filter (fun x => decide (bt l x = 1))).map (fun x => cub x (2 ^ n - 1) n), ?_, fun c hc => ?_, fun x hx hb => ?_⟩
  · rw [List.length_map]
    have := List.length_filter_le (fun x => decide (bt l x = 1)) (List.range (2 ^ n))
    rw [List.length_range] at this
    omega
  · obtain ⟨x, x1, rfl⟩ := List.mem_map.mp hc
    obtain ⟨x2, x3⟩ := List.mem_filter.mp x1
    have xl := List.mem_range.mp x2
    have xb := of_decide_eq_true x3
    refine ⟨(cub_ok x (2 ^ n - 1) n).1, fun ⟨y, y1, y2, y3⟩ => ?_⟩
    have := pt x y y1 xl y2
    rw [this, (hY x (by omega) xb).2] at y3
    omega
  · have xl := (hY x hx hb).1
    exact ⟨cub x (2 ^ n - 1) n, List.mem_map.mpr ⟨x, List.mem_filter.mpr ⟨List.mem_range.mpr xl, decide_eq_true hb⟩, rfl⟩, (IMc_x hn).mpr ⟨xl, cub_in.mpr (fun _ _ _ => rfl)⟩⟩
theorem neg_n {a : Nat} (h : a ≤ 4294967296) : -nI a = nI (4294967296 - a) := by
  have e : nI a + nI (4294967296 - a) = 0 := by
    rw [nI_add, show a + (4294967296 - a) = 4294967296 by omega]
    decide
  have e2 : -nI a + (nI a + nI (4294967296 - a)) = nI (4294967296 - a) := by
    rw [← Int32.add_assoc, Int32.add_left_neg, Int32.zero_add]
  rw [e, Int32.add_zero] at e2
  exact e2
theorem lw_n {l : Nat} (h : l < 65536) : nI l &&& -nI l = nI (lw l) := by
  rw [neg_n (by omega), nI_and]
  rfl
theorem df_n (l s : Nat) : nI l &&& (nI s ^^^ -nI 1) = nI (df l s) := by
  rw [show -nI 1 = nI 4294967295 by decide, nI_xor, nI_and]
  rfl
theorem shl16 : ∀ n, n < 17 → nI 1 <<< (nI n &&& nI 31) = nI (2 ^ n) := by decide
theorem inpR_nm (n c : Nat) : inpR n c = nmF (fun i => if dg c i = 1 then 1 else 0) n := by
  induction n with
  | zero => rfl
  | succ n ih =>
    show inpR n c + (if dg c n = 1 then 2 ^ n else 0) = nmF (fun i => if dg c i = 1 then 1 else 0) n + (if dg c n = 1 then 1 else 0) * 2 ^ n
    rw [ih]
    split
    · rw [Nat.one_mul]
    · rw [Nat.zero_mul]
theorem inpR_in (n c : Nat) : InC n c (inpR n c) := by
  intro i hi
  have hl := dg_lt c i
  rw [inpR_nm, nm_bt (fun x _ => by show (if dg c x = 1 then 1 else 0) ≤ 1; split <;> omega) i hi]
  show dg c i = 2 ∨ dg c i = if dg c i = 1 then 1 else 0
  by_cases e : dg c i = 1
  · rw [if_pos e]; exact Or.inr e
  · rw [if_neg e]; omega
theorem IMc_0 {n c : Nat} (hn : n ≤ 4) : IMc n c ≠ 0 := fun q => by
  have := (IMc_x (c := c) hn).mpr ⟨inpR_lt n c, inpR_in n c⟩
  rw [q, bt_z] at this
  omega
