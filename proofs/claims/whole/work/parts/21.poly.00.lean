/-! ===== sums of products: transforms bit by bit ===== -/
def sumI (f : Nat → Int32) : Nat → Int32
  | 0 => 0
  | N + 1 => sumI f N + f N
theorem sumI_congr {f g : Nat → Int32} {N : Nat} (h : ∀ l, l < N → f l = g l) : sumI f N = sumI g N := by
  induction N with
  | zero => rfl
  | succ N ih =>
    show sumI f N + f N = sumI g N + g N
    rw [ih (fun l hl => h l (by omega)), h N (by omega)]
theorem sumI_add (f : Nat → Int32) (a b : Nat) : sumI f (a + b) = sumI f a + sumI (fun l => f (a + l)) b := by
  induction b with
  | zero => exact (Int32.add_zero _).symm
  | succ b ih =>
    show sumI f (a + b) + f (a + b) = _ + (sumI (fun l => f (a + l)) b + f (a + b))
    rw [ih, Int32.add_assoc]
theorem sumI_mul (c : Int32) (f : Nat → Int32) (N : Nat) : sumI (fun l => c * f l) N = c * sumI f N := by
  induction N with
  | zero => exact (Int32.mul_zero).symm
  | succ N ih =>
    show sumI (fun l => c * f l) N + c * f N = c * (sumI f N + f N)
    rw [ih, Int32.mul_add]
theorem sumI_zero {f : Nat → Int32} {N : Nat} (h : ∀ l, l < N → f l = 0) : sumI f N = 0 := by
  induction N with
  | zero => rfl
  | succ N ih =>
    show sumI f N + f N = 0
    rw [ih (fun l hl => h l (by omega)), h N (by omega)]
    rfl
def bt (x i : Nat) : Nat := x / 2 ^ i % 2
theorem bt_lt (x i : Nat) : bt x i < 2 := Nat.mod_lt _ (by omega)
def hib (x i : Nat) : Nat := x / 2 ^ i * 2 ^ i
theorem bt_small {l i : Nat} (h : l < 2 ^ i) : bt l i = 0 := by
  unfold bt
  rw [Nat.div_eq_of_lt h]
theorem bt_top {l i : Nat} (h : l < 2 ^ i) : bt (2 ^ i + l) i = 1 := by
  unfold bt
  rw [Nat.add_comm, Nat.add_div_right _ (Nat.two_pow_pos i), Nat.div_eq_of_lt h]
theorem bt_low {i j : Nat} (h : j < i) (q l : Nat) : bt (q * 2 ^ i + l) j = bt l j := by
  unfold bt
  have e : 2 ^ i = 2 ^ j * (2 * 2 ^ (i - 1 - j)) := by rw [← Nat.pow_succ', ← Nat.pow_add]; congr 1; omega
  rw [e, show q * (2 ^ j * (2 * 2 ^ (i - 1 - j))) + l = l + 2 ^ j * (2 * (q * 2 ^ (i - 1 - j))) by
    rw [Nat.add_comm, Nat.mul_left_comm q, Nat.mul_left_comm q], Nat.add_mul_div_left _ _ (Nat.two_pow_pos j)]
  omega
/-- x without its bit i, split -/
theorem spl (x i : Nat) : x - bt x i * 2 ^ i = x / 2 ^ (i + 1) * 2 ^ (i + 1) + x % 2 ^ i := by
  have h1 := Nat.div_add_mod x (2 ^ i)
  have h2 := Nat.div_add_mod (x / 2 ^ i) 2
  rw [Nat.div_div_eq_div_mul, ← Nat.pow_succ] at h2
  unfold bt
  have h3 : 2 ^ i * (x / 2 ^ i) = x / 2 ^ (i + 1) * 2 ^ (i + 1) + x / 2 ^ i % 2 * 2 ^ i := by
    conv => lhs; rw [← h2]
    rw [Nat.mul_add, Nat.mul_comm (2 ^ i) (x / 2 ^ i % 2), Nat.pow_succ, Nat.mul_comm (2 ^ i) (2 * _), Nat.mul_comm 2, Nat.mul_assoc, Nat.mul_comm 2 (2 ^ i)]
  omega
theorem hib_0 (x i : Nat) : hib (x - bt x i * 2 ^ i) i = hib x (i + 1) := by
  have hm := Nat.mod_lt x (Nat.two_pow_pos i)
  rw [spl]
  unfold hib
  rw [Nat.pow_succ, show x / (2 ^ i * 2) * (2 ^ i * 2) + x % 2 ^ i = x % 2 ^ i + 2 ^ i * (x / (2 ^ i * 2) * 2) by
    rw [Nat.add_comm, Nat.mul_left_comm, Nat.mul_comm (2 ^ i)], Nat.add_mul_div_left _ _ (Nat.two_pow_pos i), Nat.div_eq_of_lt hm, Nat.zero_add, Nat.mul_assoc, Nat.mul_comm 2]
theorem hib_1 (x i : Nat) : hib (x - bt x i * 2 ^ i + 2 ^ i) i = hib x (i + 1) + 2 ^ i := by
  rw [← hib_0]
  unfold hib
  rw [Nat.add_div_right _ (Nat.two_pow_pos i), Nat.succ_mul]
theorem bt_0 (x i j : Nat) (h : j < i) : bt (x - bt x i * 2 ^ i) j = bt x j := by
  have e : x = x / 2 ^ i * 2 ^ i + x % 2 ^ i := by rw [Nat.mul_comm]; exact (Nat.div_add_mod x (2 ^ i)).symm
  rw [spl, bt_low (i := i + 1) (by omega)]
  conv => rhs; rw [e]
  rw [bt_low h]
theorem bt_1 (x i j : Nat) (h : j < i) : bt (x - bt x i * 2 ^ i + 2 ^ i) j = bt x j := by
  rw [Nat.add_comm, ← Nat.one_mul (2 ^ i), bt_low h, Nat.one_mul, bt_0 x i j h]
def CC (K : Nat → Nat → Int32) : Nat → Nat → Nat → Int32
  | 0, _, _ => 1
  | i + 1, x, l => K (bt x i) (bt l i) * CC K i x l
def AA (K : Nat → Nat → Int32) (f : Nat → Int32) : Nat → Nat → Int32
  | 0, x => f x
  | i + 1, x => K (bt x i) 0 * AA K f i (x - bt x i * 2 ^ i) + K (bt x i) 1 * AA K f i (x - bt x i * 2 ^ i + 2 ^ i)
theorem CC_congr (K : Nat → Nat → Int32) {i x x' l l' : Nat} (h : ∀ j, j < i → bt x j = bt x' j) (h' : ∀ j, j < i → bt l j = bt l' j) : CC K i x l = CC K i x' l' := by
  induction i with
  | zero => rfl
  | succ i ih =>
    show K (bt x i) (bt l i) * CC K i x l = K (bt x' i) (bt l' i) * CC K i x' l'
    rw [h i (by omega), h' i (by omega), ih (fun j hj => h j (by omega)) (fun j hj => h' j (by omega))]
theorem AA_eq (K : Nat → Nat → Int32) (f : Nat → Int32) (i x : Nat) : AA K f i x = sumI (fun l => CC K i x l * f (hib x i + l)) (2 ^ i) := by
  induction i generalizing x with
  | zero =>
    show f x = 0 + 1 * f (x / 1 * 1 + 0)
    rw [Nat.div_one, Nat.mul_one, Nat.add_zero, Int32.one_mul, Int32.zero_add]
  | succ i ih =>
    show K (bt x i) 0 * AA K f i (x - bt x i * 2 ^ i) + K (bt x i) 1 * AA K f i (x - bt x i * 2 ^ i + 2 ^ i) = _
    rw [ih, ih, ← sumI_mul, ← sumI_mul, hib_0, hib_1, Nat.pow_succ, Nat.mul_two, sumI_add]
    congr 1
    · refine sumI_congr (fun l hl => ?_)
      show K (bt x i) 0 * (CC K i (x - bt x i * 2 ^ i) l * _) = K (bt x i) (bt l i) * CC K i x l * _
      rw [bt_small hl, Int32.mul_assoc, CC_congr K (fun j hj => bt_0 x i j hj) (fun j _ => rfl)]
    · refine sumI_congr (fun l hl => ?_)
      show K (bt x i) 1 * (CC K i (x - bt x i * 2 ^ i + 2 ^ i) l * _) = K (bt x i) (bt (2 ^ i + l) i) * CC K i x (2 ^ i + l) * _
      rw [bt_top hl, Int32.mul_assoc, CC_congr K (fun j hj => bt_1 x i j hj) (l' := 2 ^ i + l) (fun j hj => by rw [← Nat.one_mul (2 ^ i), bt_low hj]), Nat.add_assoc]
theorem hib_n {x n : Nat} (h : x < 2 ^ n) : hib x n = 0 := by
  unfold hib
  rw [Nat.div_eq_of_lt h, Nat.zero_mul]
theorem AA_n (K : Nat → Nat → Int32) (f : Nat → Int32) {n x : Nat} (h : x < 2 ^ n) : AA K f n x = sumI (fun l => CC K n x l * f l) (2 ^ n) := by
  rw [AA_eq, hib_n h]
  refine sumI_congr (fun l _ => ?_)
  rw [Nat.zero_add]
def Kp (b c : Nat) : Int32 := if b = 1 then (if c = 1 then 1 else -1) else (if c = 1 then 0 else 1)
def Ks (b c : Nat) : Int32 := if b = 1 ∧ c = 1 then -1 else 1
def subB (i x y : Nat) : Prop := ∀ j, j < i → bt y j = 1 → bt x j = 1
def sg1 (k : Nat) : Int32 := if k % 2 = 0 then 1 else -1
theorem sg1_s (k : Nat) : sg1 (k + 1) = -1 * sg1 k := by
  unfold sg1
  rcases Nat.mod_two_eq_zero_or_one k with h | h
  · rw [if_pos h, if_neg (show ¬ (k + 1) % 2 = 0 by omega)]; rfl
  · rw [if_pos (show (k + 1) % 2 = 0 by omega), if_neg (show ¬ k % 2 = 0 by omega)]; rfl
theorem CCp_no {i x y : Nat} (h : ¬ subB i x y) : CC Kp i x y = 0 := by
  induction i with
  | zero => exact absurd (fun j hj => by omega) h
  | succ i ih =>
    show Kp (bt x i) (bt y i) * CC Kp i x y = 0
    by_cases h1 : subB i x y
    · have : bt y i = 1 ∧ ¬ bt x i = 1 := by
        by_cases a : bt y i = 1
        · refine ⟨a, fun b => h (fun j hj hy => ?_)⟩
          by_cases e : j = i
          · rw [e]; exact b
          · exact h1 j (by omega) hy
        · exact absurd (fun j hj hy => by
            by_cases e : j = i
            · rw [e] at hy; exact absurd hy a
            · exact h1 j (by omega) hy) h
      unfold Kp
      rw [if_neg this.2, if_pos this.1, Int32.zero_mul]
    · rw [ih h1, Int32.mul_zero]
theorem CCp_yes {i x y : Nat} (h : subB i x y) : pop9 y i ≤ pop9 x i ∧ CC Kp i x y = sg1 (pop9 x i - pop9 y i) := by
  induction i with
  | zero => exact ⟨Nat.le_refl _, rfl⟩
  | succ i ih =>
    obtain ⟨h1, h2⟩ := ih (fun j hj => h j (by omega))
    have hi := h i (by omega)
    have bx := bt_lt x i
    have by' := bt_lt y i
    have ex : pop9 x (i + 1) = pop9 x i + bt x i := rfl
    have ey : pop9 y (i + 1) = pop9 y i + bt y i := rfl
    refine ⟨by omega, ?_⟩
    show Kp (bt x i) (bt y i) * CC Kp i x y = _
    rw [h2, ex, ey]
    by_cases a : bt y i = 1
    · rw [a, hi a, show Kp 1 1 = 1 from rfl, Int32.one_mul]
      congr 1
      omega
    · have a0 : bt y i = 0 := by omega
      rcases (show bt x i = 0 ∨ bt x i = 1 by omega) with b | b
      · rw [a0, b, show Kp 0 0 = 1 from rfl, Int32.one_mul]
        rfl
      · rw [a0, b, show Kp 1 0 = -1 from rfl, ← sg1_s]
        congr 1
        omega
theorem tb_bt (x i : Nat) : x.testBit i = decide (bt x i = 1) := Nat.testBit_eq_decide_div_mod_eq
theorem bt_and (x y j : Nat) : bt (x &&& y) j = if bt x j = 1 ∧ bt y j = 1 then 1 else 0 := by
  have h := Nat.testBit_and x y j
  rw [tb_bt, tb_bt, tb_bt] at h
  have := bt_lt (x &&& y) j
  by_cases c : bt x j = 1 ∧ bt y j = 1
  · rw [if_pos c]
    rw [decide_eq_true c.1, decide_eq_true c.2] at h
    exact of_decide_eq_true h
  · rw [if_neg c]
    have : ¬ bt (x &&& y) j = 1 := fun w => by
      rw [decide_eq_true w] at h
      have h' := h.symm
      rw [Bool.and_eq_true] at h'
      exact c ⟨of_decide_eq_true h'.1, of_decide_eq_true h'.2⟩
    omega
theorem CCs_eq (i x y : Nat) : CC Ks i x y = sg1 (pop9 (x &&& y) i) := by
  induction i with
  | zero => rfl
  | succ i ih =>
    show Ks (bt x i) (bt y i) * CC Ks i x y = _
    have e : pop9 (x &&& y) (i + 1) = pop9 (x &&& y) i + bt (x &&& y) i := rfl
    rw [ih, e, bt_and]
    unfold Ks
    by_cases c : bt x i = 1 ∧ bt y i = 1
    · rw [if_pos c, if_pos c, ← sg1_s]
    · rw [if_neg c, if_neg c, Int32.one_mul]
      rfl
theorem bt_ge {x n j : Nat} (h : x < 2 ^ n) (hj : n ≤ j) : bt x j = 0 := bt_small (Nat.lt_of_lt_of_le h (Nat.pow_le_pow_right (by omega) hj))
theorem pop9_ext {x n : Nat} (h : x < 2 ^ n) (k : Nat) : pop9 x (n + k) = pop9 x n := by
  induction k with
  | zero => rfl
  | succ k ih =>
    show pop9 x (n + k) + bt x (n + k) = _
    rw [ih, bt_ge h (by omega)]
    rfl
theorem sub_and {n x y : Nat} (hy : y < 2 ^ n) : subB n x y ↔ y &&& x = y := by
  constructor
  · intro h
    refine Nat.eq_of_testBit_eq (fun j => ?_)
    rw [Nat.testBit_and, tb_bt, tb_bt]
    by_cases c : bt y j = 1
    · have : j < n := by
        by_cases hj : j < n
        · exact hj
        · rw [bt_ge hy (by omega)] at c; omega
      rw [decide_eq_true c, decide_eq_true (h j this c)]; rfl
    · rw [decide_eq_false c]; rfl
  · intro h j _ hj
    have := bt_and y x j
    rw [h, hj] at this
    by_cases c : bt x j = 1
    · exact c
    · rw [if_neg (fun w => c w.2)] at this; omega
theorem and_not {x y : Nat} (hx : x < 256) (hy : y < 256) : (nI y &&& (nI x ^^^ -nI 1) = nI 0) ↔ y &&& x = y := by
  have e : -nI 1 = nI 4294967295 := by decide
  have l : y &&& (x ^^^ 4294967295) ≤ y := Nat.and_le_left
  rw [e, nI_xor, nI_and, nI_eq (by omega) (by omega)]
  have hM : ∀ j, j < 32 → Nat.testBit 4294967295 j = true := by decide
  constructor
  · intro h
    refine Nat.eq_of_testBit_eq (fun j => ?_)
    have h' := congrArg (fun v => Nat.testBit v j) h
    simp only [Nat.testBit_and, Nat.testBit_xor, Nat.zero_testBit] at h'
    rw [Nat.testBit_and]
    by_cases c : bt y j = 1
    · have hj : j < 32 := by
        by_cases hj : j < 32
        · exact hj
        · rw [bt_ge (n := 8) hy (by omega)] at c; omega
      rw [hM j hj, tb_bt y, decide_eq_true c] at h'
      rw [tb_bt y, decide_eq_true c]
      cases hx : x.testBit j with
      | true => rfl
      | false => rw [hx] at h'; exact absurd h' (by decide)
    · rw [tb_bt y, decide_eq_false c]; rfl
  · intro h
    refine Nat.eq_of_testBit_eq (fun j => ?_)
    simp only [Nat.testBit_and, Nat.testBit_xor, Nat.zero_testBit]
    by_cases c : bt y j = 1
    · have hj : j < 32 := by
        by_cases hj : j < 32
        · exact hj
        · rw [bt_ge (n := 8) hy (by omega)] at c; omega
      have h2 := (sub_and (n := 8) (x := x) hy).mpr h
      have hj8 : j < 8 := by
        by_cases hj : j < 8
        · exact hj
        · rw [bt_ge (n := 8) hy (by omega)] at c; omega
      rw [hM j hj, tb_bt x, decide_eq_true (h2 j hj8 c)]
      cases y.testBit j <;> rfl
    · rw [tb_bt y, decide_eq_false c]; rfl
