/-! ===== form: masks of inputs, covers ===== -/
def inB (c x : Nat) : Nat → Nat
  | 0 => 1
  | i + 1 => if dg c i = 2 ∨ dg c i = bt x i then inB c x i else 0
theorem inB_le (c x n : Nat) : inB c x n ≤ 1 := by
  induction n with
  | zero => exact Nat.le_refl _
  | succ n ih => unfold inB; split; exact ih; omega
theorem inB_in (c x n : Nat) : inB c x n = 1 ↔ InC n c x := by
  induction n with
  | zero => exact ⟨fun _ i hi => by omega, fun _ => rfl⟩
  | succ n ih =>
    unfold inB
    by_cases h : dg c n = 2 ∨ dg c n = bt x n
    · rw [if_pos h, ih]
      constructor
      · intro w i hi
        by_cases e : i = n
        · rw [e]; exact h
        · exact w i (by omega)
      · exact fun w i hi => w i (by omega)
    · rw [if_neg h]
      exact ⟨fun w => by omega, fun w => absurd (w n (by omega)) h⟩
theorem nm_bt {g : Nat → Nat} {N : Nat} (h : ∀ x, x < N → g x ≤ 1) : ∀ x, x < N → bt (nmF g N) x = g x := by
  induction N with
  | zero => intro x hx; omega
  | succ N ih =>
    intro x hx
    have h' : ∀ x, x < N → g x ≤ 1 := fun x hx => h x (by omega)
    have lt := nmF_lt h'
    have gN := h N (by omega)
    show bt (nmF g N + g N * 2 ^ N) x = g x
    rw [Nat.add_comm]
    by_cases e : x = N
    · rw [e]
      rcases (show g N = 0 ∨ g N = 1 by omega) with c | c
      · rw [c, Nat.zero_mul, Nat.zero_add, bt_small lt]
      · rw [c, Nat.one_mul, bt_top lt]
    · rw [bt_low (by omega), ih h' x (by omega)]
def IMc (n c : Nat) : Nat := nmF (fun x => inB c x n) (2 ^ n)
theorem IMc_lt (n c : Nat) : IMc n c < 2 ^ 2 ^ n := nmF_lt (fun x _ => inB_le c x n)
theorem IMc_bt {n c x : Nat} (hx : x < 2 ^ n) : bt (IMc n c) x = inB c x n := nm_bt (fun x _ => inB_le c x n) x hx
def df (l s : Nat) : Nat := l &&& (s ^^^ 4294967295)
theorem bt_ones : ∀ j, j < 32 → bt 4294967295 j = 1 := by decide
theorem bt_df {l s j : Nat} (hj : j < 32) : bt (df l s) j = if bt l j = 1 ∧ bt s j = 0 then 1 else 0 := by
  unfold df
  rw [bt_and, bt_xor, bt_ones j hj]
  have h1 := bt_lt l j
  have h2 := bt_lt s j
  rcases (show bt s j = 0 ∨ bt s j = 1 by omega) with c | c <;> rw [c] <;> simp
theorem df_le (l s : Nat) : df l s ≤ l := Nat.and_le_left
def lw (l : Nat) : Nat := l &&& (4294967296 - l)
theorem lw_ck : allB (fun l => Nat.beq l 0 || (Nat.beq (2 ^ Nat.log2 (Nat.land l (4294967296 - l))) (Nat.land l (4294967296 - l)) && Nat.beq (l / 2 ^ Nat.log2 (Nat.land l (4294967296 - l)) % 2) 1 && Nat.ble (Nat.log2 (Nat.land l (4294967296 - l))) 15)) 65536 = true := by decide +kernel
theorem lw_ok {l : Nat} (h : l < 65536) (h0 : l ≠ 0) : ∃ i, i < 16 ∧ lw l = 2 ^ i ∧ bt l i = 1 := by
  have := allB_s lw_ck l h
  simp only [Bool.or_eq_true, Bool.and_eq_true] at this
  rcases this with q | ⟨⟨q1, q2⟩, q3⟩
  · exact absurd (Nat.eq_of_beq_eq_true q) h0
  · exact ⟨Nat.log2 (l &&& (4294967296 - l)), Nat.lt_succ_of_le (Nat.le_of_ble_eq_true q3), (Nat.eq_of_beq_eq_true q1).symm, Nat.eq_of_beq_eq_true q2⟩
theorem and_pow {m i : Nat} : m &&& 2 ^ i ≠ 0 ↔ bt m i = 1 := by
  have hp : bt (2 ^ i) i = 1 := by
    have := bt_top (l := 0) (i := i) (Nat.two_pow_pos i)
    rw [Nat.add_zero] at this
    exact this
  have hz : ∀ j, j ≠ i → bt (2 ^ i) j = 0 := by
    intro j hj
    rcases Nat.lt_or_ge j i with q | q
    · have := bt_low q 1 0
      rw [Nat.one_mul, Nat.add_zero] at this
      rw [this]
      unfold bt
      rw [Nat.zero_div]
    · exact bt_small (Nat.pow_lt_pow_right (by omega) (by omega))
  constructor
  · intro h
    by_cases c : bt m i = 1
    · exact c
    · exfalso
      apply h
      refine Nat.eq_of_testBit_eq (fun j => ?_)
      rw [tb_bt, bt_and, Nat.zero_testBit]
      by_cases e : j = i
      · rw [e, if_neg (fun w => c w.1)]; rfl
      · rw [if_neg (fun w => by rw [hz j e] at w; omega)]; rfl
  · intro h q
    have := bt_and m (2 ^ i) i
    rw [q, if_pos ⟨h, hp⟩] at this
    unfold bt at this
    rw [Nat.zero_div] at this
    omega
/-- so many cubes can have all inputs that are left -/
def Cov (P : Nat → Prop) (im : Nat → Nat) (K : Nat) : Nat → Nat → Prop
  | 0, l => l = 0
  | k + 1, l => l = 0 ∨ ∃ c, c < K ∧ P c ∧ im c &&& lw l ≠ 0 ∧ Cov P im K k (df l (im c))
def SC (P : Nat → Prop) (im : Nat → Nat) (K k l : Nat) : Prop := ∃ L : List Nat, L.length ≤ k ∧ (∀ c, c ∈ L → c < K ∧ P c) ∧ ∀ x, x < 16 → bt l x = 1 → ∃ c, c ∈ L ∧ bt (im c) x = 1
theorem zero_bt {l : Nat} (hl : l < 65536) (h : ∀ x, x < 16 → bt l x ≠ 1) : l = 0 := by
  refine bt_ext (n := 16) hl (by omega) (fun j hj => ?_)
  have := h j hj
  have := bt_lt l j
  have z : bt 0 j = 0 := by unfold bt; rw [Nat.zero_div]
  omega
theorem bt_z (j : Nat) : bt 0 j = 0 := by unfold bt; rw [Nat.zero_div]
theorem Cov_SC {P : Nat → Prop} {im : Nat → Nat} {K : Nat} : ∀ k l, Cov P im K k l → SC P im K k l := by
  intro k
  induction k with
  | zero =>
    intro l h
    have h' : l = 0 := h
    exact ⟨[], Nat.le_refl _, fun c hc => (by cases hc), fun x _ hx => by rw [h', bt_z] at hx; omega⟩
  | succ k ih =>
    intro l h
    rcases h with h | ⟨c, c1, c2, c3, c4⟩
    · exact ⟨[], Nat.zero_le _, fun c hc => (by cases hc), fun x _ hx => by rw [h, bt_z] at hx; omega⟩
    · obtain ⟨L, l1, l2, l3⟩ := ih _ c4
      refine ⟨c :: L, by simpa using l1, fun d hd => ?_, fun x hx hb => ?_⟩
      · rcases List.mem_cons.mp hd with e | e
        · rw [e]; exact ⟨c1, c2⟩
        · exact l2 d e
      · have := bt_lt (im c) x
        by_cases e : bt (im c) x = 1
        · exact ⟨c, List.mem_cons_self, e⟩
        · obtain ⟨d, d1, d2⟩ := l3 x hx (by rw [bt_df (by omega), if_pos ⟨hb, by omega⟩])
          exact ⟨d, List.mem_cons_of_mem _ d1, d2⟩
theorem SC_Cov {P : Nat → Prop} {im : Nat → Nat} {K : Nat} : ∀ k l, l < 65536 → SC P im K k l → Cov P im K k l := by
  intro k
  induction k with
  | zero =>
    intro l hl ⟨L, l1, l2, l3⟩
    have : L = [] := List.eq_nil_of_length_eq_zero (by omega)
    subst this
    exact zero_bt hl (fun x hx hb => by obtain ⟨c, c1, _⟩ := l3 x hx hb; cases c1)
  | succ k ih =>
    intro l hl ⟨L, l1, l2, l3⟩
    by_cases h0 : l = 0
    · exact Or.inl h0
    · right
      obtain ⟨i, i1, i2, i3⟩ := lw_ok hl h0
      obtain ⟨c, c1, c2⟩ := l3 i i1 i3
      obtain ⟨k1, k2⟩ := l2 c c1
      refine ⟨c, k1, k2, by rw [i2]; exact and_pow.mpr c2, ih _ (by have := df_le l (im c); omega) ⟨L.erase c, ?_, fun d hd => l2 d (List.mem_of_mem_erase hd), fun x hx hb => ?_⟩⟩
      · rw [List.length_erase_of_mem c1]; omega
      · rw [bt_df (by omega)] at hb
        have hb' : bt l x = 1 ∧ bt (im c) x = 0 := by
          by_cases q : bt l x = 1 ∧ bt (im c) x = 0
          · exact q
          · rw [if_neg q] at hb; omega
        obtain ⟨d, d1, d2⟩ := l3 x hx hb'.1
        refine ⟨d, (List.mem_erase_of_ne (fun e => ?_)).mpr d1, d2⟩
        rw [e] at d2
        omega
theorem SC_mono {P P' : Nat → Prop} {im : Nat → Nat} {K k l : Nat} (h : SC P im K k l) (hw : ∀ c, c < K → P c → ∃ c', c' < K ∧ P' c' ∧ ∀ x, x < 16 → bt (im c) x = 1 → bt (im c') x = 1) : SC P' im K k l := by
  obtain ⟨L, l1, l2, l3⟩ := h
  have key : ∀ M : List Nat, (∀ c, c ∈ M → c < K ∧ P c) → ∃ M' : List Nat, M'.length = M.length ∧ (∀ c, c ∈ M' → c < K ∧ P' c) ∧ ∀ x, x < 16 → (∃ c, c ∈ M ∧ bt (im c) x = 1) → ∃ c, c ∈ M' ∧ bt (im c) x = 1 := by
    intro M
    induction M with
    | nil => intro _; exact ⟨[], rfl, fun c hc => (by cases hc), fun x _ h => by obtain ⟨c, hc, _⟩ := h; cases hc⟩
    | cons a M ih =>
      intro hM
      obtain ⟨M', m1, m2, m3⟩ := ih (fun c hc => hM c (List.mem_cons_of_mem _ hc))
      obtain ⟨a1, a2⟩ := hM a List.mem_cons_self
      obtain ⟨a', b1, b2, b3⟩ := hw a a1 a2
      refine ⟨a' :: M', by simp [m1], fun c hc => ?_, fun x hx h => ?_⟩
      · rcases List.mem_cons.mp hc with e | e
        · rw [e]; exact ⟨b1, b2⟩
        · exact m2 c e
      · obtain ⟨c, c1, c2⟩ := h
        rcases List.mem_cons.mp c1 with e | e
        · rw [e] at c2; exact ⟨a', List.mem_cons_self, b3 x hx c2⟩
        · obtain ⟨d, d1, d2⟩ := m3 x hx ⟨c, e, c2⟩
          exact ⟨d, List.mem_cons_of_mem _ d1, d2⟩
  obtain ⟨L', m1, m2, m3⟩ := key L l2
  exact ⟨L', by omega, m2, fun x hx hb => m3 x hx (l3 x hx hb)⟩
theorem Cov_up {P : Nat → Prop} {im : Nat → Nat} {K k k' l : Nat} (hl : l < 65536) (h : Cov P im K k l) (hk : k ≤ k') : Cov P im K k' l := by
  obtain ⟨L, l1, l2, l3⟩ := Cov_SC k l h
  exact SC_Cov k' l hl ⟨L, by omega, l2, l3⟩
/-- the least number of cubes for what is left -/
def IsMin (P : Nat → Prop) (im : Nat → Nat) (K l k : Nat) : Prop := Cov P im K k l ∧ ∀ j, j < k → ¬ Cov P im K j l
theorem IsMin_u {P : Nat → Prop} {im : Nat → Nat} {K l k k' : Nat} (h : IsMin P im K l k) (h' : IsMin P im K l k') : k = k' := by
  rcases Nat.lt_trichotomy k k' with q | q | q
  · exact absurd h.1 (h'.2 k q)
  · exact q
  · exact absurd h'.1 (h.2 k' q)
