/-! ===== sets of bits ===== -/
theorem bt_xor (x y j : Nat) : bt (x ^^^ y) j = if bt x j = bt y j then 0 else 1 := by
  have h := Nat.testBit_xor x y j
  rw [tb_bt, tb_bt, tb_bt] at h
  have h1 := bt_lt (x ^^^ y) j
  have h2 := bt_lt x j
  have h3 := bt_lt y j
  rcases (show bt x j = 0 ∨ bt x j = 1 by omega) with a | a <;> rcases (show bt y j = 0 ∨ bt y j = 1 by omega) with b | b <;> rw [a, b] at h ⊢ <;> rcases (show bt (x ^^^ y) j = 0 ∨ bt (x ^^^ y) j = 1 by omega) with c | c <;> rw [c] at h ⊢ <;> simp at h <;> rfl
theorem bt_ext {x y n : Nat} (hx : x < 2 ^ n) (hy : y < 2 ^ n) (h : ∀ j, j < n → bt x j = bt y j) : x = y := by
  refine Nat.eq_of_testBit_eq (fun j => ?_)
  rw [tb_bt, tb_bt]
  by_cases hj : j < n
  · rw [h j hj]
  · rw [bt_ge hx (by omega), bt_ge hy (by omega)]
theorem sub_ck : allB (fun s => allB (fun t => !(Nat.beq (Nat.land t s) t) || (Nat.beq (Nat.xor s t) (s - t) && Nat.beq (pop (s - t) + pop t) (pop s) && Nat.beq (Nat.land s (Nat.xor t 4294967295)) (s - t))) 256) 256 = true := by decide +kernel
theorem sub_x {s t : Nat} (hs : s < 256) (ht : t < 256) (h : t &&& s = t) : s ^^^ t = s - t ∧ pop (s - t) + pop t = pop s ∧ s &&& (t ^^^ 4294967295) = s - t ∧ t ≤ s := by
  have := allB_s (allB_s sub_ck s hs) t ht
  simp only [Bool.or_eq_true, Bool.and_eq_true, Bool.not_eq_true'] at this
  rcases this with q | q
  · rw [show Nat.land t s = t from h] at q; simp at q
  · exact ⟨Nat.eq_of_beq_eq_true q.1.1, Nat.eq_of_beq_eq_true q.1.2, Nat.eq_of_beq_eq_true q.2, by rw [← h]; exact Nat.and_le_right⟩
theorem sub_tr {s t u : Nat} (h : t &&& s = t) (h' : s &&& u = s) : t &&& u = t := by
  conv => lhs; rw [← h]
  rw [Nat.and_assoc, h', h]
theorem sub_rf (s : Nat) : s &&& s = s := Nat.and_self s
theorem sub_bt {n s t : Nat} (ht : t < 2 ^ n) : t &&& s = t ↔ ∀ j, j < n → bt t j = 1 → bt s j = 1 := (sub_and (x := s) ht).symm
/-- what is taken off -/
theorem bt_sub {s t : Nat} (hs : s < 256) (ht : t < 256) (h : t &&& s = t) (j : Nat) : bt (s - t) j = if bt s j = bt t j then 0 else 1 := by
  rw [← (sub_x hs ht h).1, bt_xor]
theorem sub_less {n b t s : Nat} (n8 : n ≤ 8) (hs : s < 2 ^ n) (h1 : b &&& t = b) (h2 : t &&& s = t) (ht : t < 2 ^ n) (hb : b < 2 ^ n) : (s - t) &&& (s - b) = s - t := by
  have p2 := p2le n8
  have hst : s - t < 2 ^ n := by omega
  rw [sub_bt hst]
  intro j hj hx
  rw [bt_sub (by omega) (by omega) h2] at hx
  rw [bt_sub (by omega) (by omega) (sub_tr h1 h2)]
  have a1 := (sub_bt (s := t) hb).mp h1 j hj
  have a2 := (sub_bt (s := s) ht).mp h2 j hj
  have l1 := bt_lt s j
  have l2 := bt_lt t j
  have l3 := bt_lt b j
  by_cases c : bt s j = bt t j
  · rw [if_pos c] at hx; omega
  · rw [if_neg]
    intro w
    rcases (show bt t j = 0 ∨ bt t j = 1 by omega) with d | d
    · have : bt s j = 1 := by omega
      have : bt b j = 1 := by omega
      have := a1 this
      omega
    · exact c (by rw [a2 d, d])
theorem sub_sub {n t s : Nat} (n8 : n ≤ 8) (hs : s < 2 ^ n) (ht : t < 2 ^ n) (h : t &&& s = t) : (s - t) &&& s = s - t := by
  have p2 := p2le n8
  rw [sub_bt (show s - t < 2 ^ n by omega)]
  intro j hj hx
  rw [bt_sub (by omega) (by omega) h] at hx
  have a2 := (sub_bt (s := s) ht).mp h j hj
  have l1 := bt_lt s j
  have l2 := bt_lt t j
  by_cases c : bt s j = bt t j
  · rw [if_pos c] at hx; omega
  · rcases (show bt t j = 0 ∨ bt t j = 1 by omega) with d | d
    · omega
    · exact absurd (by rw [a2 d, d]) c
/-- a part that isn't all lies in what is left without one bit -/
theorem sub_one {n t s : Nat} (n8 : n ≤ 8) (hs : s < 2 ^ n) (ht : t < 2 ^ n) (h : t &&& s = t) (hne : t ≠ s) : ∃ i, i < n ∧ bt s i = 1 ∧ t &&& (s - 2 ^ i) = t := by
  have p2 := p2le n8
  have : ∃ i, i < n ∧ bt s i ≠ bt t i := by
    by_cases q : ∃ i, i < n ∧ bt s i ≠ bt t i
    · exact q
    · exact absurd (bt_ext ht hs (fun j hj => by
        by_cases c : bt t j = bt s j
        · exact c
        · exact absurd ⟨j, hj, fun w => c w.symm⟩ q)) hne
  obtain ⟨i, hi, hb⟩ := this
  have a := (sub_bt (s := s) ht).mp h
  have l1 := bt_lt s i
  have l2 := bt_lt t i
  have ti : bt t i = 0 := by
    rcases (show bt t i = 0 ∨ bt t i = 1 by omega) with d | d
    · exact d
    · exact absurd (by rw [a i hi d, d]) hb
  have si : bt s i = 1 := by omega
  obtain ⟨x1, x2, x3⟩ := (xor_c s (by omega) i (by omega)).1 si
  refine ⟨i, hi, si, ?_⟩
  rw [sub_bt ht]
  intro j hj hx
  rw [← x1, bt_xor]
  by_cases e : j = i
  · rw [e] at hx; omega
  · have z : bt (2 ^ i) j = 0 := by
      rcases Nat.lt_or_ge j i with q | q
      · have := bt_low q 1 0
        rw [Nat.one_mul, Nat.add_zero] at this
        rw [this]
        unfold bt
        rw [Nat.zero_div]
      · exact bt_small (Nat.pow_lt_pow_right (by omega) (by omega))
    rw [z, a j hj hx, if_neg (by omega)]
theorem sub_bit {n s i : Nat} (n8 : n ≤ 8) (hs : s < 2 ^ n) (hi : i < n) (h : bt s i = 1) : (s - 2 ^ i) &&& s = s - 2 ^ i := by
  have p2 := p2le n8
  obtain ⟨x1, x2, x3⟩ := (xor_c s (by omega) i (by omega)).1 h
  have ht : 2 ^ i < 2 ^ n := Nat.pow_lt_pow_right (by omega) hi
  refine sub_sub n8 hs ht ?_
  rw [sub_bt ht]
  intro j hj hx
  by_cases e : j = i
  · rw [e]; exact h
  · have z : bt (2 ^ i) j = 0 := by
      rcases Nat.lt_or_ge j i with q | q
      · have := bt_low q 1 0
        rw [Nat.one_mul, Nat.add_zero] at this
        rw [this]
        unfold bt
        rw [Nat.zero_div]
      · exact bt_small (Nat.pow_lt_pow_right (by omega) (by omega))
    omega
/-- a block lies within s -/
def TB (B : Nat → Prop) (s : Nat) : Prop := ∃ t, t &&& s = t ∧ B t
def byP (B : Nat → Prop) (n s : Nat) : Prop := ∃ i, i < n ∧ bt s i = 1 ∧ TB B (s - 2 ^ i)
def MinB (B : Nat → Prop) (n s : Nat) : Prop := B s ∧ ¬ byP B n s
theorem TB_eq {B : Nat → Prop} {n s : Nat} (n8 : n ≤ 8) (hs : s < 2 ^ n) : TB B s ↔ (byP B n s ∨ B s) := by
  constructor
  · rintro ⟨t, h1, h2⟩
    by_cases e : t = s
    · exact Or.inr (e ▸ h2)
    · have : t ≤ s := by rw [← h1]; exact Nat.and_le_right
      obtain ⟨i, a1, a2, a3⟩ := sub_one n8 hs (by omega) h1 e
      exact Or.inl ⟨i, a1, a2, t, a3, h2⟩
  · rintro (⟨i, a1, a2, t, a3, h2⟩ | h)
    · exact ⟨t, sub_tr a3 (sub_bit n8 hs a1 a2), h2⟩
    · exact ⟨s, sub_rf s, h⟩
theorem Min_ex {B : Nat → Prop} {n : Nat} (n8 : n ≤ 8) : ∀ t, t < 2 ^ n → B t → ∃ b, b &&& t = b ∧ MinB B n b := by
  intro t
  induction t using Nat.strongRecOn with
  | _ t ih =>
    intro ht hB
    by_cases q : byP B n t
    · obtain ⟨i, a1, a2, t', a3, a4⟩ := q
      have p2 := p2le n8
      obtain ⟨x1, x2, x3⟩ := (xor_c t (by omega) i (by omega)).1 a2
      have l : t' ≤ t - 2 ^ i := by rw [← a3]; exact Nat.and_le_right
      have := p2pos (n := i)
      obtain ⟨b, b1, b2⟩ := ih t' (by omega) (by omega) a4
      exact ⟨b, sub_tr b1 (sub_tr a3 (sub_bit n8 ht a1 a2)), b2⟩
    · exact ⟨t, sub_rf t, hB, q⟩
/-- v is the most of w over S, or 0 -/
def IsMx (S : Nat → Prop) (w : Nat → Nat) (v : Nat) : Prop := (∀ t, S t → w t ≤ v) ∧ (v = 0 ∨ ∃ t, S t ∧ v = w t)
theorem IsMx_u {S : Nat → Prop} {w : Nat → Nat} {v v' : Nat} (h : IsMx S w v) (h' : IsMx S w v') : v = v' := by
  rcases h.2 with a | ⟨t, a, b⟩
  · rcases h'.2 with c | ⟨t', c, d⟩
    · omega
    · have := h.1 t' c; omega
  · have h1 := h'.1 t a
    rcases h'.2 with c | ⟨t', c, d⟩
    · omega
    · have := h.1 t' c; omega
/-- the greatest number of blocks of S apart from one another within s -/
def IsAp (n : Nat) (S : Nat → Prop) (V : Nat → Nat) : Prop := ∀ s, s < 2 ^ n → IsMx (fun t => t &&& s = t ∧ S t) (fun t => V (s - t) + 1) (V s)
theorem Ap_mono {B : Nat → Prop} {n : Nat} {V : Nat → Nat} (n8 : n ≤ 8) (h : IsAp n B V) (h0 : ¬ B 0) : ∀ s', s' < 2 ^ n → ∀ s, s &&& s' = s → V s ≤ V s' := by
  intro s'
  induction s' using Nat.strongRecOn with
  | _ s' ih =>
    intro hs' s hss
    have p2 := p2le n8
    have hle : s ≤ s' := by rw [← hss]; exact Nat.and_le_right
    have hs : s < 2 ^ n := by omega
    rcases (h s hs).2 with a | ⟨t, ⟨a1, a2⟩, a3⟩
    · omega
    · have htl : t ≤ s := by rw [← a1]; exact Nat.and_le_right
      have ht0 : t ≠ 0 := fun w => h0 (w ▸ a2)
      have b1 := (h s' hs').1 t ⟨sub_tr a1 hss, a2⟩
      have b2 := ih (s' - t) (by omega) (by omega) (s - t) (by
        rw [sub_bt (show s - t < 2 ^ n by omega)]
        intro j hj hx
        rw [bt_sub (by omega) (by omega) a1] at hx
        rw [bt_sub (by omega) (by omega) (sub_tr a1 hss)]
        have c1 := (sub_bt (s := s') hs).mp hss j hj
        have c2 := (sub_bt (s := s) (show t < 2 ^ n by omega)).mp a1 j hj
        have l1 := bt_lt s j
        have l2 := bt_lt t j
        have l3 := bt_lt s' j
        by_cases c : bt s j = bt t j
        · rw [if_pos c] at hx; omega
        · rw [if_neg]
          intro w
          rcases (show bt t j = 0 ∨ bt t j = 1 by omega) with d | d
          · have := c1 (by omega); omega
          · exact c (by rw [c2 d, d]))
      simp only at a3 b1
      omega
/-- the blocks that have no lesser one within them are enough -/
theorem Ap_min {B : Nat → Prop} {n : Nat} {V W : Nat → Nat} (n8 : n ≤ 8) (h0 : ¬ B 0) (h : IsAp n B V) (h' : IsAp n (MinB B n) W) : ∀ s, s < 2 ^ n → W s = V s := by
  intro s
  induction s using Nat.strongRecOn with
  | _ s ih =>
    intro hs
    have p2 := p2le n8
    refine IsMx_u (S := fun t => t &&& s = t ∧ MinB B n t) (w := fun t => V (s - t) + 1) ?_ ?_
    · have q := h' s hs
      have e : ∀ t, (t &&& s = t ∧ MinB B n t) → W (s - t) = V (s - t) := by
        intro t ht
        have htl : t ≤ s := by rw [← ht.1]; exact Nat.and_le_right
        have ht0 : t ≠ 0 := fun w => h0 (w ▸ ht.2.1)
        exact ih (s - t) (by omega) (by omega)
      refine ⟨fun t ht => ?_, ?_⟩
      · have := q.1 t ht
        simp only at this ⊢
        rw [← e t ht]; exact this
      · rcases q.2 with a | ⟨t, a, b⟩
        · exact Or.inl a
        · exact Or.inr ⟨t, a, by rw [b]; simp only; rw [e t a]⟩
    · have q := h s hs
      refine ⟨fun t ht => q.1 t ⟨ht.1, ht.2.1⟩, ?_⟩
      rcases q.2 with a | ⟨t, ⟨a1, a2⟩, a3⟩
      · exact Or.inl a
      · have htl : t ≤ s := by rw [← a1]; exact Nat.and_le_right
        obtain ⟨b, b1, b2⟩ := Min_ex n8 t (by omega) a2
        have hbl : b ≤ t := by rw [← b1]; exact Nat.and_le_right
        refine Or.inr ⟨b, ⟨sub_tr b1 a1, b2⟩, ?_⟩
        have m1 := q.1 b ⟨sub_tr b1 a1, b2.1⟩
        have m2 := Ap_mono n8 h h0 (s - b) (by omega) (s - t) (sub_less n8 hs b1 a1 (by omega) (by omega))
        simp only at a3 m1 ⊢
        omega
theorem pop_pos : ∀ t, t < 256 → t ≠ 0 → 0 < pop t := by decide +kernel
theorem Ap_pop {B : Nat → Prop} {n : Nat} {V : Nat → Nat} (n8 : n ≤ 8) (h : IsAp n B V) (h0 : ¬ B 0) : ∀ s, s < 2 ^ n → V s ≤ pop s := by
  intro s
  induction s using Nat.strongRecOn with
  | _ s ih =>
    intro hs
    have p2 := p2le n8
    rcases (h s hs).2 with a | ⟨t, ⟨a1, a2⟩, a3⟩
    · omega
    · have htl : t ≤ s := by rw [← a1]; exact Nat.and_le_right
      have ht0 : t ≠ 0 := fun w => h0 (w ▸ a2)
      have x := (sub_x (by omega) (by omega) a1).2.1
      have i := ih (s - t) (by omega) (by omega)
      have tp := pop_pos t (by omega) ht0
      simp only at a3
      omega
/-! ===== what a cube holds, by its inputs ===== -/
def InC (n c y : Nat) : Prop := ∀ i, i < n → dg c i = 2 ∨ dg c i = bt y i
theorem bt_or (x y j : Nat) : bt (x ||| y) j = 1 ↔ bt x j = 1 ∨ bt y j = 1 := by
  have h := Nat.testBit_or x y j
  rw [tb_bt, tb_bt, tb_bt] at h
  constructor
  · intro w
    rw [decide_eq_true w] at h
    have h' := h.symm
    rw [Bool.or_eq_true] at h'
    rcases h' with q | q
    · exact Or.inl (of_decide_eq_true q)
    · exact Or.inr (of_decide_eq_true q)
  · rintro (w | w)
    · rw [decide_eq_true w, Bool.true_or] at h; exact of_decide_eq_true h
    · rw [decide_eq_true w, Bool.or_true] at h; exact of_decide_eq_true h
theorem hv_bt : ∀ v, v ≤ 2 → ∀ k, k < 2 → (bt (hv v) k = 1 ↔ v = k) := by decide
theorem inp_bt {n c : Nat} (h : ∀ j, j < n → dg c j ≠ 2) : inp n c < 2 ^ n ∧ ∀ j, j < n → bt (inp n c) j = dg c j := by
  induction n with
  | zero => exact ⟨Nat.one_pos, fun j hj => by omega⟩
  | succ n ih =>
    obtain ⟨h1, h2⟩ := ih (fun j hj => h j (by omega))
    have hd := dg_lt c n
    have hd2 := h n (by omega)
    have e : inp (n + 1) c = inp n c + dg c n * 2 ^ n := rfl
    rw [e, Nat.pow_succ]
    rcases (show dg c n = 0 ∨ dg c n = 1 by omega) with d | d
    · rw [d, Nat.zero_mul, Nat.add_zero]
      refine ⟨by omega, fun j hj => ?_⟩
      by_cases e : j = n
      · rw [e, bt_small h1, d]
      · exact h2 j (by omega)
    · rw [d, Nat.one_mul]
      refine ⟨by omega, fun j hj => ?_⟩
      rw [Nat.add_comm]
      by_cases e : j = n
      · rw [e, bt_top h1, d]
      · have := bt_low (show j < n by omega) 1 (inp n c)
        rw [Nat.one_mul] at this
        rw [this]
        exact h2 j (by omega)
theorem hasT_in {n : Nat} {g : Nat → Nat} (hg : ∀ x, g x ≤ 2) {k : Nat} (hk : k < 2) : ∀ c, (bt (hasT n g c) k = 1 ↔ ∃ y, y < 2 ^ n ∧ InC n c y ∧ g y = k) := by
  intro c
  induction c using Nat.strongRecOn with
  | _ c ih =>
    cases e : top n c with
    | none =>
      have hn := top_none e
      obtain ⟨i1, i2⟩ := inp_bt hn
      rw [hasT_none e, hv_bt _ (hg _) k hk]
      constructor
      · intro w
        exact ⟨inp n c, i1, fun i hi => Or.inr (i2 i hi).symm, w⟩
      · rintro ⟨y, y1, y2, y3⟩
        have : y = inp n c := bt_ext y1 i1 (fun j hj => by
          rw [i2 j hj]
          rcases y2 j hj with q | q
          · exact absurd q (hn j hj)
          · exact q.symm)
        rw [← this]; exact y3
    | some i =>
      obtain ⟨hi, h2, -⟩ := top_some e
      have l1 := sub_lt (a := 1) h2 (by omega)
      have l2 := sub_lt (a := 2) h2 (by omega)
      have s1 := dg_sub (a := 1) h2 (by omega)
      have s2 := dg_sub (a := 2) h2 (by omega)
      rw [Nat.one_mul] at l1 s1
      rw [hasT_some e, bt_or, ih _ l1, ih _ l2]
      constructor
      · rintro (⟨y, y1, y2, y3⟩ | ⟨y, y1, y2, y3⟩)
        · refine ⟨y, y1, fun j hj => ?_, y3⟩
          by_cases ej : j = i
          · rw [ej]; exact Or.inl h2
          · have := y2 j hj
            rw [s1, if_neg ej] at this
            exact this
        · refine ⟨y, y1, fun j hj => ?_, y3⟩
          by_cases ej : j = i
          · rw [ej]; exact Or.inl h2
          · have := y2 j hj
            rw [s2, if_neg ej] at this
            exact this
      · rintro ⟨y, y1, y2, y3⟩
        have bl := bt_lt y i
        rcases (show bt y i = 0 ∨ bt y i = 1 by omega) with b | b
        · refine Or.inr ⟨y, y1, fun j hj => ?_, y3⟩
          rw [s2]
          by_cases ej : j = i
          · rw [if_pos ej, ej, b]; exact Or.inr rfl
          · rw [if_neg ej]; exact y2 j hj
        · refine Or.inl ⟨y, y1, fun j hj => ?_, y3⟩
          rw [s1]
          by_cases ej : j = i
          · rw [if_pos ej, ej, b]; exact Or.inr rfl
          · rw [if_neg ej]; exact y2 j hj
theorem h3_bt : ∀ h, h ≤ 3 → (h = 3 ↔ bt h 0 = 1 ∧ bt h 1 = 1) := by decide
theorem hasT_3_in {n : Nat} {g : Nat → Nat} (hg : ∀ x, g x ≤ 2) (c : Nat) : hasT n g c = 3 ↔ (∃ y, y < 2 ^ n ∧ InC n c y ∧ g y = 0) ∧ ∃ y, y < 2 ^ n ∧ InC n c y ∧ g y = 1 := by
  rw [h3_bt _ (hasT_le n g c), hasT_in hg (by omega), hasT_in hg (by omega)]
/-- the cube about x whose bits in m have values -/
def cub (x m : Nat) : Nat → Nat
  | 0 => 0
  | k + 1 => cub x m k + (if bt m k = 1 then bt x k else 2) * 3 ^ k
theorem cub_ok (x m k : Nat) : cub x m k < 3 ^ k ∧ ∀ i, i < k → dg (cub x m k) i = if bt m i = 1 then bt x i else 2 := by
  induction k with
  | zero => exact ⟨Nat.one_pos, fun i hi => by omega⟩
  | succ k ih =>
    have bl := bt_lt x k
    have e : cub x m (k + 1) = cub x m k + (if bt m k = 1 then bt x k else 2) * 3 ^ k := rfl
    have dl : (if bt m k = 1 then bt x k else 2) < 3 := by split <;> omega
    generalize hd : (if bt m k = 1 then bt x k else 2) = d at *
    have hm := Nat.mul_le_mul_right (3 ^ k) (show d ≤ 2 by omega)
    refine ⟨by rw [e, Nat.pow_succ]; omega, fun i hi => ?_⟩
    rw [e]
    by_cases ei : i = k
    · rw [ei, hd]
      unfold dg
      rw [Nat.add_mul_div_right _ _ (p3 k), Nat.div_eq_of_lt ih.1, Nat.zero_add]
      omega
    · rw [← ih.2 i (by omega)]
      unfold dg
      have : 3 ^ k = 3 ^ i * (3 * 3 ^ (k - 1 - i)) := by rw [← Nat.pow_succ', ← Nat.pow_add]; congr 1; omega
      rw [this, show d * (3 ^ i * (3 * 3 ^ (k - 1 - i))) = 3 ^ i * (3 * (d * 3 ^ (k - 1 - i))) by rw [Nat.mul_left_comm, Nat.mul_left_comm d], Nat.add_mul_div_left _ _ (p3 i)]
      omega
theorem cub_in {n x m y : Nat} : InC n (cub x m n) y ↔ ∀ i, i < n → bt m i = 1 → bt y i = bt x i := by
  have h := (cub_ok x m n).2
  constructor
  · intro w i hi hm
    have := w i hi
    rw [h i hi, if_pos hm] at this
    have bl := bt_lt x i
    rcases this with q | q
    · omega
    · exact q.symm
  · intro w i hi
    rw [h i hi]
    by_cases c : bt m i = 1
    · rw [if_pos c]; exact Or.inr (w i hi c).symm
    · rw [if_neg c]; exact Or.inl rfl
theorem cpl_bt {n m i : Nat} (n8 : n ≤ 8) (hm : m < 2 ^ n) (hi : i < n) : bt (2 ^ n - 1 - m) i = 1 - bt m i := by
  have key : ∀ n, n < 9 → ∀ m, m < 2 ^ n → ∀ i, i < n → bt (2 ^ n - 1 - m) i = 1 - bt m i := by decide +kernel
  exact key n (by omega) m hm i hi
theorem cpl_pop : ∀ n, n < 9 → ∀ m, m < 2 ^ n → pop (2 ^ n - 1 - m) + pop m = n := by decide +kernel
/-- a cube about x is settled just where no block lies in its free bits -/
theorem cub_set {n x m : Nat} {g : Nat → Nat} (n8 : n ≤ 8) (hg : ∀ x, g x ≤ 2) (ht : ∀ y, y < 2 ^ n → g y ≤ 1) (hx : x < 2 ^ n) (hm : m < 2 ^ n) : hasT n g (cub x m n) = 3 ↔ TB (fun t => t < 2 ^ n ∧ g (x ^^^ t) ≠ g x) (2 ^ n - 1 - m) := by
  have p2 := p2le n8
  have hpos := p2pos (n := n)
  rw [hasT_3_in hg]
  have inx : InC n (cub x m n) x := cub_in.mpr (fun i _ _ => rfl)
  have one : (∃ y, y < 2 ^ n ∧ InC n (cub x m n) y ∧ g y ≠ g x) ↔ TB (fun t => t < 2 ^ n ∧ g (x ^^^ t) ≠ g x) (2 ^ n - 1 - m) := by
    constructor
    · rintro ⟨y, y1, y2, y3⟩
      have hxy : x ^^^ y < 2 ^ n := Nat.xor_lt_two_pow hx y1
      refine ⟨x ^^^ y, ?_, hxy, ?_⟩
      · rw [sub_bt hxy]
        intro j hj hb
        rw [cpl_bt n8 hm hj]
        rw [bt_xor] at hb
        have bl := bt_lt m j
        by_cases c : bt m j = 1
        · have := cub_in.mp y2 j hj c
          rw [this, if_pos rfl] at hb
          omega
        · omega
      · rw [← Nat.xor_assoc, Nat.xor_self, Nat.zero_xor]; exact y3
    · rintro ⟨t, t1, t2, t3⟩
      refine ⟨x ^^^ t, Nat.xor_lt_two_pow hx t2, cub_in.mpr (fun i hi hmi => ?_), t3⟩
      rw [bt_xor]
      have bt1 := (sub_bt (s := 2 ^ n - 1 - m) t2).mp t1 i hi
      rw [cpl_bt n8 hm hi] at bt1
      have b1 := bt_lt t i
      have b2 := bt_lt x i
      have t0 : bt t i = 0 := by
        by_cases c : bt t i = 1
        · have := bt1 c; omega
        · omega
      rw [t0]
      by_cases c : bt x i = 0
      · rw [c, if_pos rfl]
      · rw [if_neg c]; omega
  rw [← one]
  constructor
  · rintro ⟨⟨y, y1, y2, y3⟩, ⟨w, w1, w2, w3⟩⟩
    by_cases c : g x = 0
    · exact ⟨w, w1, w2, by omega⟩
    · exact ⟨y, y1, y2, by omega⟩
  · rintro ⟨y, y1, y2, y3⟩
    have a := ht y y1
    have b := ht x hx
    rcases (show g x = 0 ∨ g x = 1 by omega) with c | c
    · exact ⟨⟨x, hx, inx, c⟩, ⟨y, y1, y2, by omega⟩⟩
    · exact ⟨⟨y, y1, y2, by omega⟩, ⟨x, hx, inx, c⟩⟩
