/-! ===== made ===== -/
theorem TkB {z : CS} {q n b : Nat} {kd wt : Int32} {g : Nat → Nat} (t1 : TkAt z q n kd wt g) (d1 : dT z q = some (kd, nI n, wt, some b)) : ∃ f, dB z b = some (2 ^ n, f) ∧ ∀ x, f x = nI (g x) := by
  obtain ⟨b', f, u1, u2, u3, -, -, -⟩ := id t1
  obtain rfl : b = b' := by
    have := d1.symm.trans u1
    simp only [Option.some.injEq, Prod.mk.injEq] at this
    exact this.2.2.2
  exact ⟨f, u2, u3⟩
theorem rd_f {z : CS} {b n : Nat} {f : Nat → Int32} {g : Nat → Nat} (u2 : dB z b = some (2 ^ n, f)) (u3 : ∀ x, f x = nI (g x)) (n8 : n ≤ 8) : lnB z b = some (nI (2 ^ n)) ∧ ∀ x, x < 2 ^ n → rdB z b (nI x) = some (nI (g x)) := by
  have p2 := p2le n8
  refine ⟨by unfold lnB; rw [u2]; rfl, fun x hx => ?_⟩
  unfold rdB
  rw [u2, Option.bind_some, aI_n _ hx (by omega)]
  exact congrArg some (u3 x)
def ins (x i v : Nat) : Nat := x / 2 ^ i * 2 ^ (i + 1) + v * 2 ^ i + x % 2 ^ i
theorem with_n : ∀ x, x < 128 → ∀ i, i < 8 → ∀ v, v < 2 → fX9_withBit (nI x) (nI i) (nI v) = some (nI (ins x i v)) ∧ fX10_with (nI x) (nI i) (nI v) = some (nI (ins x i v)) := by decide +kernel
theorem ins_lt {n x i v : Nat} (hi : i < n + 1) (hv : v < 2) (hx : x < 2 ^ n) : ins x i v < 2 ^ (n + 1) := by
  unfold ins
  have e1 : 2 ^ n = 2 ^ i * 2 ^ (n - i) := by rw [← Nat.pow_add]; congr 1; omega
  have e2 := Nat.mod_lt x (show 0 < 2 ^ i from Nat.two_pow_pos i)
  have e4 : x / 2 ^ i < 2 ^ (n - i) := by
    rw [Nat.div_lt_iff_lt_mul (Nat.two_pow_pos i), Nat.mul_comm]
    omega
  have e5 : (x / 2 ^ i + 1) * 2 ^ (i + 1) ≤ 2 ^ (n - i) * 2 ^ (i + 1) := Nat.mul_le_mul_right _ e4
  have e6 : 2 ^ (n - i) * 2 ^ (i + 1) = 2 ^ (n + 1) := by rw [← Nat.pow_add]; congr 1; omega
  rw [Nat.add_mul, Nat.one_mul, Nat.pow_succ] at e5
  rw [Nat.pow_succ 2 i]
  have e7 : v * 2 ^ i ≤ 2 ^ i := by
    have := Nat.mul_le_mul_right (2 ^ i) (show v ≤ 1 by omega)
    omega
  have e8 : 2 ^ (n - i) * (2 ^ i * 2) = 2 ^ (n + 1) := by rw [← Nat.pow_succ]; exact e6
  rw [e8] at e5
  omega
/-- what made says, of what the task says at x -/
def mval (v w : Nat) : Nat := if 2 ≤ v then w else if w = 2 then w else 1 - w
theorem mval_le {v w : Nat} (h : w ≤ 2) : mval v w ≤ 2 := by
  unfold mval
  split
  · exact h
  · split
    · exact h
    · omega
theorem made_end {o : Nat} {z : CS} {r : RS} {k p q n m v b : Nat} {kd wt a4 l5 : Int32} {g J : Nat → Nat} (h : Sim o z r) (hp : p < 8) (hk : k < 8) (hv : v ≤ 4) (t1 : TkAt z q n kd wt g) (t2 : TkR r k n kd wt g) (n1 : 1 ≤ n) (n8 : n ≤ 8) (hg : ∀ x, g x ≤ 2) (d1 : dT z q = some (kd, nI n, wt, some b)) (m1 : 1 ≤ m) (m8 : m ≤ 8) (hJ : ∀ x, x < 2 ^ m → J x < 2 ^ n) (hc : ∀ y x, x < 2 ^ m → dT y q = some (kd, nI n, wt, some b) → lnB y b = some (nI (2 ^ n)) → fX9_madeFrom o y q (nI v) a4 (nI x) = some (nI (J x))) (hr : ∀ rr x, x < 2 ^ m → fX10_inputs rr (nI k) = some (nI (2 ^ n)) → (∀ y, y < 2 ^ n → fX10_say0 rr (nI k) (nI y) = some (nI (g y))) → fX10_made_L128 rr (nI k) (nI p) (nI v) a4 l5 (nI m) (nI x) = fX10_made_L128_J209 rr (nI k) (nI p) (nI v) a4 l5 (nI m) (nI x) (nI (g (J x)))) : ∃ z' r', fX9_made_J121 o z (nI p) (nI v) a4 q (nI m) = some (nI m, z') ∧ fX10_made_J123 r (nI k) (nI p) (nI v) a4 l5 (nI m) = some (nI m, r') ∧ Sim o z' r' := by
  obtain ⟨h1, h2, h3, -⟩ := id h
  have p2 := p2le n8
  have pm := p2le m8
  obtain ⟨f, u2, u3⟩ := TkB t1 d1
  have hG : ∀ x, mval v (g (J x)) ≤ 2 := fun x => mval_le (hg _)
  have px : ∀ i, PX o z (zB z (2 ^ m) (fun x => mval v (g (J x))) i) := fun i => zB_PX h1
  have ht := TkAt_z h1 (n := m) (G := fun x => mval v (g (J x))) (kd := nI 0) (wt := nI m) m1 m8 (fun x _ => hG x)
  have lc : lpN (fun u => fX9_made_L134 o u.2 (nI p) (nI v) a4 q (nI m) (cn z) u.1) bigN (nI 0, zB z (2 ^ m) (fun x => mval v (g (J x))) 0) = some (zB z (2 ^ m) (fun x => mval v (g (J x))) (2 ^ m)) := by
    refine fillB (by omega) (fun i hi => ?_) ?_
    · have x1 := (px i).2.2.2.2.1.T d1
      obtain ⟨x2, x3⟩ := rd_f ((px i).2.2.2.2.1.B u2) u3 n8
      have hs := stB_n (z := z) (m := 2 ^ m) (i := i) (G := fun x => mval v (g (J x))) (v := nI (mval v (g (J i)))) h1 hi pm (b8 _ (hG i))
      have hb := b8 _ (hG i)
      have := hg (J i)
      unfold fX9_made_L134 fX9_made_L134_J175 fX9_made_L134_J176 fX9_made_L134_J196
      by_cases c : 2 ≤ v
      · have e : mval v (g (J i)) = g (J i) := if_pos c
        rw [e] at hs hb
        simp (disch := omega) only [lnB_z, x1, hc _ i hi x1 x2, x3 _ (hJ i hi), hb, hs, Option.bind_some, aI_n, aL_n, aQ_n, sA_n, sL_n, csA_n, i_0, i_1, i_2, i_3, i_4, i_5, i_6, i_7, i_8, i_9, i_10, i_11, i_12, i_13, i_16, i_20, i_21, i_22, i_31, i_99, i_100, i_256, i_1000, nI_eq, nI_leI, nI_ltI, nI_add, pk_mul, ↓reduceIte, nt_le, nf_le, nt_lt, nf_lt, nt_eq, nf_eq, meet_N', meet_P', meet_S', meet_Z', meet_B', meet_O', n_1, n_2, n_3, n_4, n_5, n_10, n_11]
      · by_cases c2 : g (J i) = 2
        · have e : mval v (g (J i)) = 2 := by unfold mval; rw [if_neg c, if_pos c2, c2]
          rw [e] at hs hb
          simp (disch := omega) only [lnB_z, x1, hc _ i hi x1 x2, x3 _ (hJ i hi), c2, hb, hs, Option.bind_some, aI_n, aL_n, aQ_n, sA_n, sL_n, csA_n, i_0, i_1, i_2, i_3, i_4, i_5, i_6, i_7, i_8, i_9, i_10, i_11, i_12, i_13, i_16, i_20, i_21, i_22, i_31, i_99, i_100, i_256, i_1000, nI_eq, nI_leI, nI_ltI, nI_add, pk_mul, ↓reduceIte, nt_le, nf_le, nt_lt, nf_lt, nt_eq, nf_eq, meet_N', meet_P', meet_S', meet_Z', meet_B', meet_O', n_1, n_2, n_3, n_4, n_5, n_10, n_11]
        · have e : mval v (g (J i)) = 1 - g (J i) := by unfold mval; rw [if_neg c, if_neg c2]
          rw [e] at hs hb
          simp (disch := omega) only [lnB_z, x1, hc _ i hi x1 x2, x3 _ (hJ i hi), pk_sub, hb, hs, Option.bind_some, aI_n, aL_n, aQ_n, sA_n, sL_n, csA_n, i_0, i_1, i_2, i_3, i_4, i_5, i_6, i_7, i_8, i_9, i_10, i_11, i_12, i_13, i_16, i_20, i_21, i_22, i_31, i_99, i_100, i_256, i_1000, nI_eq, nI_leI, nI_ltI, nI_add, pk_mul, ↓reduceIte, nt_le, nf_le, nt_lt, nf_lt, nt_eq, nf_eq, meet_N', meet_P', meet_S', meet_Z', meet_B', meet_O', n_1, n_2, n_3, n_4, n_5, n_10, n_11]
    · unfold fX9_made_L134
      simp (disch := omega) only [lnB_z, Option.bind_some, aI_n, aL_n, aQ_n, sA_n, sL_n, csA_n, i_0, i_1, i_2, i_3, i_4, i_5, i_6, i_7, i_8, i_9, i_10, i_11, i_12, i_13, i_16, i_20, i_21, i_22, i_31, i_99, i_100, i_256, i_1000, nI_eq, nI_leI, nI_ltI, nI_add, pk_mul, ↓reduceIte, nt_le, nf_le, nt_lt, nf_lt, nt_eq, nf_eq, meet_N', meet_P', meet_S', meet_Z', meet_B', meet_O', n_1, n_2, n_3, n_4, n_5, n_10, n_11]
  obtain ⟨e, g1, g2, g3, g4, g5, g6⟩ := fillA (body := fun u => fX10_made_L128 u.2 (nI k) (nI p) (nI v) a4 l5 (nI m) u.1) (r0 := r) (k := 9) (base := 0) (N := 2 ^ m) (v := fun i => nI (mval v (g (J i)))) (by omega) (fun i rr hi e1 e2 e3 _ _ => by
    have t2' : TkR rr k n kd wt g := RSame.tk (r := r) ⟨by rw [e3 0 (by omega)], by rw [e3 1 (by omega)], by rw [e3 2 (by omega)], fun x _ => by rw [e3 3 (by omega)]⟩ n8 t2
    have := hg (J i)
    show fX10_made_L128 rr (nI k) (nI p) (nI v) a4 l5 (nI m) (nI i) = _
    rw [hr rr i hi (inputs_n (by omega) t2'.1 n8) (fun y hy => say0_n (by omega) t2' n8 hy), Nat.zero_add]
    unfold fX10_made_L128_J209 fX10_made_L128_J235 fX10_made_L128_J237
    by_cases c : 2 ≤ v
    · rw [show mval v (g (J i)) = g (J i) from if_pos c]
      simp (disch := omega) only [Option.bind_some, aI_n, aL_n, aQ_n, sA_n, sL_n, csA_n, i_0, i_1, i_2, i_3, i_4, i_5, i_6, i_7, i_8, i_9, i_10, i_11, i_12, i_13, i_16, i_20, i_21, i_22, i_31, i_99, i_100, i_256, i_1000, nI_eq, nI_leI, nI_ltI, nI_add, pk_mul, ↓reduceIte, nt_le, nf_le, nt_lt, nf_lt, nt_eq, nf_eq, meet_N', meet_P', meet_S', meet_Z', meet_B', meet_O', n_1, n_2, n_3, n_4, n_5, n_10, n_11]
    · by_cases c2 : g (J i) = 2
      · rw [show mval v (g (J i)) = 2 by unfold mval; rw [if_neg c, if_pos c2, c2]]
        simp (disch := omega) only [c2, Option.bind_some, aI_n, aL_n, aQ_n, sA_n, sL_n, csA_n, i_0, i_1, i_2, i_3, i_4, i_5, i_6, i_7, i_8, i_9, i_10, i_11, i_12, i_13, i_16, i_20, i_21, i_22, i_31, i_99, i_100, i_256, i_1000, nI_eq, nI_leI, nI_ltI, nI_add, pk_mul, ↓reduceIte, nt_le, nf_le, nt_lt, nf_lt, nt_eq, nf_eq, meet_N', meet_P', meet_S', meet_Z', meet_B', meet_O', n_1, n_2, n_3, n_4, n_5, n_10, n_11]
      · rw [show mval v (g (J i)) = 1 - g (J i) by unfold mval; rw [if_neg c, if_neg c2]]
        simp (disch := omega) only [pk_sub, Option.bind_some, aI_n, aL_n, aQ_n, sA_n, sL_n, csA_n, i_0, i_1, i_2, i_3, i_4, i_5, i_6, i_7, i_8, i_9, i_10, i_11, i_12, i_13, i_16, i_20, i_21, i_22, i_31, i_99, i_100, i_256, i_1000, nI_eq, nI_leI, nI_ltI, nI_add, pk_mul, ↓reduceIte, nt_le, nf_le, nt_lt, nf_lt, nt_eq, nf_eq, meet_N', meet_P', meet_S', meet_Z', meet_B', meet_O', n_1, n_2, n_3, n_4, n_5, n_10, n_11]) (fun rr e1 e2 e3 => by
    unfold fX10_made_L128
    simp (disch := omega) only [shl1' m (by omega), Option.bind_some, aI_n, aL_n, aQ_n, sA_n, sL_n, csA_n, i_0, i_1, i_2, i_3, i_4, i_5, i_6, i_7, i_8, i_9, i_10, i_11, i_12, i_13, i_16, i_20, i_21, i_22, i_31, i_99, i_100, i_256, i_1000, nI_eq, nI_leI, nI_ltI, nI_add, pk_mul, ↓reduceIte, nt_le, nf_le, nt_lt, nf_lt, nt_eq, nf_eq, meet_N', meet_P', meet_S', meet_Z', meet_B', meet_O', n_1, n_2, n_3, n_4, n_5, n_10, n_11])
  obtain ⟨r', k1, k2, k3, k4, k5, k6, k7, k8, k9⟩ := lay_n (r := e) (p := p) (n := m) (kd := nI 0) (wt := nI 0) (G := fun x => mval v (g (J x))) (by omega) m8 (fun x hx => by rw [← g5 x hx, Nat.zero_add])
  have tk : TkR r' p m (nI 0) (nI m) (fun x => mval v (g (J x))) := ⟨k6, k7, Or.inl ⟨rfl, rfl⟩, k9⟩
  refine ⟨_, r', ?_, ?_, Sim_newtask h (px (2 ^ m)) hp ht (k2.trans g2) (k3.trans g3) (fun j h4 h9 _ => by rw [k4 j h4, g4 j h9]) (fun j hj hjp => ?_) (TkR_row tk)⟩
  · unfold fX9_made_J121
    simp (disch := omega) only [shl1' m (by omega), alB_n h1 pm (fun x => mval v (g (J x))), lc, plainT_0 (px (2 ^ m)).2.2.2.2.2, stQT_n hp (okT_n ht), Option.bind_some, aI_n, aL_n, aQ_n, sA_n, sL_n, csA_n, i_0, i_1, i_2, i_3, i_4, i_5, i_6, i_7, i_8, i_9, i_10, i_11, i_12, i_13, i_16, i_20, i_21, i_22, i_31, i_99, i_100, i_256, i_1000, nI_eq, nI_leI, nI_ltI, nI_add, pk_mul, ↓reduceIte, nt_le, nf_le, nt_lt, nf_lt, nt_eq, nf_eq, meet_N', meet_P', meet_S', meet_Z', meet_B', meet_O', n_1, n_2, n_3, n_4, n_5, n_10, n_11]
  · unfold fX10_made_J123
    refine (congrArg (fun u => u.bind fun e12 => (fX10_lay e12 (nI p) (nI m) (0 : Int32) (0 : Int32)).bind fun q13 => some (nI m, q13)) g1).trans ?_
    rw [Option.bind_some, show fX10_lay e (nI p) (nI m) (0 : Int32) (0 : Int32) = some r' from k1]
    rfl
  · have w := k5 j hj hjp
    unfold RSame at w ⊢
    rw [g4 0 (by omega), g4 1 (by omega), g4 2 (by omega), g4 3 (by omega)] at w
    exact w
theorem St_made_ok : St_made Sim := by
  intro o z r a1 a2 a3 a4 h
  obtain ⟨h1, h2, h3, -⟩ := id h
  have bad : (fX9_made o z a1 a2 a3 a4 = some (-2, z) ∧ fX10_made r a1 a2 a3 a4 = some (-2, r)) ∨ ∃ p v, p < 8 ∧ v ≤ 4 ∧ a2 = nI p ∧ a3 = nI v := by
    unfold fX9_made fX9_made_J16 fX9_made_J26 fX10_made fX10_made_J23
    rcases ix a2 (n := 8) (by omega) with hx | ⟨p, hp, rfl⟩
    · refine Or.inl ⟨by simp (disch := omega) only [isPl9_out hx, Option.bind_some, aI_n, aL_n, aQ_n, sA_n, sL_n, csA_n, i_0, i_1, i_2, i_3, i_4, i_5, i_6, i_7, i_8, i_9, i_10, i_11, i_12, i_13, i_16, i_20, i_21, i_22, i_31, i_99, i_100, i_256, i_1000, nI_eq, nI_leI, nI_ltI, nI_add, pk_mul, ↓reduceIte, nt_le, nf_le, nt_lt, nf_lt, nt_eq, nf_eq, meet_N', meet_P', meet_S', meet_Z', meet_B', meet_O', n_1, n_2, n_3, n_4, n_5, n_10, n_11], ?_⟩
      rcases ix a1 (n := 8) (by omega) with hx1 | ⟨k, hk, rfl⟩
      · simp (disch := omega) only [isPl10_out hx1, Option.bind_some, aI_n, aL_n, aQ_n, sA_n, sL_n, csA_n, i_0, i_1, i_2, i_3, i_4, i_5, i_6, i_7, i_8, i_9, i_10, i_11, i_12, i_13, i_16, i_20, i_21, i_22, i_31, i_99, i_100, i_256, i_1000, nI_eq, nI_leI, nI_ltI, nI_add, pk_mul, ↓reduceIte, nt_le, nf_le, nt_lt, nf_lt, nt_eq, nf_eq, meet_N', meet_P', meet_S', meet_Z', meet_B', meet_O', n_1, n_2, n_3, n_4, n_5, n_10, n_11]
      · simp (disch := omega) only [isPl10_in hk, isPl10_out hx, Option.bind_some, aI_n, aL_n, aQ_n, sA_n, sL_n, csA_n, i_0, i_1, i_2, i_3, i_4, i_5, i_6, i_7, i_8, i_9, i_10, i_11, i_12, i_13, i_16, i_20, i_21, i_22, i_31, i_99, i_100, i_256, i_1000, nI_eq, nI_leI, nI_ltI, nI_add, pk_mul, ↓reduceIte, nt_le, nf_le, nt_lt, nf_lt, nt_eq, nf_eq, meet_N', meet_P', meet_S', meet_Z', meet_B', meet_O', n_1, n_2, n_3, n_4, n_5, n_10, n_11]
    rcases ix a3 (n := 5) (by omega) with hx | ⟨v, hv, rfl⟩
    · left
      by_cases h0 : a3 < nI 0
      · refine ⟨by simp (disch := omega) only [isPl9_in hp, h0, Option.bind_some, aI_n, aL_n, aQ_n, sA_n, sL_n, csA_n, i_0, i_1, i_2, i_3, i_4, i_5, i_6, i_7, i_8, i_9, i_10, i_11, i_12, i_13, i_16, i_20, i_21, i_22, i_31, i_99, i_100, i_256, i_1000, nI_eq, nI_leI, nI_ltI, nI_add, pk_mul, ↓reduceIte, nt_le, nf_le, nt_lt, nf_lt, nt_eq, nf_eq, meet_N', meet_P', meet_S', meet_Z', meet_B', meet_O', n_1, n_2, n_3, n_4, n_5, n_10, n_11], ?_⟩
        rcases ix a1 (n := 8) (by omega) with hx1 | ⟨k, hk, rfl⟩
        · simp (disch := omega) only [isPl10_out hx1, Option.bind_some, aI_n, aL_n, aQ_n, sA_n, sL_n, csA_n, i_0, i_1, i_2, i_3, i_4, i_5, i_6, i_7, i_8, i_9, i_10, i_11, i_12, i_13, i_16, i_20, i_21, i_22, i_31, i_99, i_100, i_256, i_1000, nI_eq, nI_leI, nI_ltI, nI_add, pk_mul, ↓reduceIte, nt_le, nf_le, nt_lt, nf_lt, nt_eq, nf_eq, meet_N', meet_P', meet_S', meet_Z', meet_B', meet_O', n_1, n_2, n_3, n_4, n_5, n_10, n_11]
        · simp (disch := omega) only [isPl10_in hk, isPl10_in hp, h0, Option.bind_some, aI_n, aL_n, aQ_n, sA_n, sL_n, csA_n, i_0, i_1, i_2, i_3, i_4, i_5, i_6, i_7, i_8, i_9, i_10, i_11, i_12, i_13, i_16, i_20, i_21, i_22, i_31, i_99, i_100, i_256, i_1000, nI_eq, nI_leI, nI_ltI, nI_add, pk_mul, ↓reduceIte, nt_le, nf_le, nt_lt, nf_lt, nt_eq, nf_eq, meet_N', meet_P', meet_S', meet_Z', meet_B', meet_O', n_1, n_2, n_3, n_4, n_5, n_10, n_11]
      · have c2 : ¬ a3 ≤ nI 4 := out4 (m := 4) (by omega) hx h0
        refine ⟨by simp (disch := omega) only [isPl9_in hp, h0, c2, Option.bind_some, aI_n, aL_n, aQ_n, sA_n, sL_n, csA_n, i_0, i_1, i_2, i_3, i_4, i_5, i_6, i_7, i_8, i_9, i_10, i_11, i_12, i_13, i_16, i_20, i_21, i_22, i_31, i_99, i_100, i_256, i_1000, nI_eq, nI_leI, nI_ltI, nI_add, pk_mul, ↓reduceIte, nt_le, nf_le, nt_lt, nf_lt, nt_eq, nf_eq, meet_N', meet_P', meet_S', meet_Z', meet_B', meet_O', n_1, n_2, n_3, n_4, n_5, n_10, n_11], ?_⟩
        rcases ix a1 (n := 8) (by omega) with hx1 | ⟨k, hk, rfl⟩
        · simp (disch := omega) only [isPl10_out hx1, Option.bind_some, aI_n, aL_n, aQ_n, sA_n, sL_n, csA_n, i_0, i_1, i_2, i_3, i_4, i_5, i_6, i_7, i_8, i_9, i_10, i_11, i_12, i_13, i_16, i_20, i_21, i_22, i_31, i_99, i_100, i_256, i_1000, nI_eq, nI_leI, nI_ltI, nI_add, pk_mul, ↓reduceIte, nt_le, nf_le, nt_lt, nf_lt, nt_eq, nf_eq, meet_N', meet_P', meet_S', meet_Z', meet_B', meet_O', n_1, n_2, n_3, n_4, n_5, n_10, n_11]
        · simp (disch := omega) only [isPl10_in hk, isPl10_in hp, h0, c2, Option.bind_some, aI_n, aL_n, aQ_n, sA_n, sL_n, csA_n, i_0, i_1, i_2, i_3, i_4, i_5, i_6, i_7, i_8, i_9, i_10, i_11, i_12, i_13, i_16, i_20, i_21, i_22, i_31, i_99, i_100, i_256, i_1000, nI_eq, nI_leI, nI_ltI, nI_add, pk_mul, ↓reduceIte, nt_le, nf_le, nt_lt, nf_lt, nt_eq, nf_eq, meet_N', meet_P', meet_S', meet_Z', meet_B', meet_O', n_1, n_2, n_3, n_4, n_5, n_10, n_11]
    · exact Or.inr ⟨p, v, hp, by omega, rfl, rfl⟩
  rcases bad with ⟨q1, q2⟩ | ⟨p, v, hp, hv, rfl, rfl⟩
  · exact ⟨_, _, q1, q2, rfl, h⟩
  rcases plc h3 a1 with hx | ⟨k, hk, rfl, e, e'⟩ | ⟨k, q, n, kd, wt, g, b, hk, rfl, e, t1, t2, n1, n8, hg, d1, d2, d3, p2, p1⟩
  · refine ⟨(-2, z), (-2, r), ?_, ?_, rfl, h⟩
    · unfold fX9_made fX9_made_J26
      simp (disch := omega) only [isPl9_in hp, find9_out hx, Option.bind_some, aI_n, aL_n, aQ_n, sA_n, sL_n, csA_n, i_0, i_1, i_2, i_3, i_4, i_5, i_6, i_7, i_8, i_9, i_10, i_11, i_12, i_13, i_16, i_20, i_21, i_22, i_31, i_99, i_100, i_256, i_1000, nI_eq, nI_leI, nI_ltI, nI_add, pk_mul, ↓reduceIte, nt_le, nf_le, nt_lt, nf_lt, nt_eq, nf_eq, meet_N', meet_P', meet_S', meet_Z', meet_B', meet_O', n_1, n_2, n_3, n_4, n_5, n_10, n_11]
    · unfold fX10_made fX10_made_J23
      simp (disch := omega) only [isPl10_out hx, Option.bind_some, aI_n, aL_n, aQ_n, sA_n, sL_n, csA_n, i_0, i_1, i_2, i_3, i_4, i_5, i_6, i_7, i_8, i_9, i_10, i_11, i_12, i_13, i_16, i_20, i_21, i_22, i_31, i_99, i_100, i_256, i_1000, nI_eq, nI_leI, nI_ltI, nI_add, pk_mul, ↓reduceIte, nt_le, nf_le, nt_lt, nf_lt, nt_eq, nf_eq, meet_N', meet_P', meet_S', meet_Z', meet_B', meet_O', n_1, n_2, n_3, n_4, n_5, n_10, n_11]
  · refine ⟨(-10, _), (-10, _), ?_, ?_, rfl, Sim_met h⟩
    · unfold fX9_made fX9_made_J26
      simp (disch := omega) only [isPl9_in hp, find9_no hk e, Option.bind_some, aI_n, aL_n, aQ_n, sA_n, sL_n, csA_n, i_0, i_1, i_2, i_3, i_4, i_5, i_6, i_7, i_8, i_9, i_10, i_11, i_12, i_13, i_16, i_20, i_21, i_22, i_31, i_99, i_100, i_256, i_1000, nI_eq, nI_leI, nI_ltI, nI_add, pk_mul, ↓reduceIte, nt_le, nf_le, nt_lt, nf_lt, nt_eq, nf_eq, meet_N', meet_P', meet_S', meet_Z', meet_B', meet_O', n_1, n_2, n_3, n_4, n_5, n_10, n_11] <;> rfl
    · unfold fX10_made
      simp (disch := omega) only [isPl10_in hk, isPl10_in hp, e', Option.bind_some, aI_n, aL_n, aQ_n, sA_n, sL_n, csA_n, i_0, i_1, i_2, i_3, i_4, i_5, i_6, i_7, i_8, i_9, i_10, i_11, i_12, i_13, i_16, i_20, i_21, i_22, i_31, i_99, i_100, i_256, i_1000, nI_eq, nI_leI, nI_ltI, nI_add, pk_mul, ↓reduceIte, nt_le, nf_le, nt_lt, nf_lt, nt_eq, nf_eq, meet_N', meet_P', meet_S', meet_Z', meet_B', meet_O', n_1, n_2, n_3, n_4, n_5, n_10, n_11] <;> rfl
  · have c9 : fX9_made o z (nI k) (nI p) (nI v) a4 = fX9_made_J26 o z (nI k) (nI p) (nI v) a4 (nI 0) := by
      unfold fX9_made
      simp (disch := omega) only [isPl9_in hp, find9_yes hk e, Option.bind_some, aI_n, aL_n, aQ_n, sA_n, sL_n, csA_n, i_0, i_1, i_2, i_3, i_4, i_5, i_6, i_7, i_8, i_9, i_10, i_11, i_12, i_13, i_16, i_20, i_21, i_22, i_31, i_99, i_100, i_256, i_1000, nI_eq, nI_leI, nI_ltI, nI_add, pk_mul, ↓reduceIte, nt_le, nf_le, nt_lt, nf_lt, nt_eq, nf_eq, meet_N', meet_P', meet_S', meet_Z', meet_B', meet_O', n_1, n_2, n_3, n_4, n_5, n_10, n_11]
    by_cases v2 : v < 2
    · have c10 : fX10_made r (nI k) (nI p) (nI v) a4 = fX10_made_J123 r (nI k) (nI p) (nI v) a4 (nI 0) (nI n) := by
        unfold fX10_made fX10_made_J66 fX10_made_J81 fX10_made_J101
        simp (disch := omega) only [isPl10_in hk, isPl10_in hp, t2.1, Option.bind_some, aI_n, aL_n, aQ_n, sA_n, sL_n, csA_n, i_0, i_1, i_2, i_3, i_4, i_5, i_6, i_7, i_8, i_9, i_10, i_11, i_12, i_13, i_16, i_20, i_21, i_22, i_31, i_99, i_100, i_256, i_1000, nI_eq, nI_leI, nI_ltI, nI_add, pk_mul, ↓reduceIte, nt_le, nf_le, nt_lt, nf_lt, nt_eq, nf_eq, meet_N', meet_P', meet_S', meet_Z', meet_B', meet_O', n_1, n_2, n_3, n_4, n_5, n_10, n_11]
      have c9' : fX9_made_J26 o z (nI k) (nI p) (nI v) a4 (nI 0) = fX9_made_J121 o z (nI p) (nI v) a4 q (nI n) := by
        unfold fX9_made_J26 fX9_made_J67 fX9_made_J82 fX9_made_J101
        simp (disch := omega) only [e, d1, Option.bind_some, aI_n, aL_n, aQ_n, sA_n, sL_n, csA_n, i_0, i_1, i_2, i_3, i_4, i_5, i_6, i_7, i_8, i_9, i_10, i_11, i_12, i_13, i_16, i_20, i_21, i_22, i_31, i_99, i_100, i_256, i_1000, nI_eq, nI_leI, nI_ltI, nI_add, pk_mul, ↓reduceIte, nt_le, nf_le, nt_lt, nf_lt, nt_eq, nf_eq, meet_N', meet_P', meet_S', meet_Z', meet_B', meet_O', n_1, n_2, n_3, n_4, n_5, n_10, n_11]
      have HH1 := made_end (a4 := a4) (l5 := nI 0) (m := n) (v := v) (J := fun x => if v = 0 then x else 2 ^ n - 1 - x) h hp hk hv t1 t2 n1 n8 hg d1 n1 n8 (fun x hx => by show (if v = 0 then x else 2 ^ n - 1 - x) < 2 ^ n; split <;> omega) (fun y x hx y1 y2 => ?_) (fun rr x hx i1 i2 => ?_)
      · obtain ⟨z', r', w1, w2, w3⟩ := HH1
        · exact ⟨_, _, c9.trans (c9'.trans w1), c10.trans w2, rfl, w3⟩
      · unfold fX9_madeFrom
        by_cases v0 : v = 0
        · subst v0
          simp (disch := omega) only [Option.bind_some, aI_n, aL_n, aQ_n, sA_n, sL_n, csA_n, i_0, i_1, i_2, i_3, i_4, i_5, i_6, i_7, i_8, i_9, i_10, i_11, i_12, i_13, i_16, i_20, i_21, i_22, i_31, i_99, i_100, i_256, i_1000, nI_eq, nI_leI, nI_ltI, nI_add, pk_mul, ↓reduceIte, nt_le, nf_le, nt_lt, nf_lt, nt_eq, nf_eq, meet_N', meet_P', meet_S', meet_Z', meet_B', meet_O', n_1, n_2, n_3, n_4, n_5, n_10, n_11]
        · obtain rfl : v = 1 := by omega
          simp (disch := omega) only [y1, y2, pk_sub, Option.bind_some, aI_n, aL_n, aQ_n, sA_n, sL_n, csA_n, i_0, i_1, i_2, i_3, i_4, i_5, i_6, i_7, i_8, i_9, i_10, i_11, i_12, i_13, i_16, i_20, i_21, i_22, i_31, i_99, i_100, i_256, i_1000, nI_eq, nI_leI, nI_ltI, nI_add, pk_mul, ↓reduceIte, nt_le, nf_le, nt_lt, nf_lt, nt_eq, nf_eq, meet_N', meet_P', meet_S', meet_Z', meet_B', meet_O', n_1, n_2, n_3, n_4, n_5, n_10, n_11]
      · unfold fX10_made_L128
        by_cases v0 : v = 0
        · subst v0
          simp (disch := omega) only [shl1' n (by omega), i2 x hx, Option.bind_some, aI_n, aL_n, aQ_n, sA_n, sL_n, csA_n, i_0, i_1, i_2, i_3, i_4, i_5, i_6, i_7, i_8, i_9, i_10, i_11, i_12, i_13, i_16, i_20, i_21, i_22, i_31, i_99, i_100, i_256, i_1000, nI_eq, nI_leI, nI_ltI, nI_add, pk_mul, ↓reduceIte, nt_le, nf_le, nt_lt, nf_lt, nt_eq, nf_eq, meet_N', meet_P', meet_S', meet_Z', meet_B', meet_O', n_1, n_2, n_3, n_4, n_5, n_10, n_11]
        · obtain rfl : v = 1 := by omega
          simp (disch := omega) only [shl1' n (by omega), i1, pk_sub, i2 (2 ^ n - 1 - x) (by omega), Option.bind_some, aI_n, aL_n, aQ_n, sA_n, sL_n, csA_n, i_0, i_1, i_2, i_3, i_4, i_5, i_6, i_7, i_8, i_9, i_10, i_11, i_12, i_13, i_16, i_20, i_21, i_22, i_31, i_99, i_100, i_256, i_1000, nI_eq, nI_leI, nI_ltI, nI_add, pk_mul, ↓reduceIte, nt_le, nf_le, nt_lt, nf_lt, nt_eq, nf_eq, meet_N', meet_P', meet_S', meet_Z', meet_B', meet_O', n_1, n_2, n_3, n_4, n_5, n_10, n_11]
    · rcases ix a4 (n := n) (by omega) with hx | ⟨i, hi, rfl⟩
      · refine ⟨(-2, z), (-2, r), ?_, ?_, rfl, h⟩
        · rw [c9]
          unfold fX9_made_J26 fX9_made_J64
          by_cases h0 : a4 < nI 0
          · simp (disch := omega) only [e, h0, Option.bind_some, aI_n, aL_n, aQ_n, sA_n, sL_n, csA_n, i_0, i_1, i_2, i_3, i_4, i_5, i_6, i_7, i_8, i_9, i_10, i_11, i_12, i_13, i_16, i_20, i_21, i_22, i_31, i_99, i_100, i_256, i_1000, nI_eq, nI_leI, nI_ltI, nI_add, pk_mul, ↓reduceIte, nt_le, nf_le, nt_lt, nf_lt, nt_eq, nf_eq, meet_N', meet_P', meet_S', meet_Z', meet_B', meet_O', n_1, n_2, n_3, n_4, n_5, n_10, n_11]
          · have c2 : ¬ a4 < nI n := ge_nlt (by omega) (hx.resolve_left h0)
            simp (disch := omega) only [e, h0, d1, c2, Option.bind_some, aI_n, aL_n, aQ_n, sA_n, sL_n, csA_n, i_0, i_1, i_2, i_3, i_4, i_5, i_6, i_7, i_8, i_9, i_10, i_11, i_12, i_13, i_16, i_20, i_21, i_22, i_31, i_99, i_100, i_256, i_1000, nI_eq, nI_leI, nI_ltI, nI_add, pk_mul, ↓reduceIte, nt_le, nf_le, nt_lt, nf_lt, nt_eq, nf_eq, meet_N', meet_P', meet_S', meet_Z', meet_B', meet_O', n_1, n_2, n_3, n_4, n_5, n_10, n_11]
        · unfold fX10_made fX10_made_J63
          by_cases h0 : a4 < nI 0
          · simp (disch := omega) only [isPl10_in hk, isPl10_in hp, t2.1, h0, Option.bind_some, aI_n, aL_n, aQ_n, sA_n, sL_n, csA_n, i_0, i_1, i_2, i_3, i_4, i_5, i_6, i_7, i_8, i_9, i_10, i_11, i_12, i_13, i_16, i_20, i_21, i_22, i_31, i_99, i_100, i_256, i_1000, nI_eq, nI_leI, nI_ltI, nI_add, pk_mul, ↓reduceIte, nt_le, nf_le, nt_lt, nf_lt, nt_eq, nf_eq, meet_N', meet_P', meet_S', meet_Z', meet_B', meet_O', n_1, n_2, n_3, n_4, n_5, n_10, n_11]
          · have c2 : ¬ a4 < nI n := ge_nlt (by omega) (hx.resolve_left h0)
            simp (disch := omega) only [isPl10_in hk, isPl10_in hp, t2.1, h0, c2, Option.bind_some, aI_n, aL_n, aQ_n, sA_n, sL_n, csA_n, i_0, i_1, i_2, i_3, i_4, i_5, i_6, i_7, i_8, i_9, i_10, i_11, i_12, i_13, i_16, i_20, i_21, i_22, i_31, i_99, i_100, i_256, i_1000, nI_eq, nI_leI, nI_ltI, nI_add, pk_mul, ↓reduceIte, nt_le, nf_le, nt_lt, nf_lt, nt_eq, nf_eq, meet_N', meet_P', meet_S', meet_Z', meet_B', meet_O', n_1, n_2, n_3, n_4, n_5, n_10, n_11]
      · by_cases v4 : v = 4
        · subst v4
          have c10 : fX10_made r (nI k) (nI p) (nI 4) (nI i) = fX10_made_J123 r (nI k) (nI p) (nI 4) (nI i) (nI 0) (nI n) := by
            unfold fX10_made fX10_made_J66 fX10_made_J81 fX10_made_J101
            simp (disch := omega) only [isPl10_in hk, isPl10_in hp, t2.1, Option.bind_some, aI_n, aL_n, aQ_n, sA_n, sL_n, csA_n, i_0, i_1, i_2, i_3, i_4, i_5, i_6, i_7, i_8, i_9, i_10, i_11, i_12, i_13, i_16, i_20, i_21, i_22, i_31, i_99, i_100, i_256, i_1000, nI_eq, nI_leI, nI_ltI, nI_add, pk_mul, ↓reduceIte, nt_le, nf_le, nt_lt, nf_lt, nt_eq, nf_eq, meet_N', meet_P', meet_S', meet_Z', meet_B', meet_O', n_1, n_2, n_3, n_4, n_5, n_10, n_11]
          have c9' : fX9_made_J26 o z (nI k) (nI p) (nI 4) (nI i) (nI 0) = fX9_made_J121 o z (nI p) (nI 4) (nI i) q (nI n) := by
            unfold fX9_made_J26 fX9_made_J67 fX9_made_J82 fX9_made_J101
            simp (disch := omega) only [e, d1, Option.bind_some, aI_n, aL_n, aQ_n, sA_n, sL_n, csA_n, i_0, i_1, i_2, i_3, i_4, i_5, i_6, i_7, i_8, i_9, i_10, i_11, i_12, i_13, i_16, i_20, i_21, i_22, i_31, i_99, i_100, i_256, i_1000, nI_eq, nI_leI, nI_ltI, nI_add, pk_mul, ↓reduceIte, nt_le, nf_le, nt_lt, nf_lt, nt_eq, nf_eq, meet_N', meet_P', meet_S', meet_Z', meet_B', meet_O', n_1, n_2, n_3, n_4, n_5, n_10, n_11]
          have hxl : ∀ x, x < 2 ^ n → x ^^^ 2 ^ i < 2 ^ n := fun x hx => Nat.xor_lt_two_pow hx (Nat.pow_lt_pow_right (by omega) hi)
          have HH2 := made_end (a4 := nI i) (l5 := nI 0) (m := n) (v := 4) (J := fun x => x ^^^ 2 ^ i) h hp hk hv t1 t2 n1 n8 hg d1 n1 n8 hxl (fun y x hx y1 y2 => ?_) (fun rr x hx i1 i2 => ?_)
          · obtain ⟨z', r', w1, w2, w3⟩ := HH2
            · exact ⟨_, _, c9.trans (c9'.trans w1), c10.trans w2, rfl, w3⟩
          · unfold fX9_madeFrom
            simp (disch := omega) only [shl1' i (by omega), nI_xor, Option.bind_some, aI_n, aL_n, aQ_n, sA_n, sL_n, csA_n, i_0, i_1, i_2, i_3, i_4, i_5, i_6, i_7, i_8, i_9, i_10, i_11, i_12, i_13, i_16, i_20, i_21, i_22, i_31, i_99, i_100, i_256, i_1000, nI_eq, nI_leI, nI_ltI, nI_add, pk_mul, ↓reduceIte, nt_le, nf_le, nt_lt, nf_lt, nt_eq, nf_eq, meet_N', meet_P', meet_S', meet_Z', meet_B', meet_O', n_1, n_2, n_3, n_4, n_5, n_10, n_11]
          · unfold fX10_made_L128
            simp (disch := omega) only [shl1' n (by omega), shl1' i (by omega), nI_xor, i2 _ (hxl x hx), Option.bind_some, aI_n, aL_n, aQ_n, sA_n, sL_n, csA_n, i_0, i_1, i_2, i_3, i_4, i_5, i_6, i_7, i_8, i_9, i_10, i_11, i_12, i_13, i_16, i_20, i_21, i_22, i_31, i_99, i_100, i_256, i_1000, nI_eq, nI_leI, nI_ltI, nI_add, pk_mul, ↓reduceIte, nt_le, nf_le, nt_lt, nf_lt, nt_eq, nf_eq, meet_N', meet_P', meet_S', meet_Z', meet_B', meet_O', n_1, n_2, n_3, n_4, n_5, n_10, n_11]
        · by_cases n1' : n = 1
          · subst n1'
            refine ⟨(-5, z), (-5, r), ?_, ?_, rfl, h⟩
            · rw [c9]
              unfold fX9_made_J26 fX9_made_J67 fX9_made_J77 fX9_made_J82
              rcases (show v = 2 ∨ v = 3 by omega) with rfl | rfl
              · simp (disch := omega) only [e, d1, Option.bind_some, aI_n, aL_n, aQ_n, sA_n, sL_n, csA_n, i_0, i_1, i_2, i_3, i_4, i_5, i_6, i_7, i_8, i_9, i_10, i_11, i_12, i_13, i_16, i_20, i_21, i_22, i_31, i_99, i_100, i_256, i_1000, nI_eq, nI_leI, nI_ltI, nI_add, pk_mul, ↓reduceIte, nt_le, nf_le, nt_lt, nf_lt, nt_eq, nf_eq, meet_N', meet_P', meet_S', meet_Z', meet_B', meet_O', n_1, n_2, n_3, n_4, n_5, n_10, n_11]
              · simp (disch := omega) only [e, d1, Option.bind_some, aI_n, aL_n, aQ_n, sA_n, sL_n, csA_n, i_0, i_1, i_2, i_3, i_4, i_5, i_6, i_7, i_8, i_9, i_10, i_11, i_12, i_13, i_16, i_20, i_21, i_22, i_31, i_99, i_100, i_256, i_1000, nI_eq, nI_leI, nI_ltI, nI_add, pk_mul, ↓reduceIte, nt_le, nf_le, nt_lt, nf_lt, nt_eq, nf_eq, meet_N', meet_P', meet_S', meet_Z', meet_B', meet_O', n_1, n_2, n_3, n_4, n_5, n_10, n_11]
            · unfold fX10_made fX10_made_J66 fX10_made_J76 fX10_made_J81
              rcases (show v = 2 ∨ v = 3 by omega) with rfl | rfl
              · simp (disch := omega) only [isPl10_in hk, isPl10_in hp, t2.1, Option.bind_some, aI_n, aL_n, aQ_n, sA_n, sL_n, csA_n, i_0, i_1, i_2, i_3, i_4, i_5, i_6, i_7, i_8, i_9, i_10, i_11, i_12, i_13, i_16, i_20, i_21, i_22, i_31, i_99, i_100, i_256, i_1000, nI_eq, nI_leI, nI_ltI, nI_add, pk_mul, ↓reduceIte, nt_le, nf_le, nt_lt, nf_lt, nt_eq, nf_eq, meet_N', meet_P', meet_S', meet_Z', meet_B', meet_O', n_1, n_2, n_3, n_4, n_5, n_10, n_11]
              · simp (disch := omega) only [isPl10_in hk, isPl10_in hp, t2.1, Option.bind_some, aI_n, aL_n, aQ_n, sA_n, sL_n, csA_n, i_0, i_1, i_2, i_3, i_4, i_5, i_6, i_7, i_8, i_9, i_10, i_11, i_12, i_13, i_16, i_20, i_21, i_22, i_31, i_99, i_100, i_256, i_1000, nI_eq, nI_leI, nI_ltI, nI_add, pk_mul, ↓reduceIte, nt_le, nf_le, nt_lt, nf_lt, nt_eq, nf_eq, meet_N', meet_P', meet_S', meet_Z', meet_B', meet_O', n_1, n_2, n_3, n_4, n_5, n_10, n_11]
          · have c10 : fX10_made r (nI k) (nI p) (nI v) (nI i) = fX10_made_J123 r (nI k) (nI p) (nI v) (nI i) (nI 1) (nI (n - 1)) := by
              unfold fX10_made fX10_made_J66 fX10_made_J76 fX10_made_J81 fX10_made_J101
              rcases (show v = 2 ∨ v = 3 by omega) with rfl | rfl
              · simp (disch := omega) only [isPl10_in hk, isPl10_in hp, t2.1, pk_sub, Option.bind_some, aI_n, aL_n, aQ_n, sA_n, sL_n, csA_n, i_0, i_1, i_2, i_3, i_4, i_5, i_6, i_7, i_8, i_9, i_10, i_11, i_12, i_13, i_16, i_20, i_21, i_22, i_31, i_99, i_100, i_256, i_1000, nI_eq, nI_leI, nI_ltI, nI_add, pk_mul, ↓reduceIte, nt_le, nf_le, nt_lt, nf_lt, nt_eq, nf_eq, meet_N', meet_P', meet_S', meet_Z', meet_B', meet_O', n_1, n_2, n_3, n_4, n_5, n_10, n_11]
              · simp (disch := omega) only [isPl10_in hk, isPl10_in hp, t2.1, pk_sub, Option.bind_some, aI_n, aL_n, aQ_n, sA_n, sL_n, csA_n, i_0, i_1, i_2, i_3, i_4, i_5, i_6, i_7, i_8, i_9, i_10, i_11, i_12, i_13, i_16, i_20, i_21, i_22, i_31, i_99, i_100, i_256, i_1000, nI_eq, nI_leI, nI_ltI, nI_add, pk_mul, ↓reduceIte, nt_le, nf_le, nt_lt, nf_lt, nt_eq, nf_eq, meet_N', meet_P', meet_S', meet_Z', meet_B', meet_O', n_1, n_2, n_3, n_4, n_5, n_10, n_11]
            have c9' : fX9_made_J26 o z (nI k) (nI p) (nI v) (nI i) (nI 0) = fX9_made_J121 o z (nI p) (nI v) (nI i) q (nI (n - 1)) := by
              unfold fX9_made_J26 fX9_made_J67 fX9_made_J77 fX9_made_J82 fX9_made_J101
              rcases (show v = 2 ∨ v = 3 by omega) with rfl | rfl
              · simp (disch := omega) only [e, d1, pk_sub, Option.bind_some, aI_n, aL_n, aQ_n, sA_n, sL_n, csA_n, i_0, i_1, i_2, i_3, i_4, i_5, i_6, i_7, i_8, i_9, i_10, i_11, i_12, i_13, i_16, i_20, i_21, i_22, i_31, i_99, i_100, i_256, i_1000, nI_eq, nI_leI, nI_ltI, nI_add, pk_mul, ↓reduceIte, nt_le, nf_le, nt_lt, nf_lt, nt_eq, nf_eq, meet_N', meet_P', meet_S', meet_Z', meet_B', meet_O', n_1, n_2, n_3, n_4, n_5, n_10, n_11]
              · simp (disch := omega) only [e, d1, pk_sub, Option.bind_some, aI_n, aL_n, aQ_n, sA_n, sL_n, csA_n, i_0, i_1, i_2, i_3, i_4, i_5, i_6, i_7, i_8, i_9, i_10, i_11, i_12, i_13, i_16, i_20, i_21, i_22, i_31, i_99, i_100, i_256, i_1000, nI_eq, nI_leI, nI_ltI, nI_add, pk_mul, ↓reduceIte, nt_le, nf_le, nt_lt, nf_lt, nt_eq, nf_eq, meet_N', meet_P', meet_S', meet_Z', meet_B', meet_O', n_1, n_2, n_3, n_4, n_5, n_10, n_11]
            have hxl : ∀ x, x < 2 ^ (n - 1) → ins x i (v - 2) < 2 ^ n := fun x hx => by
              have := ins_lt (n := n - 1) (x := x) (i := i) (v := v - 2) (by omega) (by omega) hx
              rw [show n - 1 + 1 = n by omega] at this
              exact this
            have hx128 : ∀ x, x < 2 ^ (n - 1) → x < 128 := fun x hx => Nat.lt_of_lt_of_le hx (Nat.pow_le_pow_right (n := 2) (by omega) (show n - 1 ≤ 7 by omega))
            have HH3 := made_end (a4 := nI i) (l5 := nI 1) (m := n - 1) (v := v) (J := fun x => ins x i (v - 2)) h hp hk hv t1 t2 n1 n8 hg d1 (by omega) (by omega) hxl (fun y x hx y1 y2 => ?_) (fun rr x hx i1 i2 => ?_)
            · obtain ⟨z', r', w1, w2, w3⟩ := HH3
              · exact ⟨_, _, c9.trans (c9'.trans w1), c10.trans w2, rfl, w3⟩
            · unfold fX9_madeFrom
              have w := (with_n x (hx128 x hx) i (by omega) (v - 2) (by omega)).1
              rcases (show v = 2 ∨ v = 3 by omega) with rfl | rfl
              · simp (disch := omega) only [show fX9_withBit (nI x) (nI i) (nI 0) = _ from w, Option.bind_some, aI_n, aL_n, aQ_n, sA_n, sL_n, csA_n, i_0, i_1, i_2, i_3, i_4, i_5, i_6, i_7, i_8, i_9, i_10, i_11, i_12, i_13, i_16, i_20, i_21, i_22, i_31, i_99, i_100, i_256, i_1000, nI_eq, nI_leI, nI_ltI, nI_add, pk_mul, ↓reduceIte, nt_le, nf_le, nt_lt, nf_lt, nt_eq, nf_eq, meet_N', meet_P', meet_S', meet_Z', meet_B', meet_O', n_1, n_2, n_3, n_4, n_5, n_10, n_11]
              · simp (disch := omega) only [show fX9_withBit (nI x) (nI i) (nI 1) = _ from w, Option.bind_some, aI_n, aL_n, aQ_n, sA_n, sL_n, csA_n, i_0, i_1, i_2, i_3, i_4, i_5, i_6, i_7, i_8, i_9, i_10, i_11, i_12, i_13, i_16, i_20, i_21, i_22, i_31, i_99, i_100, i_256, i_1000, nI_eq, nI_leI, nI_ltI, nI_add, pk_mul, ↓reduceIte, nt_le, nf_le, nt_lt, nf_lt, nt_eq, nf_eq, meet_N', meet_P', meet_S', meet_Z', meet_B', meet_O', n_1, n_2, n_3, n_4, n_5, n_10, n_11]
            · unfold fX10_made_L128
              have w := (with_n x (hx128 x hx) i (by omega) (v - 2) (by omega)).2
              have := hx128 x hx
              have := p2le (show n - 1 ≤ 8 by omega)
              rcases (show v = 2 ∨ v = 3 by omega) with rfl | rfl
              · simp (disch := omega) only [shl1' (n - 1) (by omega), pk_sub, show fX10_with (nI x) (nI i) (nI (2 - 2)) = _ from w, i2 _ (hxl x hx), Option.bind_some, aI_n, aL_n, aQ_n, sA_n, sL_n, csA_n, i_0, i_1, i_2, i_3, i_4, i_5, i_6, i_7, i_8, i_9, i_10, i_11, i_12, i_13, i_16, i_20, i_21, i_22, i_31, i_99, i_100, i_256, i_1000, nI_eq, nI_leI, nI_ltI, nI_add, pk_mul, ↓reduceIte, nt_le, nf_le, nt_lt, nf_lt, nt_eq, nf_eq, meet_N', meet_P', meet_S', meet_Z', meet_B', meet_O', n_1, n_2, n_3, n_4, n_5, n_10, n_11]
              · simp (disch := omega) only [shl1' (n - 1) (by omega), pk_sub, show fX10_with (nI x) (nI i) (nI (3 - 2)) = _ from w, i2 _ (hxl x hx), Option.bind_some, aI_n, aL_n, aQ_n, sA_n, sL_n, csA_n, i_0, i_1, i_2, i_3, i_4, i_5, i_6, i_7, i_8, i_9, i_10, i_11, i_12, i_13, i_16, i_20, i_21, i_22, i_31, i_99, i_100, i_256, i_1000, nI_eq, nI_leI, nI_ltI, nI_add, pk_mul, ↓reduceIte, nt_le, nf_le, nt_lt, nf_lt, nt_eq, nf_eq, meet_N', meet_P', meet_S', meet_Z', meet_B', meet_O', n_1, n_2, n_3, n_4, n_5, n_10, n_11]
