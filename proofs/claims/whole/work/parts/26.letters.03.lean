/-- a row of bits as a number -/
def nmF (g : Nat → Nat) : Nat → Nat
  | 0 => 0
  | x + 1 => nmF g x + g x * 2 ^ x
theorem nmF_lt {g : Nat → Nat} {N : Nat} (h : ∀ x, x < N → g x ≤ 1) : nmF g N < 2 ^ N := by
  induction N with
  | zero => exact Nat.one_pos
  | succ N ih =>
    have a := ih (fun x hx => h x (by omega))
    have b := Nat.mul_le_mul_right (2 ^ N) (h N (by omega))
    show nmF g N + g N * 2 ^ N < 2 ^ (N + 1)
    rw [Nat.pow_succ]
    omega
theorem or_bit {a v x : Nat} (ha : a < 2 ^ x) (hv : v ≤ 1) : a ||| v * 2 ^ x = a + v * 2 ^ x := by
  rcases (show v = 0 ∨ v = 1 by omega) with c | c
  · rw [c, Nat.zero_mul, Nat.or_zero, Nat.add_zero]
  · rw [c, Nat.one_mul, or_pow ha]
theorem shl_bit {v x : Nat} (hv : v ≤ 1) (hx : x < 9) : nI v <<< (nI x &&& nI 31) = nI (v * 2 ^ x) := by
  refine shlN (by omega) ?_
  have a := Nat.mul_le_mul_right (2 ^ x) hv
  have b : 2 ^ x ≤ 2 ^ 8 := Nat.pow_le_pow_right (by omega) (by omega)
  omega
theorem vrF_nm (i N : Nat) : vrF i N = nmF (fun x => bt x i) N := by
  induction N with
  | zero => rfl
  | succ N ih =>
    show vrF i N + bt N i * 2 ^ N = nmF (fun x => bt x i) N + bt N i * 2 ^ N
    rw [ih]
theorem nm_ext {n : Nat} (h1 : 1 ≤ n) (h3 : n ≤ 3) (g : Nat → Nat) : nmF (fun x => g (x % 2 ^ n)) 8 = nmF g (2 ^ n) * mulN n := by
  rcases (show n = 1 ∨ n = 2 ∨ n = 3 by omega) with rfl | rfl | rfl
  · show (((((((0 + g 0 * 1) + g 1 * 2) + g 0 * 4) + g 1 * 8) + g 0 * 16) + g 1 * 32) + g 0 * 64) + g 1 * 128 = (0 + g 0 * 1 + g 1 * 2) * 85
    omega
  · show (((((((0 + g 0 * 1) + g 1 * 2) + g 2 * 4) + g 3 * 8) + g 0 * 16) + g 1 * 32) + g 2 * 64) + g 3 * 128 = (0 + g 0 * 1 + g 1 * 2 + g 2 * 4 + g 3 * 8) * 17
    omega
  · show (((((((0 + g 0 * 1) + g 1 * 2) + g 2 * 4) + g 3 * 8) + g 4 * 16) + g 5 * 32) + g 6 * 64) + g 7 * 128 = ((((((((0 + g 0 * 1) + g 1 * 2) + g 2 * 4) + g 3 * 8) + g 4 * 16) + g 5 * 32) + g 6 * 64) + g 7 * 128) * 1
    omega
/-- the reference's letters -/
theorem let_ref {r : RS} {p n : Nat} {kd wt : Int32} {g : Nat → Nat} (hp : p < 8) (h1 : 1 ≤ n) (h3 : n ≤ 3) (t2 : TkR r p n kd wt g) (hg : ∀ x, g x ≤ 2) (ht : cnt g 2 (2 ^ n) = 0) : ∃ r', fX10_letters r (nI p) = some (nI (Ln n (nmF g (2 ^ n))), r') ∧ RLt r r' := by
  have n8 : n ≤ 8 := by omega
  have hp16 : p < 16 := by omega
  have b := Mn_b h1 h3
  have F := LeF_ok h1 h3
  have tl := told_le hg ht
  have pn : 2 ^ n ≤ 8 := Nat.pow_le_pow_right (n := 2) (j := 3) (by omega) h3
  have pn2 : 2 ^ 2 ^ n = Mn n + 1 := by
    have : 0 < 2 ^ 2 ^ n := Nat.two_pow_pos _
    unfold Mn
    omega
  have f2 := askT_yes hp t2 h1 n8 hg
  rw [if_pos ht] at f2
  have eM : nI 1 <<< (nI (2 ^ n) &&& nI 31) - nI 1 = nI (Mn n) := by
    rw [shl1' (2 ^ n) (by omega), pn2, pk_sub (by omega), Nat.add_sub_cancel]
  have eM' : nI (Mn n + 1) - nI 1 = nI (Mn n) := by rw [pk_sub (by omega), Nat.add_sub_cancel]
  have l45 : ∀ l3, lpN (fun u => fX10_letters_L45 r (nI p) l3 u.1 u.2) bigN (nI 0, nI 0) = some (nI (nmF g (2 ^ n))) := by
    intro l3
    refine lp_det (body := fun u => fX10_letters_L45 r (nI p) l3 u.1 u.2) (fun i => (nI (nmF g i), nI i)) (2 ^ n) (bigN_gt (by omega)) (fun i hi => ?_) ?_
    · have a := nmF_lt (g := g) (N := i) (fun x hx => tl x (by omega))
      have gl := tl i hi
      unfold fX10_letters_L45
      simp (disch := omega) only [inputs_n hp16 t2.1 n8, say0_n hp16 t2 n8 hi, shl_bit gl (show i < 9 by omega), nI_or, or_bit a gl, Option.bind_some, aI_n, aL_n, aQ_n, sA_n, sL_n, csA_n, i_0, i_1, i_2, i_3, i_4, i_5, i_6, i_7, i_8, i_9, i_10, i_11, i_12, i_13, i_16, i_20, i_21, i_22, i_31, i_99, i_100, i_256, i_1000, nI_eq, nI_leI, nI_ltI, nI_add, pk_mul, ↓reduceIte, nt_le, nf_le, nt_lt, nf_lt, nt_eq, nf_eq, meet_N', meet_P', meet_S', meet_Z', meet_B', meet_O', n_1, n_2, n_3, n_4, n_5, n_10, n_11]
      rfl
    · unfold fX10_letters_L45
      simp (disch := omega) only [inputs_n hp16 t2.1 n8, Option.bind_some, aI_n, aL_n, aQ_n, sA_n, sL_n, csA_n, i_0, i_1, i_2, i_3, i_4, i_5, i_6, i_7, i_8, i_9, i_10, i_11, i_12, i_13, i_16, i_20, i_21, i_22, i_31, i_99, i_100, i_256, i_1000, nI_eq, nI_leI, nI_ltI, nI_add, pk_mul, ↓reduceIte, nt_le, nf_le, nt_lt, nf_lt, nt_eq, nf_eq, meet_N', meet_P', meet_S', meet_Z', meet_B', meet_O', n_1, n_2, n_3, n_4, n_5, n_10, n_11]
  have tb := nmF_lt (g := g) (N := 2 ^ n) tl
  rw [pn2] at tb
  obtain ⟨e8, a1, a2, a3, a4, a5, -⟩ := fillA (body := fun u => fX10_letters_L79 u.2 (nI p) (nI (Mn n)) (nI (nmF g (2 ^ n))) u.1) (r0 := r) (k := 28) (base := 0) (N := Mn n + 1) (v := fun _ => nI 1000) (by omega) (fun i rr hi _ _ _ _ _ => by
    show fX10_letters_L79 rr (nI p) (nI (Mn n)) (nI (nmF g (2 ^ n))) (nI i) = _
    rw [Nat.zero_add]
    unfold fX10_letters_L79
    simp (disch := omega) only [Option.bind_some, aI_n, aL_n, aQ_n, sA_n, sL_n, csA_n, i_0, i_1, i_2, i_3, i_4, i_5, i_6, i_7, i_8, i_9, i_10, i_11, i_12, i_13, i_16, i_20, i_21, i_22, i_31, i_99, i_100, i_256, i_1000, nI_eq, nI_leI, nI_ltI, nI_add, pk_mul, ↓reduceIte, nt_le, nf_le, nt_lt, nf_lt, nt_eq, nf_eq, meet_N', meet_P', meet_S', meet_Z', meet_B', meet_O', n_1, n_2, n_3, n_4, n_5, n_10, n_11]) (fun rr _ _ _ => by
    unfold fX10_letters_L79
    simp (disch := omega) only [Option.bind_some, aI_n, aL_n, aQ_n, sA_n, sL_n, csA_n, i_0, i_1, i_2, i_3, i_4, i_5, i_6, i_7, i_8, i_9, i_10, i_11, i_12, i_13, i_16, i_20, i_21, i_22, i_31, i_99, i_100, i_256, i_1000, nI_eq, nI_leI, nI_ltI, nI_add, pk_mul, ↓reduceIte, nt_le, nf_le, nt_lt, nf_lt, nt_eq, nf_eq, meet_N', meet_P', meet_S', meet_Z', meet_B', meet_O', n_1, n_2, n_3, n_4, n_5, n_10, n_11])
  have z8 : RLt r e8 := ⟨a2, a3, a4⟩
  have HV := lp_count (body := fun u => fX10_letters_L104 u.2 (nI p) (nI (Mn n)) (nI (nmF g (2 ^ n))) u.1) (fun i s => s.1 = nI i ∧ RLt r s.2 ∧ ∃ R, TbR n s.2 R ∧ (∀ t, t ≤ Mn n → Ln n t ≤ R t ∧ R t ≤ 1000 ∧ R (Mn n - t) = R t) ∧ ∀ j, j < i → R (vr n j) ≤ 1) n (fun e => RLt r e ∧ ∃ R, TbR n e R ∧ GTb n R) (bigN_gt (by omega)) (fun i s hi hs => ?_) (fun s hs => ?_) (s := (nI 0, e8)) ⟨rfl, z8, fun _ => 1000, fun t ht => by have := a5 t (by omega); rw [Nat.zero_add] at this; exact this, fun t ht => ⟨?_, Nat.le_refl _, rfl⟩, fun j hj => by omega⟩
  · obtain ⟨e14, b1, b2, R, b3, b4⟩ := HV
    obtain ⟨e21, c1, R', c2, c3, c4, c5⟩ := let181 (l4 := nI (nmF g (2 ^ n))) h1 h3 b2 b3 b4
    have fin := let_end h1 h3 c4 c5
    refine ⟨e21, ?_, c2⟩
    unfold fX10_letters fX10_letters_J290
    by_cases t0 : nmF g (2 ^ n) = 0
    · rw [t0] at a1 b1 c1 l45 ⊢
      rw [F.2.2.2.2.2.1]
      simp (disch := omega) only [f2, t2.1, inputs_n hp16 t2.1 n8, shl1' (2 ^ n) (by omega), pn2, eM', l45, a1, b1, c1, Option.bind_some, aI_n, aL_n, aQ_n, sA_n, sL_n, csA_n, i_0, i_1, i_2, i_3, i_4, i_5, i_6, i_7, i_8, i_9, i_10, i_11, i_12, i_13, i_16, i_20, i_21, i_22, i_31, i_99, i_100, i_256, i_1000, nI_eq, nI_leI, nI_ltI, nI_add, pk_mul, ↓reduceIte, nt_le, nf_le, nt_lt, nf_lt, nt_eq, nf_eq, meet_N', meet_P', meet_S', meet_Z', meet_B', meet_O', n_1, n_2, n_3, n_4, n_5, n_10, n_11]
    · by_cases tM : nmF g (2 ^ n) = Mn n
      · rw [tM] at a1 b1 c1 l45 ⊢
        rw [F.2.2.2.2.2.2]
        simp (disch := omega) only [f2, t2.1, inputs_n hp16 t2.1 n8, shl1' (2 ^ n) (by omega), pn2, eM', l45, a1, b1, c1, Option.bind_some, aI_n, aL_n, aQ_n, sA_n, sL_n, csA_n, i_0, i_1, i_2, i_3, i_4, i_5, i_6, i_7, i_8, i_9, i_10, i_11, i_12, i_13, i_16, i_20, i_21, i_22, i_31, i_99, i_100, i_256, i_1000, nI_eq, nI_leI, nI_ltI, nI_add, pk_mul, ↓reduceIte, nt_le, nf_le, nt_lt, nf_lt, nt_eq, nf_eq, meet_N', meet_P', meet_S', meet_Z', meet_B', meet_O', n_1, n_2, n_3, n_4, n_5, n_10, n_11]
      · have v := c3 (nmF g (2 ^ n)) (by omega)
        rw [fin _ (by omega) (by omega)] at v
        simp (disch := omega) only [f2, t2.1, inputs_n hp16 t2.1 n8, shl1' (2 ^ n) (by omega), pn2, eM', l45, a1, b1, c1, v, Option.bind_some, aI_n, aL_n, aQ_n, sA_n, sL_n, csA_n, i_0, i_1, i_2, i_3, i_4, i_5, i_6, i_7, i_8, i_9, i_10, i_11, i_12, i_13, i_16, i_20, i_21, i_22, i_31, i_99, i_100, i_256, i_1000, nI_eq, nI_leI, nI_ltI, nI_add, pk_mul, ↓reduceIte, nt_le, nf_le, nt_lt, nf_lt, nt_eq, nf_eq, meet_N', meet_P', meet_S', meet_Z', meet_B', meet_O', n_1, n_2, n_3, n_4, n_5, n_10, n_11]
  · obtain ⟨l, rr⟩ := s
    obtain ⟨rfl, s1, R, s2, s3, s4⟩ := hs
    simp only at s1 s2
    have t2' : TkR rr p n kd wt g := RSame.tk (r := r) ⟨by rw [s1.2.2 0 (by omega)], by rw [s1.2.2 1 (by omega)], by rw [s1.2.2 2 (by omega)], fun x _ => by rw [s1.2.2 3 (by omega)]⟩ n8 t2
    have vb := F.2.2.2.2.1 i hi
    have l121 : lpN (fun u => fX10_letters_L121 rr (nI p) (nI (Mn n)) (nI (nmF g (2 ^ n))) (nI i) u.1 u.2) bigN (nI 0, nI 0) = some (nI (vr n i)) := by
      refine lp_det (body := fun u => fX10_letters_L121 rr (nI p) (nI (Mn n)) (nI (nmF g (2 ^ n))) (nI i) u.1 u.2) (fun x => (nI (vrF i x), nI x)) (2 ^ n) (bigN_gt (by omega)) (fun x hx => ?_) ?_
      · have bl := bt_lt x i
        have a : vrF i x < 2 ^ x := by
          rw [vrF_nm]
          exact nmF_lt (fun x' _ => by have := bt_lt x' i; show bt x' i ≤ 1; omega)
        unfold fX10_letters_L121
        simp (disch := omega) only [inputs_n hp16 t2'.1 n8, bitB (show x < 2 ^ 31 by omega) (show i < 32 by omega), shl_bit (show bt x i ≤ 1 by omega) (show x < 9 by omega), nI_or, or_bit a (show bt x i ≤ 1 by omega), Option.bind_some, aI_n, aL_n, aQ_n, sA_n, sL_n, csA_n, i_0, i_1, i_2, i_3, i_4, i_5, i_6, i_7, i_8, i_9, i_10, i_11, i_12, i_13, i_16, i_20, i_21, i_22, i_31, i_99, i_100, i_256, i_1000, nI_eq, nI_leI, nI_ltI, nI_add, pk_mul, ↓reduceIte, nt_le, nf_le, nt_lt, nf_lt, nt_eq, nf_eq, meet_N', meet_P', meet_S', meet_Z', meet_B', meet_O', n_1, n_2, n_3, n_4, n_5, n_10, n_11]
        rfl
      · unfold fX10_letters_L121
        simp (disch := omega) only [inputs_n hp16 t2'.1 n8, Option.bind_some, aI_n, aL_n, aQ_n, sA_n, sL_n, csA_n, i_0, i_1, i_2, i_3, i_4, i_5, i_6, i_7, i_8, i_9, i_10, i_11, i_12, i_13, i_16, i_20, i_21, i_22, i_31, i_99, i_100, i_256, i_1000, nI_eq, nI_leI, nI_ltI, nI_add, pk_mul, ↓reduceIte, nt_le, nf_le, nt_lt, nf_lt, nt_eq, nf_eq, meet_N', meet_P', meet_S', meet_Z', meet_B', meet_O', n_1, n_2, n_3, n_4, n_5, n_10, n_11]
        rfl
    refine ⟨(nI (i + 1), rA (rA rr 28 (vr n i) (nI 1)) 28 (Mn n - vr n i) (nI 1)), ?_, rfl, s1.up.up, fun t => if t = Mn n - vr n i ∨ t = vr n i then 1 else R t, fun t ht => ?_, fun t ht => ?_, fun j hj => ?_⟩
    · unfold fX10_letters_L104
      simp (disch := omega) only [t2'.1, l121, cplM h1 h3 (show vr n i ≤ Mn n by omega), Option.bind_some, aI_n, aL_n, aQ_n, sA_n, sL_n, csA_n, i_0, i_1, i_2, i_3, i_4, i_5, i_6, i_7, i_8, i_9, i_10, i_11, i_12, i_13, i_16, i_20, i_21, i_22, i_31, i_99, i_100, i_256, i_1000, nI_eq, nI_leI, nI_ltI, nI_add, pk_mul, ↓reduceIte, nt_le, nf_le, nt_lt, nf_lt, nt_eq, nf_eq, meet_N', meet_P', meet_S', meet_Z', meet_B', meet_O', n_1, n_2, n_3, n_4, n_5, n_10, n_11]
    · show (rA (rA rr 28 (vr n i) (nI 1)) 28 (Mn n - vr n i) (nI 1)).2.1 28 t = nI (if t = Mn n - vr n i ∨ t = vr n i then 1 else R t)
      by_cases e : t = Mn n - vr n i
      · rw [if_pos (Or.inl e), e]; exact rA_s
      · rw [rA_j e]
        by_cases e2 : t = vr n i
        · rw [if_pos (Or.inr e2), e2]; exact rA_s
        · rw [rA_j e2, if_neg (fun w => w.elim e e2)]; exact s2 t ht
    · show Ln n t ≤ (if t = Mn n - vr n i ∨ t = vr n i then 1 else R t) ∧ (if t = Mn n - vr n i ∨ t = vr n i then 1 else R t) ≤ 1000 ∧ (if Mn n - t = Mn n - vr n i ∨ Mn n - t = vr n i then 1 else R (Mn n - t)) = (if t = Mn n - vr n i ∨ t = vr n i then 1 else R t)
      have hsym : (Mn n - t = Mn n - vr n i ∨ Mn n - t = vr n i) ↔ (t = Mn n - vr n i ∨ t = vr n i) := by omega
      by_cases e : t = Mn n - vr n i ∨ t = vr n i
      · rw [if_pos e, if_pos (hsym.mpr e)]
        refine ⟨?_, by omega, rfl⟩
        rcases e with e | e
        · rw [e, (F.2.1 (vr n i) (by omega)).1]; exact vb.1
        · rw [e]; exact vb.1
      · rw [if_neg e, if_neg (fun w => e (hsym.mp w))]
        exact s3 t ht
    · show (if vr n j = Mn n - vr n i ∨ vr n j = vr n i then 1 else R (vr n j)) ≤ 1
      by_cases e : vr n j = Mn n - vr n i ∨ vr n j = vr n i
      · rw [if_pos e]; exact Nat.le_refl _
      · rw [if_neg e]
        by_cases ej : j = i
        · rw [ej] at e; exact absurd (Or.inr rfl) e
        · exact s4 j (by omega)
  · obtain ⟨l, rr⟩ := s
    obtain ⟨rfl, s1, R, s2, s3, s4⟩ := hs
    simp only at s1 s2
    have t0 : rr.2.1 0 p = nI n := by rw [s1.2.2 0 (by omega)]; exact t2.1
    refine ⟨rr, ?_, s1, R, s2, s3, s4⟩
    unfold fX10_letters_L104
    simp (disch := omega) only [t0, Option.bind_some, aI_n, aL_n, aQ_n, sA_n, sL_n, csA_n, i_0, i_1, i_2, i_3, i_4, i_5, i_6, i_7, i_8, i_9, i_10, i_11, i_12, i_13, i_16, i_20, i_21, i_22, i_31, i_99, i_100, i_256, i_1000, nI_eq, nI_leI, nI_ltI, nI_add, pk_mul, ↓reduceIte, nt_le, nf_le, nt_lt, nf_lt, nt_eq, nf_eq, meet_N', meet_P', meet_S', meet_Z', meet_B', meet_O', n_1, n_2, n_3, n_4, n_5, n_10, n_11]
  · have : Ln n t ≤ 10 := by
      have hm : t * mulN n ≤ Mn n * mulN n := Nat.mul_le_mul_right _ ht
      exact (ltB (t * mulN n) (by omega)).2.1
    show Ln n t ≤ 1000
    omega
theorem Sim_le {o : Nat} {z e : CS} {r : RS} (h : Sim o z r) (hz : ZL z e) (ht : ∀ t, t < 256 → e.2.1 16 t = nI (LT t)) : Sim o (cI e 11 (nI 1)) r := by
  obtain ⟨g1, g2, g3, g4, g5, g6, g7, g8, g9, g10, g11, g12, g13⟩ := h
  obtain ⟨a1, a2, a3⟩ := hz
  have b1 : ∀ k, k ≠ 11 → (cI e 11 (nI 1)).1 k = z.1 k := fun k hk => by rw [cI_n hk, a1]
  have hp : (cI e 11 (nI 1)).2.2.2.2 = z.2.2.2.2 := by show e.2.2.2.2 = _; rw [a3]
  have h3 : (cI e 11 (nI 1)).2.2.1 = z.2.2.1 := by show e.2.2.1 = _; rw [a3]
  have h4 : (cI e 11 (nI 1)).2.2.2.1 = z.2.2.2.1 := by show e.2.2.2.1 = _; rw [a3]
  have b2 : ∀ k, k ≠ 16 → (cI e 11 (nI 1)).2.1 k = z.2.1 k := a2
  have ge : TkGe z (cI e 11 (nI 1)) := TkGe_id (by rw [hp])
  refine ⟨?_, ?_, ?_, ?_, ?_, ?_, g7, ?_, ?_, Or.inr ⟨cI_e, ht⟩, ?_, ?_, ?_⟩
  · unfold PoolOK cpl cn at g1 ⊢
    rw [hp]; exact g1
  · exact ShR_ge g2 (pool_ge hp) (ShR_okd g2) (by rw [h3]) ⟨rfl, rfl, rfl⟩
  · exact PlR_all g3 ge (fun j _ => by rw [h3]) (fun p _ => RSame.rf)
  · exact PlR_all g4 ge (fun j _ => by rw [h3]) (fun p _ => RSame.rf)
  · unfold WtR at g5 ⊢
    rw [b1 1 (by omega), b2 0 (by omega)]; exact g5
  · unfold ScR at g6 ⊢
    rw [b1 3 (by omega), b1 0 (by omega), b1 2 (by omega)]; exact g6
  · unfold TrR at g8 ⊢
    rw [b1 6 (by omega), b2 3 (by omega), b2 4 (by omega), b2 5 (by omega)]; exact g8
  · unfold FoR at g9 ⊢
    rw [b1 9 (by omega), b2 13 (by omega)]; exact g9
  · exact CuR_ge g11 ge (by rw [h4]) (b1 5 (by omega)) (b1 4 (by omega)) (b2 1 (by omega)) (b2 2 (by omega))
  · exact CuR_ge g12 ge (by rw [h4]) (b1 16 (by omega)) (b1 15 (by omega)) (b2 17 (by omega)) (b2 18 (by omega))
  · exact GaR_ge g13 ge (by rw [h4]) ⟨b1 12 (by omega), b1 13 (by omega), b1 14 (by omega), b1 15 (by omega)⟩ ⟨rfl, rfl, rfl, rfl⟩
theorem few_n {o : Nat} {y : CS} {q n b : Nat} {kd wt : Int32} {g : Nat → Nat} {f : Nat → Int32} (h1 : 1 ≤ n) (h3 : n ≤ 3) (d1 : dT y q = some (kd, nI n, wt, some b)) (u2 : dB y b = some (2 ^ n, f)) (u3 : ∀ x, f x = nI (g x)) (tl : ∀ x, x < 2 ^ n → g x ≤ 1) (ht : ∀ t, t < 256 → y.2.1 16 t = nI (LT t)) : fX4_fewestFor_J16 o y q = some (nI (Ln n (nmF g (2 ^ n))), y) := by
  have pn : 2 ^ n ≤ 8 := Nat.pow_le_pow_right (n := 2) (j := 3) (by omega) h3
  have pp := p2pos (n := n)
  obtain ⟨y2, y3⟩ := rd_f u2 u3 (show n ≤ 8 by omega)
  have mt : ∀ x, x % 2 ^ n < 2 ^ n := fun x => Nat.mod_lt _ (Nat.two_pow_pos n)
  have tl' : ∀ N x, x < N → (fun x => g (x % 2 ^ n)) x ≤ 1 := fun N x _ => tl _ (mt x)
  have key : lpN (fun u => fX4_fewestFor_L20 o y q u.1 u.2) bigN (nI 0, nI 0) = some (nI (nmF (fun x => g (x % 2 ^ n)) 8)) := by
    refine lp_det (body := fun u => fX4_fewestFor_L20 o y q u.1 u.2) (fun i => (nI (nmF (fun x => g (x % 2 ^ n)) i), nI i)) 8 (bigN_gt (by omega)) (fun i hi => ?_) ?_
    · have a := nmF_lt (g := fun x => g (x % 2 ^ n)) (N := i) (tl' i)
      have gl := tl _ (mt i)
      have e1 : nI i &&& nI (2 ^ n - 1) = nI (i % 2 ^ n) := by rw [nI_and, andm]
      unfold fX4_fewestFor_L20
      simp (disch := omega) only [d1, y2, pk_sub, e1, y3 _ (mt i), shl_bit gl (show i < 9 by omega), nI_or, or_bit a gl, Option.bind_some, aI_n, aL_n, aQ_n, sA_n, sL_n, csA_n, i_0, i_1, i_2, i_3, i_4, i_5, i_6, i_7, i_8, i_9, i_10, i_11, i_12, i_13, i_16, i_20, i_21, i_22, i_31, i_99, i_100, i_256, i_1000, nI_eq, nI_leI, nI_ltI, nI_add, pk_mul, ↓reduceIte, nt_le, nf_le, nt_lt, nf_lt, nt_eq, nf_eq, meet_N', meet_P', meet_S', meet_Z', meet_B', meet_O', n_1, n_2, n_3, n_4, n_5, n_10, n_11]
      rfl
    · unfold fX4_fewestFor_L20
      simp (disch := omega) only [Option.bind_some, aI_n, aL_n, aQ_n, sA_n, sL_n, csA_n, i_0, i_1, i_2, i_3, i_4, i_5, i_6, i_7, i_8, i_9, i_10, i_11, i_12, i_13, i_16, i_20, i_21, i_22, i_31, i_99, i_100, i_256, i_1000, nI_eq, nI_leI, nI_ltI, nI_add, pk_mul, ↓reduceIte, nt_le, nf_le, nt_lt, nf_lt, nt_eq, nf_eq, meet_N', meet_P', meet_S', meet_Z', meet_B', meet_O', n_1, n_2, n_3, n_4, n_5, n_10, n_11]
  have lt := nmF_lt (g := fun x => g (x % 2 ^ n)) (N := 8) (tl' 8)
  have v := ht _ (show nmF (fun x => g (x % 2 ^ n)) 8 < 256 from lt)
  unfold fX4_fewestFor_J16
  refine (congrArg (fun u => u.bind fun e7 => (aI 256 (y.2.1 16) e7).bind fun v8 => some (v8, y)) key).trans ?_
  simp (disch := omega) only [v, Option.bind_some, aI_n, aL_n, aQ_n, sA_n, sL_n, csA_n, i_0, i_1, i_2, i_3, i_4, i_5, i_6, i_7, i_8, i_9, i_10, i_11, i_12, i_13, i_16, i_20, i_21, i_22, i_31, i_99, i_100, i_256, i_1000, nI_eq, nI_leI, nI_ltI, nI_add, pk_mul, ↓reduceIte, nt_le, nf_le, nt_lt, nf_lt, nt_eq, nf_eq, meet_N', meet_P', meet_S', meet_Z', meet_B', meet_O', n_1, n_2, n_3, n_4, n_5, n_10, n_11]
  rw [nm_ext h1 h3 g]
  rfl
theorem St_letters_ok : St_letters Sim := by
  intro o z r a1 h
  obtain ⟨h1, h2, h3, h4, h5, h6, h7, h8, h9, h10, -⟩ := id h
  unfold fX9_letters
  rcases plc h3 a1 with hx | ⟨k, hk, rfl, e, e'⟩ | ⟨k, q, n, kd, wt, g, b, hk, rfl, e, t1, t2, n1, n8, hg, d1, d2, d3, p2, p1⟩
  · refine ⟨(-2, z), (-2, r), ?_, ?_, rfl, h⟩
    · simp (disch := omega) only [told9_out hx, Option.bind_some, aI_n, aL_n, aQ_n, sA_n, sL_n, csA_n, i_0, i_1, i_2, i_3, i_4, i_5, i_6, i_7, i_8, i_9, i_10, i_11, i_12, i_13, i_16, i_20, i_21, i_22, i_31, i_99, i_100, i_256, i_1000, nI_eq, nI_leI, nI_ltI, nI_add, pk_mul, ↓reduceIte, nt_le, nf_le, nt_lt, nf_lt, nt_eq, nf_eq, meet_N', meet_P', meet_S', meet_Z', meet_B', meet_O', n_1, n_2, n_3, n_4, n_5, n_10, n_11]
    · unfold fX10_letters
      simp (disch := omega) only [askT_out hx, Option.bind_some, aI_n, aL_n, aQ_n, sA_n, sL_n, csA_n, i_0, i_1, i_2, i_3, i_4, i_5, i_6, i_7, i_8, i_9, i_10, i_11, i_12, i_13, i_16, i_20, i_21, i_22, i_31, i_99, i_100, i_256, i_1000, nI_eq, nI_leI, nI_ltI, nI_add, pk_mul, ↓reduceIte, nt_le, nf_le, nt_lt, nf_lt, nt_eq, nf_eq, meet_N', meet_P', meet_S', meet_Z', meet_B', meet_O', n_1, n_2, n_3, n_4, n_5, n_10, n_11]
  · refine ⟨(-10, _), (-10, _), ?_, ?_, rfl, Sim_met h⟩
    · simp (disch := omega) only [told9_no hk e, Option.bind_some, aI_n, aL_n, aQ_n, sA_n, sL_n, csA_n, i_0, i_1, i_2, i_3, i_4, i_5, i_6, i_7, i_8, i_9, i_10, i_11, i_12, i_13, i_16, i_20, i_21, i_22, i_31, i_99, i_100, i_256, i_1000, nI_eq, nI_leI, nI_ltI, nI_add, pk_mul, ↓reduceIte, nt_le, nf_le, nt_lt, nf_lt, nt_eq, nf_eq, meet_N', meet_P', meet_S', meet_Z', meet_B', meet_O', n_1, n_2, n_3, n_4, n_5, n_10, n_11] <;> rfl
    · unfold fX10_letters
      simp (disch := omega) only [askT_no hk e', Option.bind_some, aI_n, aL_n, aQ_n, sA_n, sL_n, csA_n, i_0, i_1, i_2, i_3, i_4, i_5, i_6, i_7, i_8, i_9, i_10, i_11, i_12, i_13, i_16, i_20, i_21, i_22, i_31, i_99, i_100, i_256, i_1000, nI_eq, nI_leI, nI_ltI, nI_add, pk_mul, ↓reduceIte, nt_le, nf_le, nt_lt, nf_lt, nt_eq, nf_eq, meet_N', meet_P', meet_S', meet_Z', meet_B', meet_O', n_1, n_2, n_3, n_4, n_5, n_10, n_11] <;> rfl
  · have f1 := told9_yes (o := o) hk e t1
    have f2 := askT_yes hk t2 n1 n8 hg
    by_cases ht : cnt g 2 (2 ^ n) = 0
    · rw [if_pos ht] at f1 f2
      by_cases n3 : n ≤ 3
      · obtain ⟨r', w1, w2⟩ := let_ref hk n1 n3 t2 hg ht
        obtain ⟨f, u2, u3⟩ := TkB t1 d1
        have hs : Sim o z r' := Sim_r h (fun k _ => by rw [w2.1]) (fun k hk => w2.2.2 k (by omega)) (by rw [w2.2.1])
        have tl := told_le hg ht
        rcases h10 with l0 | ⟨l1, l2⟩
        · obtain ⟨ee, c1, c2, c3⟩ := learn_n (o := o) (z := z)
          have dz : dT (cI ee 11 (nI 1)) q = some (kd, nI n, wt, some b) := by
            have : dT (cI ee 11 (nI 1)) q = dT z q := by show dT ee q = _; unfold dT cpl; rw [c2.2.2]
            rw [this]; exact d1
          have db : dB (cI ee 11 (nI 1)) b = some (2 ^ n, f) := by
            have : dB (cI ee 11 (nI 1)) b = dB z b := by show dB ee b = _; unfold dB cpl; rw [c2.2.2]
            rw [this]; exact u2
          have fw := few_n (o := o) n1 n3 dz db u3 tl c3
          have l0' : z.1 11 = nI 0 := l0
          refine ⟨(nI (Ln n (nmF g (2 ^ n))), cI ee 11 (nI 1)), (nI (Ln n (nmF g (2 ^ n))), r'), ?_, w1, rfl, Sim_le hs c2 c3⟩
          unfold fX4_fewestFor
          simp (disch := omega) only [f1, e, d1, l0', c1, fw, Option.bind_some, aI_n, aL_n, aQ_n, sA_n, sL_n, csA_n, i_0, i_1, i_2, i_3, i_4, i_5, i_6, i_7, i_8, i_9, i_10, i_11, i_12, i_13, i_16, i_20, i_21, i_22, i_31, i_99, i_100, i_256, i_1000, nI_eq, nI_leI, nI_ltI, nI_add, pk_mul, ↓reduceIte, nt_le, nf_le, nt_lt, nf_lt, nt_eq, nf_eq, meet_N', meet_P', meet_S', meet_Z', meet_B', meet_O', n_1, n_2, n_3, n_4, n_5, n_10, n_11]
        · have fw := few_n (o := o) n1 n3 d1 u2 u3 tl l2
          have l1' : z.1 11 = nI 1 := l1
          refine ⟨(nI (Ln n (nmF g (2 ^ n))), z), (nI (Ln n (nmF g (2 ^ n))), r'), ?_, w1, rfl, hs⟩
          unfold fX4_fewestFor
          simp (disch := omega) only [f1, e, d1, l1', fw, Option.bind_some, aI_n, aL_n, aQ_n, sA_n, sL_n, csA_n, i_0, i_1, i_2, i_3, i_4, i_5, i_6, i_7, i_8, i_9, i_10, i_11, i_12, i_13, i_16, i_20, i_21, i_22, i_31, i_99, i_100, i_256, i_1000, nI_eq, nI_leI, nI_ltI, nI_add, pk_mul, ↓reduceIte, nt_le, nf_le, nt_lt, nf_lt, nt_eq, nf_eq, meet_N', meet_P', meet_S', meet_Z', meet_B', meet_O', n_1, n_2, n_3, n_4, n_5, n_10, n_11]
      · refine ⟨(-5, z), (-5, r), ?_, ?_, rfl, h⟩
        · simp (disch := omega) only [f1, e, d1, Option.bind_some, aI_n, aL_n, aQ_n, sA_n, sL_n, csA_n, i_0, i_1, i_2, i_3, i_4, i_5, i_6, i_7, i_8, i_9, i_10, i_11, i_12, i_13, i_16, i_20, i_21, i_22, i_31, i_99, i_100, i_256, i_1000, nI_eq, nI_leI, nI_ltI, nI_add, pk_mul, ↓reduceIte, nt_le, nf_le, nt_lt, nf_lt, nt_eq, nf_eq, meet_N', meet_P', meet_S', meet_Z', meet_B', meet_O', n_1, n_2, n_3, n_4, n_5, n_10, n_11]
        · unfold fX10_letters
          simp (disch := omega) only [f2, t2.1, Option.bind_some, aI_n, aL_n, aQ_n, sA_n, sL_n, csA_n, i_0, i_1, i_2, i_3, i_4, i_5, i_6, i_7, i_8, i_9, i_10, i_11, i_12, i_13, i_16, i_20, i_21, i_22, i_31, i_99, i_100, i_256, i_1000, nI_eq, nI_leI, nI_ltI, nI_add, pk_mul, ↓reduceIte, nt_le, nf_le, nt_lt, nf_lt, nt_eq, nf_eq, meet_N', meet_P', meet_S', meet_Z', meet_B', meet_O', n_1, n_2, n_3, n_4, n_5, n_10, n_11]
    · rw [if_neg ht] at f1 f2
      refine ⟨(-4, z), (-4, r), ?_, ?_, rfl, h⟩
      · simp (disch := omega) only [f1, Option.bind_some, aI_n, aL_n, aQ_n, sA_n, sL_n, csA_n, i_0, i_1, i_2, i_3, i_4, i_5, i_6, i_7, i_8, i_9, i_10, i_11, i_12, i_13, i_16, i_20, i_21, i_22, i_31, i_99, i_100, i_256, i_1000, nI_eq, nI_leI, nI_ltI, nI_add, pk_mul, ↓reduceIte, nt_le, nf_le, nt_lt, nf_lt, nt_eq, nf_eq, meet_N', meet_P', meet_S', meet_Z', meet_B', meet_O', n_1, n_2, n_3, n_4, n_5, n_10, n_11]
      · unfold fX10_letters
        simp (disch := omega) only [f2, Option.bind_some, aI_n, aL_n, aQ_n, sA_n, sL_n, csA_n, i_0, i_1, i_2, i_3, i_4, i_5, i_6, i_7, i_8, i_9, i_10, i_11, i_12, i_13, i_16, i_20, i_21, i_22, i_31, i_99, i_100, i_256, i_1000, nI_eq, nI_leI, nI_ltI, nI_add, pk_mul, ↓reduceIte, nt_le, nf_le, nt_lt, nf_lt, nt_eq, nf_eq, meet_N', meet_P', meet_S', meet_Z', meet_B', meet_O', n_1, n_2, n_3, n_4, n_5, n_10, n_11]
