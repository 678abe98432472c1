/-! ===== poly, degree, sign, energy, pull: the reference ===== -/
theorem rem2 {a : Nat} (ha : a < 2 ^ 31) : nI a - nI a / nI 2 * nI 2 = nI (a % 2) := pk_rem ha (by omega) (by omega)
/-- a term of the reference's sum -/
def tp (g : Nat → Nat) (x y : Nat) : Int32 := if y &&& x = y then (if (pop x - pop y) % 2 = 0 then nI (g y) else -nI (g y)) else 0
theorem pop_n {x n : Nat} (n8 : n ≤ 8) (h : x < 2 ^ n) : pop9 x n = pop x := by
  have p2 := p2le n8
  rw [← pop9_p (by omega), show 9 = n + (9 - n) by omega, pop9_ext h]
theorem pop_sub {x y n : Nat} (n8 : n ≤ 8) (hx : x < 2 ^ n) (hy : y < 2 ^ n) (h : y &&& x = y) : pop y ≤ pop x := by
  have := (CCp_yes ((sub_and (n := n) hy).mpr h)).1
  rw [pop_n n8 hx, pop_n n8 hy] at this
  exact this
theorem tp_eq {g : Nat → Nat} {x y n : Nat} (n8 : n ≤ 8) (hx : x < 2 ^ n) (hy : y < 2 ^ n) : CC Kp n x y * nI (g y) = tp g x y := by
  unfold tp
  by_cases h : y &&& x = y
  · rw [if_pos h, (CCp_yes ((sub_and (n := n) hy).mpr h)).2, pop_n n8 hx, pop_n n8 hy]
    unfold sg1
    by_cases e : (pop x - pop y) % 2 = 0
    · rw [if_pos e, if_pos e, Int32.one_mul]
    · rw [if_neg e, if_neg e, Int32.neg_mul, Int32.one_mul]
  · rw [if_neg h, CCp_no (fun w => h ((sub_and (n := n) hy).mp w)), Int32.zero_mul]
theorem polyOf_n {r : RS} {p n x : Nat} {kd wt : Int32} {g : Nat → Nat} (hp : p < 16) (t2 : TkR r p n kd wt g) (n8 : n ≤ 8) (hx : x < 2 ^ n) : fX10_polyOf r (nI p) (nI x) = some (AA Kp (fun x => nI (g x)) n x) := by
  have p2 := p2le n8
  have key : lpN (fun u => fX10_polyOf_L5 r (nI p) (nI x) u.1 u.2) bigN (nI 0, nI 0) = some (sumI (tp g x) (x + 1)) := by
    refine lp_det (body := fun u => fX10_polyOf_L5 r (nI p) (nI x) u.1 u.2) (fun i => (sumI (tp g x) i, nI i)) (x + 1) (bigN_gt (by omega)) (fun i hi => ?_) ?_
    · have an := and_not (x := x) (y := i) (by omega) (by omega)
      unfold fX10_polyOf_L5 fX10_polyOf_L5_J54 fX10_polyOf_L5_J56
      have es : sumI (tp g x) (i + 1) = sumI (tp g x) i + tp g x i := rfl
      by_cases h : i &&& x = i
      · have c := an.mpr h
        have ps := pop_sub n8 hx (show i < 2 ^ n by omega) h
        have pl := pop_le x
        have hs := say0_n hp t2 n8 (show i < 2 ^ n by omega)
        by_cases e : (pop x - pop i) % 2 = 0
        · have et : tp g x i = nI (g i) := by unfold tp; rw [if_pos h, if_pos e]
          rw [es, et]
          simp (disch := omega) only [c, ones_n (show x < 256 by omega), ones_n (show i < 256 by omega), pk_sub, rem2, e, hs, Option.bind_some, aI_n, aL_n, aQ_n, sA_n, sL_n, csA_n, i_0, i_1, i_2, i_3, i_4, i_5, i_6, i_7, i_8, i_9, i_10, i_11, i_12, i_13, i_16, i_20, i_21, i_22, i_31, i_99, i_100, i_256, i_1000, nI_eq, nI_leI, nI_ltI, nI_add, pk_mul, ↓reduceIte, nt_le, nf_le, nt_lt, nf_lt, nt_eq, nf_eq, meet_N', meet_P', meet_S', meet_Z', meet_B', meet_O', n_1, n_2, n_3, n_4, n_5, n_10, n_11]
        · have et : tp g x i = -nI (g i) := by unfold tp; rw [if_pos h, if_neg e]
          rw [es, et]
          simp (disch := omega) only [c, ones_n (show x < 256 by omega), ones_n (show i < 256 by omega), pk_sub, rem2, hs, Option.bind_some, aI_n, aL_n, aQ_n, sA_n, sL_n, csA_n, i_0, i_1, i_2, i_3, i_4, i_5, i_6, i_7, i_8, i_9, i_10, i_11, i_12, i_13, i_16, i_20, i_21, i_22, i_31, i_99, i_100, i_256, i_1000, nI_eq, nI_leI, nI_ltI, nI_add, pk_mul, ↓reduceIte, nt_le, nf_le, nt_lt, nf_lt, nt_eq, nf_eq, meet_N', meet_P', meet_S', meet_Z', meet_B', meet_O', n_1, n_2, n_3, n_4, n_5, n_10, n_11]
      · have c : ¬ nI i &&& (nI x ^^^ -nI 1) = nI 0 := fun w => h (an.mp w)
        have et : tp g x i = 0 := by unfold tp; rw [if_neg h]
        rw [es, et, Int32.add_zero]
        simp (disch := omega) only [c, Option.bind_some, aI_n, aL_n, aQ_n, sA_n, sL_n, csA_n, i_0, i_1, i_2, i_3, i_4, i_5, i_6, i_7, i_8, i_9, i_10, i_11, i_12, i_13, i_16, i_20, i_21, i_22, i_31, i_99, i_100, i_256, i_1000, nI_eq, nI_leI, nI_ltI, nI_add, pk_mul, ↓reduceIte, nt_le, nf_le, nt_lt, nf_lt, nt_eq, nf_eq, meet_N', meet_P', meet_S', meet_Z', meet_B', meet_O', n_1, n_2, n_3, n_4, n_5, n_10, n_11]
    · unfold fX10_polyOf_L5
      simp (disch := omega) only [Option.bind_some, aI_n, aL_n, aQ_n, sA_n, sL_n, csA_n, i_0, i_1, i_2, i_3, i_4, i_5, i_6, i_7, i_8, i_9, i_10, i_11, i_12, i_13, i_16, i_20, i_21, i_22, i_31, i_99, i_100, i_256, i_1000, nI_eq, nI_leI, nI_ltI, nI_add, pk_mul, ↓reduceIte, nt_le, nf_le, nt_lt, nf_lt, nt_eq, nf_eq, meet_N', meet_P', meet_S', meet_Z', meet_B', meet_O', n_1, n_2, n_3, n_4, n_5, n_10, n_11]
  unfold fX10_polyOf
  refine (congrArg (fun u => u.bind fun e5 => some e5) key).trans ?_
  rw [AA_n _ _ hx, sumI_congr (g := tp g x) (fun l hl => tp_eq n8 hx hl), show 2 ^ n = (x + 1) + (2 ^ n - (x + 1)) by omega, sumI_add _ (x + 1) (2 ^ n - (x + 1)), sumI_zero (N := 2 ^ n - (x + 1)) (fun l hl => ?_), Int32.add_zero]
  · rfl
  · unfold tp
    rw [if_neg]
    intro w
    have : (x + 1 + l) &&& x ≤ x := Nat.and_le_right
    omega
def ts (g : Nat → Nat) (x y : Nat) : Int32 := if pop (y &&& x) % 2 = g y then 1 else -1
theorem ts_eq {g : Nat → Nat} {x y n : Nat} (n8 : n ≤ 8) (hx : x < 2 ^ n) (hy : y < 2 ^ n) (hg : g y ≤ 1) : CC Ks n x y * (nI 1 - nI (2 * g y)) = ts g x y := by
  have l : x &&& y ≤ y := Nat.and_le_right
  rw [CCs_eq, pop_n n8 (show x &&& y < 2 ^ n by omega), Nat.and_comm x y]
  unfold ts sg1
  have m2 : pop (y &&& x) % 2 < 2 := Nat.mod_lt _ (by omega)
  rcases (show g y = 0 ∨ g y = 1 by omega) with e | e
  · rw [e]
    rcases (show pop (y &&& x) % 2 = 0 ∨ pop (y &&& x) % 2 = 1 by omega) with c | c
    · rw [c]; decide
    · rw [c]; decide
  · rw [e]
    rcases (show pop (y &&& x) % 2 = 0 ∨ pop (y &&& x) % 2 = 1 by omega) with c | c
    · rw [c]; decide
    · rw [c]; decide
theorem signOf_n {r : RS} {p n x : Nat} {kd wt : Int32} {g : Nat → Nat} (hp : p < 16) (t2 : TkR r p n kd wt g) (n8 : n ≤ 8) (hg : ∀ y, y < 2 ^ n → g y ≤ 1) (hx : x < 2 ^ n) : fX10_signOf r (nI p) (nI x) = some (AA Ks (fun x => nI 1 - nI (2 * g x)) n x) := by
  have p2 := p2le n8
  have key : lpN (fun u => fX10_signOf_L5 r (nI p) (nI x) u.1 u.2) bigN (nI 0, nI 0) = some (sumI (ts g x) (2 ^ n)) := by
    refine lp_det (body := fun u => fX10_signOf_L5 r (nI p) (nI x) u.1 u.2) (fun i => (sumI (ts g x) i, nI i)) (2 ^ n) (bigN_gt (by omega)) (fun i hi => ?_) ?_
    · have l : i &&& x ≤ i := Nat.and_le_left
      have pl := pop_le (i &&& x)
      have gl := hg i hi
      have hs := say0_n hp t2 n8 hi
      unfold fX10_signOf_L5 fX10_signOf_L5_J40
      have es : sumI (ts g x) (i + 1) = sumI (ts g x) i + ts g x i := rfl
      by_cases e : pop (i &&& x) % 2 = g i
      · have et : ts g x i = nI 1 := by unfold ts; rw [if_pos e]; rfl
        rw [es, et]
        simp (disch := omega) only [inputs_n hp t2.1 n8, nI_and, ones_n (show i &&& x < 256 by omega), rem2, hs, Option.bind_some, aI_n, aL_n, aQ_n, sA_n, sL_n, csA_n, i_0, i_1, i_2, i_3, i_4, i_5, i_6, i_7, i_8, i_9, i_10, i_11, i_12, i_13, i_16, i_20, i_21, i_22, i_31, i_99, i_100, i_256, i_1000, nI_eq, nI_leI, nI_ltI, nI_add, pk_mul, ↓reduceIte, nt_le, nf_le, nt_lt, nf_lt, nt_eq, nf_eq, meet_N', meet_P', meet_S', meet_Z', meet_B', meet_O', n_1, n_2, n_3, n_4, n_5, n_10, n_11]
      · have et : ts g x i = -nI 1 := by unfold ts; rw [if_neg e]; rfl
        rw [es, et]
        simp (disch := omega) only [inputs_n hp t2.1 n8, nI_and, ones_n (show i &&& x < 256 by omega), rem2, hs, Option.bind_some, aI_n, aL_n, aQ_n, sA_n, sL_n, csA_n, i_0, i_1, i_2, i_3, i_4, i_5, i_6, i_7, i_8, i_9, i_10, i_11, i_12, i_13, i_16, i_20, i_21, i_22, i_31, i_99, i_100, i_256, i_1000, nI_eq, nI_leI, nI_ltI, nI_add, pk_mul, ↓reduceIte, nt_le, nf_le, nt_lt, nf_lt, nt_eq, nf_eq, meet_N', meet_P', meet_S', meet_Z', meet_B', meet_O', n_1, n_2, n_3, n_4, n_5, n_10, n_11]
    · unfold fX10_signOf_L5
      simp (disch := omega) only [inputs_n hp t2.1 n8, Option.bind_some, aI_n, aL_n, aQ_n, sA_n, sL_n, csA_n, i_0, i_1, i_2, i_3, i_4, i_5, i_6, i_7, i_8, i_9, i_10, i_11, i_12, i_13, i_16, i_20, i_21, i_22, i_31, i_99, i_100, i_256, i_1000, nI_eq, nI_leI, nI_ltI, nI_add, pk_mul, ↓reduceIte, nt_le, nf_le, nt_lt, nf_lt, nt_eq, nf_eq, meet_N', meet_P', meet_S', meet_Z', meet_B', meet_O', n_1, n_2, n_3, n_4, n_5, n_10, n_11]
  unfold fX10_signOf
  refine (congrArg (fun u => u.bind fun e5 => some e5) key).trans ?_
  rw [AA_n _ _ hx, sumI_congr (g := ts g x) (fun l hl => ts_eq n8 hx hl (hg l hl))]
  rfl
theorem told_le {g : Nat → Nat} {n : Nat} (hg : ∀ x, g x ≤ 2) (h : cnt g 2 (2 ^ n) = 0) : ∀ y, y < 2 ^ n → g y ≤ 1 := fun y hy => by
  have h1 := told_cnt.mpr h y hy
  have h2 := hg y
  omega
theorem St_poly_ok : St_poly Sim := by
  intro o z r a1 a2 h
  obtain ⟨h1, h2, h3, -⟩ := id h
  unfold fX9_poly fX9_poly_J21 fX10_poly fX10_poly_J40
  rcases plc h3 a1 with hx | ⟨k, hk, rfl, e, e'⟩ | ⟨k, q, n, kd, wt, g, b, hk, rfl, e, t1, t2, n1, n8, hg, d1, d2, d3, p2, p1⟩
  · refine ⟨(0, z), (0, r), ?_, ?_, rfl, h⟩
    · simp (disch := omega) only [told9_out hx, Option.bind_some, aI_n, aL_n, aQ_n, sA_n, sL_n, csA_n, i_0, i_1, i_2, i_3, i_4, i_5, i_6, i_7, i_8, i_9, i_10, i_11, i_12, i_13, i_16, i_20, i_21, i_22, i_31, i_99, i_100, i_256, i_1000, nI_eq, nI_leI, nI_ltI, nI_add, pk_mul, ↓reduceIte, nt_le, nf_le, nt_lt, nf_lt, nt_eq, nf_eq, meet_N', meet_P', meet_S', meet_Z', meet_B', meet_O', n_1, n_2, n_3, n_4, n_5, n_10, n_11]
    · simp (disch := omega) only [isPl10_out hx, Option.bind_some, aI_n, aL_n, aQ_n, sA_n, sL_n, csA_n, i_0, i_1, i_2, i_3, i_4, i_5, i_6, i_7, i_8, i_9, i_10, i_11, i_12, i_13, i_16, i_20, i_21, i_22, i_31, i_99, i_100, i_256, i_1000, nI_eq, nI_leI, nI_ltI, nI_add, pk_mul, ↓reduceIte, nt_le, nf_le, nt_lt, nf_lt, nt_eq, nf_eq, meet_N', meet_P', meet_S', meet_Z', meet_B', meet_O', n_1, n_2, n_3, n_4, n_5, n_10, n_11]
  · refine ⟨(0, _), (0, _), ?_, ?_, rfl, Sim_met h⟩
    · simp (disch := omega) only [told9_no hk e, Option.bind_some, aI_n, aL_n, aQ_n, sA_n, sL_n, csA_n, i_0, i_1, i_2, i_3, i_4, i_5, i_6, i_7, i_8, i_9, i_10, i_11, i_12, i_13, i_16, i_20, i_21, i_22, i_31, i_99, i_100, i_256, i_1000, nI_eq, nI_leI, nI_ltI, nI_add, pk_mul, ↓reduceIte, nt_le, nf_le, nt_lt, nf_lt, nt_eq, nf_eq, meet_N', meet_P', meet_S', meet_Z', meet_B', meet_O', n_1, n_2, n_3, n_4, n_5, n_10, n_11] <;> rfl
    · simp (disch := omega) only [isPl10_in hk, askT_no hk e', Option.bind_some, aI_n, aL_n, aQ_n, sA_n, sL_n, csA_n, i_0, i_1, i_2, i_3, i_4, i_5, i_6, i_7, i_8, i_9, i_10, i_11, i_12, i_13, i_16, i_20, i_21, i_22, i_31, i_99, i_100, i_256, i_1000, nI_eq, nI_leI, nI_ltI, nI_add, pk_mul, ↓reduceIte, nt_le, nf_le, nt_lt, nf_lt, nt_eq, nf_eq, meet_N', meet_P', meet_S', meet_Z', meet_B', meet_O', n_1, n_2, n_3, n_4, n_5, n_10, n_11] <;> rfl
  · have hk16 : k < 16 := by omega
    by_cases ht : cnt g 2 (2 ^ n) = 0
    · have f1 := told9_yes (o := o) hk e t1
      have f2 := askT_yes hk t2 n1 n8 hg
      rw [if_pos ht] at f1 f2
      rcases ix a2 (n := 2 ^ n) (by omega) with hx | ⟨x, hx, rfl⟩
      · refine ⟨(0, z), (0, r), ?_, ?_, rfl, h⟩
        · simp (disch := omega) only [f1, e, d1, hasIn_out t1 hx, Option.bind_some, aI_n, aL_n, aQ_n, sA_n, sL_n, csA_n, i_0, i_1, i_2, i_3, i_4, i_5, i_6, i_7, i_8, i_9, i_10, i_11, i_12, i_13, i_16, i_20, i_21, i_22, i_31, i_99, i_100, i_256, i_1000, nI_eq, nI_leI, nI_ltI, nI_add, pk_mul, ↓reduceIte, nt_le, nf_le, nt_lt, nf_lt, nt_eq, nf_eq, meet_N', meet_P', meet_S', meet_Z', meet_B', meet_O', n_1, n_2, n_3, n_4, n_5, n_10, n_11]
        · by_cases h0 : a2 < nI 0
          · simp (disch := omega) only [isPl10_in hk, f2, h0, Option.bind_some, aI_n, aL_n, aQ_n, sA_n, sL_n, csA_n, i_0, i_1, i_2, i_3, i_4, i_5, i_6, i_7, i_8, i_9, i_10, i_11, i_12, i_13, i_16, i_20, i_21, i_22, i_31, i_99, i_100, i_256, i_1000, nI_eq, nI_leI, nI_ltI, nI_add, pk_mul, ↓reduceIte, nt_le, nf_le, nt_lt, nf_lt, nt_eq, nf_eq, meet_N', meet_P', meet_S', meet_Z', meet_B', meet_O', n_1, n_2, n_3, n_4, n_5, n_10, n_11]
          · have c2 : ¬ a2 < nI (2 ^ n) := ge_nlt (by omega) (hx.resolve_left h0)
            simp (disch := omega) only [isPl10_in hk, f2, h0, inputs_n hk16 t2.1 n8, c2, Option.bind_some, aI_n, aL_n, aQ_n, sA_n, sL_n, csA_n, i_0, i_1, i_2, i_3, i_4, i_5, i_6, i_7, i_8, i_9, i_10, i_11, i_12, i_13, i_16, i_20, i_21, i_22, i_31, i_99, i_100, i_256, i_1000, nI_eq, nI_leI, nI_ltI, nI_add, pk_mul, ↓reduceIte, nt_le, nf_le, nt_lt, nf_lt, nt_eq, nf_eq, meet_N', meet_P', meet_S', meet_Z', meet_B', meet_O', n_1, n_2, n_3, n_4, n_5, n_10, n_11]
      · obtain ⟨f, u2, u3⟩ := TkB t1 d1
        obtain ⟨z', w1, w2, w3⟩ := loadP_n (o := o) n8 d1 u2 u3
        refine ⟨(AA Kp (fun x => nI (g x)) n x, z'), (AA Kp (fun x => nI (g x)) n x, r), ?_, ?_, rfl, Sim_zr h w2⟩
        · simp (disch := omega) only [f1, e, d1, hasIn_in t1 hx, w1, w3 x hx, Option.bind_some, aI_n, aL_n, aQ_n, sA_n, sL_n, csA_n, i_0, i_1, i_2, i_3, i_4, i_5, i_6, i_7, i_8, i_9, i_10, i_11, i_12, i_13, i_16, i_20, i_21, i_22, i_31, i_99, i_100, i_256, i_1000, nI_eq, nI_leI, nI_ltI, nI_add, pk_mul, ↓reduceIte, nt_le, nf_le, nt_lt, nf_lt, nt_eq, nf_eq, meet_N', meet_P', meet_S', meet_Z', meet_B', meet_O', n_1, n_2, n_3, n_4, n_5, n_10, n_11]
        · simp (disch := omega) only [isPl10_in hk, f2, inputs_n hk16 t2.1 n8, polyOf_n hk16 t2 n8 hx, Option.bind_some, aI_n, aL_n, aQ_n, sA_n, sL_n, csA_n, i_0, i_1, i_2, i_3, i_4, i_5, i_6, i_7, i_8, i_9, i_10, i_11, i_12, i_13, i_16, i_20, i_21, i_22, i_31, i_99, i_100, i_256, i_1000, nI_eq, nI_leI, nI_ltI, nI_add, pk_mul, ↓reduceIte, nt_le, nf_le, nt_lt, nf_lt, nt_eq, nf_eq, meet_N', meet_P', meet_S', meet_Z', meet_B', meet_O', n_1, n_2, n_3, n_4, n_5, n_10, n_11]
    · have f1 := told9_yes (o := o) hk e t1
      have f2 := askT_yes hk t2 n1 n8 hg
      rw [if_neg ht] at f1 f2
      refine ⟨(0, z), (0, r), ?_, ?_, rfl, h⟩
      · simp (disch := omega) only [f1, Option.bind_some, aI_n, aL_n, aQ_n, sA_n, sL_n, csA_n, i_0, i_1, i_2, i_3, i_4, i_5, i_6, i_7, i_8, i_9, i_10, i_11, i_12, i_13, i_16, i_20, i_21, i_22, i_31, i_99, i_100, i_256, i_1000, nI_eq, nI_leI, nI_ltI, nI_add, pk_mul, ↓reduceIte, nt_le, nf_le, nt_lt, nf_lt, nt_eq, nf_eq, meet_N', meet_P', meet_S', meet_Z', meet_B', meet_O', n_1, n_2, n_3, n_4, n_5, n_10, n_11]
      · simp (disch := omega) only [isPl10_in hk, f2, Option.bind_some, aI_n, aL_n, aQ_n, sA_n, sL_n, csA_n, i_0, i_1, i_2, i_3, i_4, i_5, i_6, i_7, i_8, i_9, i_10, i_11, i_12, i_13, i_16, i_20, i_21, i_22, i_31, i_99, i_100, i_256, i_1000, nI_eq, nI_leI, nI_ltI, nI_add, pk_mul, ↓reduceIte, nt_le, nf_le, nt_lt, nf_lt, nt_eq, nf_eq, meet_N', meet_P', meet_S', meet_Z', meet_B', meet_O', n_1, n_2, n_3, n_4, n_5, n_10, n_11]
theorem St_sign_ok : St_sign Sim := by
  intro o z r a1 a2 h
  obtain ⟨h1, h2, h3, -⟩ := id h
  unfold fX9_sign fX9_sign_J21 fX10_sign fX10_sign_J40
  rcases plc h3 a1 with hx | ⟨k, hk, rfl, e, e'⟩ | ⟨k, q, n, kd, wt, g, b, hk, rfl, e, t1, t2, n1, n8, hg, d1, d2, d3, p2, p1⟩
  · refine ⟨(0, z), (0, r), ?_, ?_, rfl, h⟩
    · simp (disch := omega) only [told9_out hx, Option.bind_some, aI_n, aL_n, aQ_n, sA_n, sL_n, csA_n, i_0, i_1, i_2, i_3, i_4, i_5, i_6, i_7, i_8, i_9, i_10, i_11, i_12, i_13, i_16, i_20, i_21, i_22, i_31, i_99, i_100, i_256, i_1000, nI_eq, nI_leI, nI_ltI, nI_add, pk_mul, ↓reduceIte, nt_le, nf_le, nt_lt, nf_lt, nt_eq, nf_eq, meet_N', meet_P', meet_S', meet_Z', meet_B', meet_O', n_1, n_2, n_3, n_4, n_5, n_10, n_11]
    · simp (disch := omega) only [isPl10_out hx, Option.bind_some, aI_n, aL_n, aQ_n, sA_n, sL_n, csA_n, i_0, i_1, i_2, i_3, i_4, i_5, i_6, i_7, i_8, i_9, i_10, i_11, i_12, i_13, i_16, i_20, i_21, i_22, i_31, i_99, i_100, i_256, i_1000, nI_eq, nI_leI, nI_ltI, nI_add, pk_mul, ↓reduceIte, nt_le, nf_le, nt_lt, nf_lt, nt_eq, nf_eq, meet_N', meet_P', meet_S', meet_Z', meet_B', meet_O', n_1, n_2, n_3, n_4, n_5, n_10, n_11]
  · refine ⟨(0, _), (0, _), ?_, ?_, rfl, Sim_met h⟩
    · simp (disch := omega) only [told9_no hk e, Option.bind_some, aI_n, aL_n, aQ_n, sA_n, sL_n, csA_n, i_0, i_1, i_2, i_3, i_4, i_5, i_6, i_7, i_8, i_9, i_10, i_11, i_12, i_13, i_16, i_20, i_21, i_22, i_31, i_99, i_100, i_256, i_1000, nI_eq, nI_leI, nI_ltI, nI_add, pk_mul, ↓reduceIte, nt_le, nf_le, nt_lt, nf_lt, nt_eq, nf_eq, meet_N', meet_P', meet_S', meet_Z', meet_B', meet_O', n_1, n_2, n_3, n_4, n_5, n_10, n_11] <;> rfl
    · simp (disch := omega) only [isPl10_in hk, askT_no hk e', Option.bind_some, aI_n, aL_n, aQ_n, sA_n, sL_n, csA_n, i_0, i_1, i_2, i_3, i_4, i_5, i_6, i_7, i_8, i_9, i_10, i_11, i_12, i_13, i_16, i_20, i_21, i_22, i_31, i_99, i_100, i_256, i_1000, nI_eq, nI_leI, nI_ltI, nI_add, pk_mul, ↓reduceIte, nt_le, nf_le, nt_lt, nf_lt, nt_eq, nf_eq, meet_N', meet_P', meet_S', meet_Z', meet_B', meet_O', n_1, n_2, n_3, n_4, n_5, n_10, n_11] <;> rfl
  · have hk16 : k < 16 := by omega
    by_cases ht : cnt g 2 (2 ^ n) = 0
    · have f1 := told9_yes (o := o) hk e t1
      have f2 := askT_yes hk t2 n1 n8 hg
      rw [if_pos ht] at f1 f2
      rcases ix a2 (n := 2 ^ n) (by omega) with hx | ⟨x, hx, rfl⟩
      · refine ⟨(0, z), (0, r), ?_, ?_, rfl, h⟩
        · simp (disch := omega) only [f1, e, d1, hasIn_out t1 hx, Option.bind_some, aI_n, aL_n, aQ_n, sA_n, sL_n, csA_n, i_0, i_1, i_2, i_3, i_4, i_5, i_6, i_7, i_8, i_9, i_10, i_11, i_12, i_13, i_16, i_20, i_21, i_22, i_31, i_99, i_100, i_256, i_1000, nI_eq, nI_leI, nI_ltI, nI_add, pk_mul, ↓reduceIte, nt_le, nf_le, nt_lt, nf_lt, nt_eq, nf_eq, meet_N', meet_P', meet_S', meet_Z', meet_B', meet_O', n_1, n_2, n_3, n_4, n_5, n_10, n_11]
        · by_cases h0 : a2 < nI 0
          · simp (disch := omega) only [isPl10_in hk, f2, h0, Option.bind_some, aI_n, aL_n, aQ_n, sA_n, sL_n, csA_n, i_0, i_1, i_2, i_3, i_4, i_5, i_6, i_7, i_8, i_9, i_10, i_11, i_12, i_13, i_16, i_20, i_21, i_22, i_31, i_99, i_100, i_256, i_1000, nI_eq, nI_leI, nI_ltI, nI_add, pk_mul, ↓reduceIte, nt_le, nf_le, nt_lt, nf_lt, nt_eq, nf_eq, meet_N', meet_P', meet_S', meet_Z', meet_B', meet_O', n_1, n_2, n_3, n_4, n_5, n_10, n_11]
          · have c2 : ¬ a2 < nI (2 ^ n) := ge_nlt (by omega) (hx.resolve_left h0)
            simp (disch := omega) only [isPl10_in hk, f2, h0, inputs_n hk16 t2.1 n8, c2, Option.bind_some, aI_n, aL_n, aQ_n, sA_n, sL_n, csA_n, i_0, i_1, i_2, i_3, i_4, i_5, i_6, i_7, i_8, i_9, i_10, i_11, i_12, i_13, i_16, i_20, i_21, i_22, i_31, i_99, i_100, i_256, i_1000, nI_eq, nI_leI, nI_ltI, nI_add, pk_mul, ↓reduceIte, nt_le, nf_le, nt_lt, nf_lt, nt_eq, nf_eq, meet_N', meet_P', meet_S', meet_Z', meet_B', meet_O', n_1, n_2, n_3, n_4, n_5, n_10, n_11]
      · obtain ⟨f, u2, u3⟩ := TkB t1 d1
        obtain ⟨z', w1, w2, w3⟩ := loadS_n (o := o) n8 d1 u2 u3
        refine ⟨(AA Ks (fun x => nI 1 - nI (2 * g x)) n x, z'), (AA Ks (fun x => nI 1 - nI (2 * g x)) n x, r), ?_, ?_, rfl, Sim_zr h w2⟩
        · simp (disch := omega) only [f1, e, d1, hasIn_in t1 hx, w1, w3 x hx, Option.bind_some, aI_n, aL_n, aQ_n, sA_n, sL_n, csA_n, i_0, i_1, i_2, i_3, i_4, i_5, i_6, i_7, i_8, i_9, i_10, i_11, i_12, i_13, i_16, i_20, i_21, i_22, i_31, i_99, i_100, i_256, i_1000, nI_eq, nI_leI, nI_ltI, nI_add, pk_mul, ↓reduceIte, nt_le, nf_le, nt_lt, nf_lt, nt_eq, nf_eq, meet_N', meet_P', meet_S', meet_Z', meet_B', meet_O', n_1, n_2, n_3, n_4, n_5, n_10, n_11]
        · simp (disch := omega) only [isPl10_in hk, f2, inputs_n hk16 t2.1 n8, signOf_n hk16 t2 n8 (told_le hg ht) hx, Option.bind_some, aI_n, aL_n, aQ_n, sA_n, sL_n, csA_n, i_0, i_1, i_2, i_3, i_4, i_5, i_6, i_7, i_8, i_9, i_10, i_11, i_12, i_13, i_16, i_20, i_21, i_22, i_31, i_99, i_100, i_256, i_1000, nI_eq, nI_leI, nI_ltI, nI_add, pk_mul, ↓reduceIte, nt_le, nf_le, nt_lt, nf_lt, nt_eq, nf_eq, meet_N', meet_P', meet_S', meet_Z', meet_B', meet_O', n_1, n_2, n_3, n_4, n_5, n_10, n_11]
    · have f1 := told9_yes (o := o) hk e t1
      have f2 := askT_yes hk t2 n1 n8 hg
      rw [if_neg ht] at f1 f2
      refine ⟨(0, z), (0, r), ?_, ?_, rfl, h⟩
      · simp (disch := omega) only [f1, Option.bind_some, aI_n, aL_n, aQ_n, sA_n, sL_n, csA_n, i_0, i_1, i_2, i_3, i_4, i_5, i_6, i_7, i_8, i_9, i_10, i_11, i_12, i_13, i_16, i_20, i_21, i_22, i_31, i_99, i_100, i_256, i_1000, nI_eq, nI_leI, nI_ltI, nI_add, pk_mul, ↓reduceIte, nt_le, nf_le, nt_lt, nf_lt, nt_eq, nf_eq, meet_N', meet_P', meet_S', meet_Z', meet_B', meet_O', n_1, n_2, n_3, n_4, n_5, n_10, n_11]
      · simp (disch := omega) only [isPl10_in hk, f2, Option.bind_some, aI_n, aL_n, aQ_n, sA_n, sL_n, csA_n, i_0, i_1, i_2, i_3, i_4, i_5, i_6, i_7, i_8, i_9, i_10, i_11, i_12, i_13, i_16, i_20, i_21, i_22, i_31, i_99, i_100, i_256, i_1000, nI_eq, nI_leI, nI_ltI, nI_add, pk_mul, ↓reduceIte, nt_le, nf_le, nt_lt, nf_lt, nt_eq, nf_eq, meet_N', meet_P', meet_S', meet_Z', meet_B', meet_O', n_1, n_2, n_3, n_4, n_5, n_10, n_11]
