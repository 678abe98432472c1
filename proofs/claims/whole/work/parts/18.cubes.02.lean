theorem pow_n {n : Nat} (hn : n ≤ 8) : fX1_powerOf (nI n) = some (nI (3 ^ n)) := by
  have h6 := p3le hn
  have key : lpN (fun u => fX1_powerOf_L4 (nI n) u.1 u.2) bigN (nI 1, nI 0) = some (nI (3 ^ n)) := by
    refine lp_det (body := fun u => fX1_powerOf_L4 (nI n) u.1 u.2) (fun i => (nI (3 ^ i), nI i)) n (e := nI (3 ^ n)) (bigN_gt (by omega)) (fun i hi => ?_) ?_
    · unfold fX1_powerOf_L4
      rw [Nat.pow_succ]
      simp (disch := omega) only [Option.bind_some, aI_n, aL_n, aQ_n, sA_n, sL_n, csA_n, i_0, i_1, i_2, i_3, i_4, i_5, i_6, i_7, i_8, i_9, i_10, i_11, i_12, i_13, i_16, i_20, i_21, i_22, i_31, i_99, i_100, i_256, i_1000, nI_eq, nI_leI, nI_ltI, nI_add, pk_mul, ↓reduceIte, nt_le, nf_le, nt_lt, nf_lt, nt_eq, nf_eq, meet_N', meet_P', meet_S', meet_Z', meet_B', meet_O', n_1, n_2, n_3, n_4, n_5, n_10, n_11]
    · unfold fX1_powerOf_L4
      simp (disch := omega) only [Option.bind_some, aI_n, aL_n, aQ_n, sA_n, sL_n, csA_n, i_0, i_1, i_2, i_3, i_4, i_5, i_6, i_7, i_8, i_9, i_10, i_11, i_12, i_13, i_16, i_20, i_21, i_22, i_31, i_99, i_100, i_256, i_1000, nI_eq, nI_leI, nI_ltI, nI_add, pk_mul, ↓reduceIte, nt_le, nf_le, nt_lt, nf_lt, nt_eq, nf_eq, meet_N', meet_P', meet_S', meet_Z', meet_B', meet_O', n_1, n_2, n_3, n_4, n_5, n_10, n_11]
  unfold fX1_powerOf
  exact (congrArg (fun u => u.bind fun e1 => some e1) key).trans rfl
theorem b8h : ∀ v, v ≤ 3 → (nI v).toInt8.toInt32 = nI v := by decide
theorem cAr_n {z : CS} {k i j : Nat} {x : Int32} (h : j ≠ k) : (cAr z k i x).2.1 j = z.2.1 j := if_neg h
theorem cAr_e {z : CS} {k i : Nat} {x : Int32} : (cAr z k i x).2.1 k = upd (z.2.1 k) i x := if_pos rfl
theorem or_le3 {a b : Nat} (ha : a ≤ 3) (hb : b ≤ 3) : a ||| b ≤ 3 := by
  have : a ||| b < 2 ^ 2 := Nat.or_lt_two_pow (by omega) (by omega)
  omega
theorem shl0 : ∀ n, n < 9 → nI 0 <<< (nI n &&& nI 31) = nI 0 := by decide
theorem div3 {c i : Nat} (hc : c < 6561) : nI (c / 3 ^ i) / nI 3 = nI (c / 3 ^ (i + 1)) := by
  have : c / 3 ^ i ≤ c := Nat.div_le_self _ _
  rw [pk_div (by omega) (by omega) (by omega), Nat.div_div_eq_div_mul, Nat.pow_succ]
def bsI (bs : Bool) : Int32 := if bs then nI 1 else nI 0
