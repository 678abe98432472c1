/-- what a part of the state says of the inner tasks -/
def InTo (z : CS) (r : RS) (w : Nat) : Prop := z.1 1 = nI w ∧ ∀ k, k < w → ∃ q n wt g b, InT z r k q n wt g b ∧ cnt g 2 (2 ^ n) = 0
theorem andm {x n : Nat} : x &&& (2 ^ n - 1) = x % 2 ^ n := Nat.and_two_pow_sub_one_eq_mod x n
theorem inner_n {o : Nat} {z : CS} {r : RS} {w x : Nat} {l1 l2 l6 l7 l8 : Int32} (hw : w ≤ 8) (h : InTo z r w) (hx : x < 256) : ∃ a, a < 2 ^ w ∧ fX9_saidByInner o z (nI x) = some (nI a) ∧ lpN (fun u => fX10_put_L253 r l1 l2 (nI w) l6 l7 l8 u.1 u.2.1 u.2.2) bigN (nI x, nI 0, nI 0) = some (nI a) := by
  have HH := lp_pair (b1 := fun u => fX9_saidByInner_L7 o z u.1 u.2.1 u.2.2) (b2 := fun u => fX10_put_L253 r l1 l2 (nI w) l6 l7 l8 u.1 u.2.1 u.2.2) (fun s1 s2 => ∃ i m a, i ≤ w ∧ m < 256 ∧ a < 2 ^ i ∧ s1 = (nI m, nI a, nI i) ∧ s2 = (nI m, nI a, nI i)) (fun s => 1000 - s.2.2.toNatClampNeg) (fun e1 e2 => ∃ a, a < 2 ^ w ∧ e1 = nI a ∧ e2 = nI a) (fun s1 s2 hs => ?_) bigN (nI x, nI 0, nI 0) (nI x, nI 0, nI 0) ⟨0, x, 0, Nat.zero_le _, hx, Nat.one_pos, rfl, rfl⟩ (by show 1000 - _ < 1000000000; omega)
  · obtain ⟨e1, e2, a1, a2, a, a3, rfl, rfl⟩ := HH
    refine ⟨a, a3, ?_, a2⟩
    unfold fX9_saidByInner
    exact (congrArg (fun u => u.bind fun e11 => some e11) a1).trans rfl
  · obtain ⟨i, m, a, hi, hm, ha, rfl, rfl⟩ := hs
    unfold fX9_saidByInner_L7 fX10_put_L253
    by_cases hiw : i = w
    · subst hiw
      right
      refine ⟨nI a, nI a, ?_, ?_, a, ha, rfl, rfl⟩
      · simp (disch := omega) only [h.1, Option.bind_some, aI_n, aL_n, aQ_n, sA_n, sL_n, csA_n, i_0, i_1, i_2, i_3, i_4, i_5, i_6, i_7, i_8, i_9, i_10, i_11, i_12, i_13, i_16, i_20, i_21, i_22, i_31, i_99, i_100, i_256, i_1000, nI_eq, nI_leI, nI_ltI, nI_add, pk_mul, ↓reduceIte, nt_le, nf_le, nt_lt, nf_lt, nt_eq, nf_eq, meet_N', meet_P', meet_S', meet_Z', meet_B', meet_O', n_1, n_2, n_3, n_4, n_5, n_10, n_11]
      · simp (disch := omega) only [Option.bind_some, aI_n, aL_n, aQ_n, sA_n, sL_n, csA_n, i_0, i_1, i_2, i_3, i_4, i_5, i_6, i_7, i_8, i_9, i_10, i_11, i_12, i_13, i_16, i_20, i_21, i_22, i_31, i_99, i_100, i_256, i_1000, nI_eq, nI_leI, nI_ltI, nI_add, pk_mul, ↓reduceIte, nt_le, nf_le, nt_lt, nf_lt, nt_eq, nf_eq, meet_N', meet_P', meet_S', meet_Z', meet_B', meet_O', n_1, n_2, n_3, n_4, n_5, n_10, n_11]
    · left
      obtain ⟨q, n, wt, g, b, ⟨p, kd, hp, ep, ep', e, t1, t2, d1, n1, n8, hg⟩, ct⟩ := h.2 i (by omega)
      have p2 := p2le n8
      have pp := p2pos (n := n)
      obtain ⟨f, u2, u3⟩ := TkB t1 d1
      obtain ⟨y2, y3⟩ := rd_f u2 u3 n8
      have hmod : m % 2 ^ n < 2 ^ n := Nat.mod_lt _ (Nat.two_pow_pos n)
      have gv := told_le hg ct _ hmod
      have hdiv : m / 2 ^ n < 256 := Nat.lt_of_le_of_lt (Nat.div_le_self _ _) hm
      have pi := p2le (show i ≤ 8 by omega)
      have sa := say0_n (show p < 16 by omega) t2 n8 hmod
      have e1 : nI m &&& nI (2 ^ n - 1) = nI (m % 2 ^ n) := by rw [nI_and, andm]
      have sh : nI m >>> (nI n &&& nI 31) = nI (m / 2 ^ n) := shrN (by omega) (by omega)
      have sl : nI (g (m % 2 ^ n)) <<< (nI i &&& nI 31) = nI (g (m % 2 ^ n) * 2 ^ i) := by
        refine shlN (by omega) ?_
        have := Nat.mul_le_mul_right (2 ^ i) gv
        omega
      have eo : a ||| g (m % 2 ^ n) * 2 ^ i = a + g (m % 2 ^ n) * 2 ^ i := by
        rcases (show g (m % 2 ^ n) = 0 ∨ g (m % 2 ^ n) = 1 by omega) with c | c
        · rw [c, Nat.zero_mul, Nat.or_zero, Nat.add_zero]
        · rw [c, Nat.one_mul, or_pow ha]
      have hl : a + g (m % 2 ^ n) * 2 ^ i < 2 ^ (i + 1) := by
        have := Nat.mul_le_mul_right (2 ^ i) gv
        rw [Nat.pow_succ]
        omega
      refine ⟨(nI (m / 2 ^ n), nI (a + g (m % 2 ^ n) * 2 ^ i), nI (i + 1)), (nI (m / 2 ^ n), nI (a + g (m % 2 ^ n) * 2 ^ i), nI (i + 1)), ?_, ?_, ⟨i + 1, m / 2 ^ n, _, by omega, hdiv, hl, rfl, rfl⟩, ?_⟩
      · simp (disch := omega) only [h.1, ep, e, d1, y2, pk_sub, e1, y3 _ hmod, sh, sl, nI_or, eo, Option.bind_some, aI_n, aL_n, aQ_n, sA_n, sL_n, csA_n, i_0, i_1, i_2, i_3, i_4, i_5, i_6, i_7, i_8, i_9, i_10, i_11, i_12, i_13, i_16, i_20, i_21, i_22, i_31, i_99, i_100, i_256, i_1000, nI_eq, nI_leI, nI_ltI, nI_add, pk_mul, ↓reduceIte, nt_le, nf_le, nt_lt, nf_lt, nt_eq, nf_eq, meet_N', meet_P', meet_S', meet_Z', meet_B', meet_O', n_1, n_2, n_3, n_4, n_5, n_10, n_11]
      · simp (disch := omega) only [ep', t2.1, shl1' n (by omega), pk_sub, e1, sa, sh, sl, nI_or, eo, Option.bind_some, aI_n, aL_n, aQ_n, sA_n, sL_n, csA_n, i_0, i_1, i_2, i_3, i_4, i_5, i_6, i_7, i_8, i_9, i_10, i_11, i_12, i_13, i_16, i_20, i_21, i_22, i_31, i_99, i_100, i_256, i_1000, nI_eq, nI_leI, nI_ltI, nI_add, pk_mul, ↓reduceIte, nt_le, nf_le, nt_lt, nf_lt, nt_eq, nf_eq, meet_N', meet_P', meet_S', meet_Z', meet_B', meet_O', n_1, n_2, n_3, n_4, n_5, n_10, n_11]
      · show 1000 - (nI (i + 1)).toNatClampNeg < 1000 - (nI i).toNatClampNeg
        rw [nI_clamp (by omega), nI_clamp (by omega)]
        omega
theorem InT_fr {o : Nat} {z y : CS} {r rr : RS} {k q n : Nat} {wt : Int32} {g : Nat → Nat} {b : Nat} (px : PX o z y) (hr : ∀ j, j < 9 → rr.2.1 j = r.2.1 j) (h : InT z r k q n wt g b) : InT y rr k q n wt g b := by
  obtain ⟨p, kd, hp, ep, ep', e, t1, t2, d1, n1, n8, hg⟩ := h
  refine ⟨p, kd, hp, by rw [px.2.1]; exact ep, by rw [hr 7 (by omega)]; exact ep', by rw [px.2.2.1]; exact e, px.2.2.2.2.1.tk.at t1, RSame.tk (r := r) ⟨by rw [hr 0 (by omega)], by rw [hr 1 (by omega)], by rw [hr 2 (by omega)], fun x _ => by rw [hr 3 (by omega)]⟩ n8 t2, px.2.2.2.2.1.T d1, n1, n8, hg⟩
theorem InTo_fr {o : Nat} {z y : CS} {r rr : RS} {w : Nat} (px : PX o z y) (hr : ∀ j, j < 9 → rr.2.1 j = r.2.1 j) (h : InTo z r w) : InTo y rr w := by
  refine ⟨by rw [px.1]; exact h.1, fun k hk => ?_⟩
  obtain ⟨q, n, wt, g, b, a1, a2⟩ := h.2 k hk
  exact ⟨q, n, wt, g, b, InT_fr px hr a1, a2⟩
/-- tasks put into one another -/
theorem put_new {o : Nat} {z : CS} {r : RS} {p q k w S b : Nat} {kd wt W : Int32} {g : Nat → Nat} (h : Sim o z r) (hp : p < 8) (hk : k < 8) (t1 : TkAt z q w kd wt g) (t2 : TkR r k w kd wt g) (d1 : dT z q = some (kd, nI w, wt, some b)) (w8 : w ≤ 8) (hg : ∀ x, g x ≤ 2) (S1 : 1 ≤ S) (S8 : S ≤ 8) (hI : InTo z r w) (hL : lpN (fun u => fX9_putTogether_L7 o z q u.1 u.2.1 u.2.2) bigN (nI 0, nI 0, nI 0) = some (nI S, W)) : ∃ z' r', ((fX9_putTogether o z q).bind fun q8 => (stQT q8.2 1 (nI p) (some q8.1)).bind fun z9 => fX9_put_J53 o z9 (nI p) (nI 0)) = some (nI S, z') ∧ ((lpN (fun u => fX10_put_L234 u.2 (nI p) (nI k) (nI w) (nI S) W u.1) bigN (nI 0, rI r 1 (nI 0))).bind fun e27 => (fX10_lay e27 (nI p) (nI S) (nI 3) W).bind fun q28 => some (nI S, q28)) = some (nI S, r') ∧ Sim o z' r' := by
  obtain ⟨h1, h2, h3, -⟩ := id h
  have pS := p2le S8
  have pw := p2le w8
  obtain ⟨f, u2, u3⟩ := TkB t1 d1
  have acc : ∀ x, ∃ a, x < 2 ^ S → a < 2 ^ w ∧ (∀ y, PX o z y → fX9_saidByInner o y (nI x) = some (nI a)) ∧ ∀ rr : RS, (∀ j, j < 9 → rr.2.1 j = r.2.1 j) → lpN (fun u => fX10_put_L253 rr (nI p) (nI k) (nI w) (nI S) W (nI x) u.1 u.2.1 u.2.2) bigN (nI x, nI 0, nI 0) = some (nI a) := by
    intro x
    by_cases hx : x < 2 ^ S
    · obtain ⟨a, a1, a2, a3⟩ := inner_n (o := o) (l1 := nI p) (l2 := nI k) (l6 := nI S) (l7 := W) (l8 := nI x) w8 hI (show x < 256 by omega)
      refine ⟨a, fun _ => ⟨a1, fun y py => ?_, fun rr hr => ?_⟩⟩
      · obtain ⟨a', b1, b2, b3⟩ := inner_n (o := o) (l1 := nI p) (l2 := nI k) (l6 := nI S) (l7 := W) (l8 := nI x) w8 (InTo_fr (rr := r) py (fun _ _ => rfl) hI) (show x < 256 by omega)
        rw [b2, Option.some.inj (b3.symm.trans a3)]
      · obtain ⟨a', b1, b2, b3⟩ := inner_n (o := o) (l1 := nI p) (l2 := nI k) (l6 := nI S) (l7 := W) (l8 := nI x) w8 (InTo_fr (PX.rf h1) hr hI) (show x < 256 by omega)
        rw [b3, Option.some.inj (b2.symm.trans a2)]
    · exact ⟨0, fun w => absurd w hx⟩
  obtain ⟨A, hA⟩ := Classical.axiomOfChoice acc
  have hG : ∀ x, g (A x) ≤ 2 := fun x => hg _
  have px : ∀ i, PX o z (zB z (2 ^ S) (fun x => g (A x)) i) := fun i => zB_PX h1
  have lc : lpN (fun u => fX9_putTogether_L68 o u.2 q (nI S) W (cn z) u.1) bigN (nI 0, zB z (2 ^ S) (fun x => g (A x)) 0) = some (zB z (2 ^ S) (fun x => g (A x)) (2 ^ S)) := by
    refine fillB (by omega) (fun i hi => ?_) ?_
    · obtain ⟨c1, c2, c3⟩ := hA i hi
      have x1 := (px i).2.2.2.2.1.T d1
      obtain ⟨x2, x3⟩ := rd_f ((px i).2.2.2.2.1.B u2) u3 w8
      have hs := stB_n (z := z) (m := 2 ^ S) (i := i) (G := fun x => g (A x)) (v := nI (g (A i))) h1 hi pS (b8 _ (hG i))
      unfold fX9_putTogether_L68
      simp (disch := omega) only [lnB_z, x1, c2 _ (px i), x3 _ c1, hs, Option.bind_some, aI_n, aL_n, aQ_n, sA_n, sL_n, csA_n, i_0, i_1, i_2, i_3, i_4, i_5, i_6, i_7, i_8, i_9, i_10, i_11, i_12, i_13, i_16, i_20, i_21, i_22, i_31, i_99, i_100, i_256, i_1000, nI_eq, nI_leI, nI_ltI, nI_add, pk_mul, ↓reduceIte, nt_le, nf_le, nt_lt, nf_lt, nt_eq, nf_eq, meet_N', meet_P', meet_S', meet_Z', meet_B', meet_O', n_1, n_2, n_3, n_4, n_5, n_10, n_11]
    · unfold fX9_putTogether_L68
      simp (disch := omega) only [lnB_z, Option.bind_some, aI_n, aL_n, aQ_n, sA_n, sL_n, csA_n, i_0, i_1, i_2, i_3, i_4, i_5, i_6, i_7, i_8, i_9, i_10, i_11, i_12, i_13, i_16, i_20, i_21, i_22, i_31, i_99, i_100, i_256, i_1000, nI_eq, nI_leI, nI_ltI, nI_add, pk_mul, ↓reduceIte, nt_le, nf_le, nt_lt, nf_lt, nt_eq, nf_eq, meet_N', meet_P', meet_S', meet_Z', meet_B', meet_O', n_1, n_2, n_3, n_4, n_5, n_10, n_11]
  have ht := TkAt_z h1 (n := S) (G := fun x => g (A x)) (kd := nI 3) (wt := W) S1 S8 (fun x _ => hG x)
  obtain ⟨e, g1, g2, g3, g4, g5, g6⟩ := fillA (body := fun u => fX10_put_L234 u.2 (nI p) (nI k) (nI w) (nI S) W u.1) (r0 := rI r 1 (nI 0)) (k := 9) (base := 0) (N := 2 ^ S) (v := fun i => nI (g (A i))) (by omega) (fun i rr hi e1 e2 e3 _ _ => by
    obtain ⟨c1, c2, c3⟩ := hA i hi
    have fr : ∀ j, j < 9 → rr.2.1 j = r.2.1 j := fun j hj => by rw [e3 j (by omega)]; rfl
    have t2' : TkR rr k w kd wt g := RSame.tk (r := r) ⟨by rw [fr 0 (by omega)], by rw [fr 1 (by omega)], by rw [fr 2 (by omega)], fun x _ => by rw [fr 3 (by omega)]⟩ w8 t2
    have x1 := c3 rr fr
    show fX10_put_L234 rr (nI p) (nI k) (nI w) (nI S) W (nI i) = _
    rw [Nat.zero_add]
    unfold fX10_put_L234
    simp (disch := omega) only [shl1' S (by omega), x1, say0_n (show k < 16 by omega) t2' w8 c1, Option.bind_some, aI_n, aL_n, aQ_n, sA_n, sL_n, csA_n, i_0, i_1, i_2, i_3, i_4, i_5, i_6, i_7, i_8, i_9, i_10, i_11, i_12, i_13, i_16, i_20, i_21, i_22, i_31, i_99, i_100, i_256, i_1000, nI_eq, nI_leI, nI_ltI, nI_add, pk_mul, ↓reduceIte, nt_le, nf_le, nt_lt, nf_lt, nt_eq, nf_eq, meet_N', meet_P', meet_S', meet_Z', meet_B', meet_O', n_1, n_2, n_3, n_4, n_5, n_10, n_11]) (fun rr e1 e2 e3 => by
    unfold fX10_put_L234
    simp (disch := omega) only [shl1' S (by omega), Option.bind_some, aI_n, aL_n, aQ_n, sA_n, sL_n, csA_n, i_0, i_1, i_2, i_3, i_4, i_5, i_6, i_7, i_8, i_9, i_10, i_11, i_12, i_13, i_16, i_20, i_21, i_22, i_31, i_99, i_100, i_256, i_1000, nI_eq, nI_leI, nI_ltI, nI_add, pk_mul, ↓reduceIte, nt_le, nf_le, nt_lt, nf_lt, nt_eq, nf_eq, meet_N', meet_P', meet_S', meet_Z', meet_B', meet_O', n_1, n_2, n_3, n_4, n_5, n_10, n_11])
  obtain ⟨r', k1, k2, k3, k4, k5, k6, k7, k8, k9⟩ := lay_n (r := e) (p := p) (n := S) (kd := nI 3) (wt := W) (G := fun x => g (A x)) (by omega) S8 (fun x hx => by rw [← g5 x hx, Nat.zero_add])
  have tk : TkR r' p S (nI 3) W (fun x => g (A x)) := ⟨k6, k7, Or.inr (Or.inl ⟨rfl, k8.symm⟩), k9⟩
  have hs0 := Sim_w0 h
  have fin : Sim o (cI (cQ (cNw (zB z (2 ^ S) (fun x => g (A x)) (2 ^ S)) (.inl (nI 3, nI S, W, some (cn z)))) 1 p (some (cn (zB z (2 ^ S) (fun x => g (A x)) (2 ^ S))))) 1 (nI 0)) r' := by
    refine Sim_newtask (z := cI z 1 (nI 0)) (y := zB (cI z 1 (nI 0)) (2 ^ S) (fun x => g (A x)) (2 ^ S)) (t := (nI 3, nI S, W, some (cn z))) hs0 (zB_PX hs0.1) hp ht (k2.trans g2) (k3.trans g3) (fun j h4 h9 _ => by rw [k4 j h4, g4 j h9]) (fun j hj hjp => ?_) (TkR_row tk)
    have w := k5 j hj hjp
    unfold RSame at w ⊢
    rw [g4 0 (by omega), g4 1 (by omega), g4 2 (by omega), g4 3 (by omega)] at w
    exact w
  refine ⟨_, r', ?_, ?_, fin⟩
  · have pB := (px (2 ^ S)).2.2.2.2.2
    have pT : fX9_putTogether o z q = some (cn (zB z (2 ^ S) (fun x => g (A x)) (2 ^ S)), cNw (zB z (2 ^ S) (fun x => g (A x)) (2 ^ S)) (.inl (nI 3, nI S, W, some (cn z)))) := by
      unfold fX9_putTogether
      refine (congrArg (fun u => u.bind fun e9 => (alB o z ((1 : Int32) <<< (e9.1 &&& 31))).bind fun u10 => (lpN (fun u => fX9_putTogether_L68 o u.2 q e9.1 e9.2 u10.1 u.1) bigN ((0 : Int32), u10.2)).bind fun e17 => (alT o e17).bind fun u18 => (fX8_init o u18.2 u18.1 (3 : Int32) e9.1 e9.2 u10.1).bind fun q19 => some (u18.1, q19)) hL).trans ?_
      simp (disch := omega) only [shl1' S (by omega), alB_n h1 pS (fun x => g (A x)), lc, Option.bind_some, aI_n, aL_n, aQ_n, sA_n, sL_n, csA_n, i_0, i_1, i_2, i_3, i_4, i_5, i_6, i_7, i_8, i_9, i_10, i_11, i_12, i_13, i_16, i_20, i_21, i_22, i_31, i_99, i_100, i_256, i_1000, nI_eq, nI_leI, nI_ltI, nI_add, pk_mul, ↓reduceIte, nt_le, nf_le, nt_lt, nf_lt, nt_eq, nf_eq, meet_N', meet_P', meet_S', meet_Z', meet_B', meet_O', n_1, n_2, n_3, n_4, n_5, n_10, n_11]
      rw [alT_n pB, Option.bind_some, init8_n pB]
      rfl
    have dd : dT (cQ (cNw (zB z (2 ^ S) (fun x => g (A x)) (2 ^ S)) (.inl (nI 3, nI S, W, some (cn z)))) 1 p (some (cn (zB z (2 ^ S) (fun x => g (A x)) (2 ^ S))))) (cn (zB z (2 ^ S) (fun x => g (A x)) (2 ^ S))) = some (nI 3, nI S, W, some (cn z)) := dT_Nw
    have pq : (cQ (cNw (zB z (2 ^ S) (fun x => g (A x)) (2 ^ S)) (.inl (nI 3, nI S, W, some (cn z)))) 1 p (some (cn (zB z (2 ^ S) (fun x => g (A x)) (2 ^ S))))).2.2.1 1 p = some (cn (zB z (2 ^ S) (fun x => g (A x)) (2 ^ S))) := by rw [cQ_k, vu_s]
    rw [pT, Option.bind_some, stQT_n hp (okT_n ht), Option.bind_some]
    generalize cQ (cNw (zB z (2 ^ S) (fun x => g (A x)) (2 ^ S)) (.inl (nI 3, nI S, W, some (cn z)))) 1 p (some (cn (zB z (2 ^ S) (fun x => g (A x)) (2 ^ S)))) = zf at *
    have pq' : (cI zf 1 (nI 0)).2.2.1 1 p = some (cn (zB z (2 ^ S) (fun x => g (A x)) (2 ^ S))) := pq
    have dd' : dT (cI zf 1 (nI 0)) (cn (zB z (2 ^ S) (fun x => g (A x)) (2 ^ S))) = some (nI 3, nI S, W, some (cn z)) := dd
    unfold fX9_put_J53
    simp (disch := omega) only [pq', dd', Option.bind_some, aI_n, aL_n, aQ_n, sA_n, sL_n, csA_n, i_0, i_1, i_2, i_3, i_4, i_5, i_6, i_7, i_8, i_9, i_10, i_11, i_12, i_13, i_16, i_20, i_21, i_22, i_31, i_99, i_100, i_256, i_1000, nI_eq, nI_leI, nI_ltI, nI_add, pk_mul, ↓reduceIte, nt_le, nf_le, nt_lt, nf_lt, nt_eq, nf_eq, meet_N', meet_P', meet_S', meet_Z', meet_B', meet_O', n_1, n_2, n_3, n_4, n_5, n_10, n_11]
  · rw [g1, Option.bind_some, k1]
    rfl
