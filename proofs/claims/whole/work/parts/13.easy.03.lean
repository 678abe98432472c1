/-! what stays when a part of the state changes -/
def PoolGe (z z' : CS) : Prop := ∀ q x, cpl z q = some x → cpl z' q = some x
def TkGe (z z' : CS) : Prop := (∀ q t, dT z q = some t → dT z' q = some t) ∧ ∀ q t, dB z q = some t → dB z' q = some t
theorem PoolGe.T {z z' : CS} (h : PoolGe z z') {q : Nat} {t : Int32 × Int32 × Int32 × Option Nat} (h1 : dT z q = some t) : dT z' q = some t := by
  unfold dT
  rw [h q _ (dT_s h1)]
theorem PoolGe.B {z z' : CS} (h : PoolGe z z') {q : Nat} {t : Nat × (Nat → Int32)} (h1 : dB z q = some t) : dB z' q = some t := by
  unfold dB
  rw [h q _ (dB_s h1)]
theorem PoolGe.S {z z' : CS} (h : PoolGe z z') {q : Nat} {t : Int32 × Option Nat} (h1 : dS z q = some t) : dS z' q = some t := by
  unfold dS
  rw [h q _ (dS_s h1)]
theorem PoolGe.L {z z' : CS} (h : PoolGe z z') {q : Nat} {t : Nat × (Nat → Int64)} (h1 : dL z q = some t) : dL z' q = some t := by
  unfold dL
  rw [h q _ (dL_s h1)]
theorem PoolGe.tk {z z' : CS} (h : PoolGe z z') : TkGe z z' := ⟨fun _ _ h1 => h.T h1, fun _ _ h1 => h.B h1⟩
theorem TkGe.rf {z : CS} : TkGe z z := ⟨fun _ _ h => h, fun _ _ h => h⟩
theorem TkGe.at {z z' : CS} (h : TkGe z z') {q n : Nat} {kd wt : Int32} {g : Nat → Nat} (ht : TkAt z q n kd wt g) : TkAt z' q n kd wt g := by
  obtain ⟨a, f, h1, h2, h3⟩ := ht
  exact ⟨a, f, h.1 _ _ h1, h.2 _ _ h2, h3⟩
def RSame (r r' : RS) (p : Nat) : Prop := r'.2.1 0 p = r.2.1 0 p ∧ r'.2.1 1 p = r.2.1 1 p ∧ r'.2.1 2 p = r.2.1 2 p ∧ ∀ x, x < 256 → r'.2.1 3 (256 * p + x) = r.2.1 3 (256 * p + x)
theorem RSame.rf {r : RS} {p : Nat} : RSame r r p := ⟨rfl, rfl, rfl, fun _ _ => rfl⟩
theorem RSame.tk {r r' : RS} {p n : Nat} {kd wt : Int32} {g : Nat → Nat} (h : RSame r r' p) (hn : n ≤ 8) (ht : TkR r p n kd wt g) : TkR r' p n kd wt g := by
  obtain ⟨h1, h2, h3, h4⟩ := h
  obtain ⟨t1, t2, t3, t4⟩ := ht
  have := p2le hn
  exact ⟨h1.trans t1, h2.trans t2, by rw [h3]; exact t3, fun x hx => (h4 x (by omega)).trans (t4 x hx)⟩
theorem PlR_upd {z z' : CS} {r r' : RS} {k off : Nat} (h : PlR z r k off) (ge : TkGe z z') (j : Nat) (hz : ∀ p, p < 8 → p ≠ j → z'.2.2.1 k p = z.2.2.1 k p) (hr : ∀ p, p < 8 → p ≠ j → RSame r r' (off + p))
    (hj : j < 8 → (z'.2.2.1 k j = none → r'.2.1 0 (off + j) = 0) ∧ ∀ q, z'.2.2.1 k j = some q → ∃ (n : Nat) (kd wt : Int32) (g : Nat → Nat), TkAt z' q n kd wt g ∧ TkR r' (off + j) n kd wt g) : PlR z' r' k off := by
  intro p hp
  by_cases hpj : p = j
  · subst hpj; exact hj hp
  · obtain ⟨h1, h2⟩ := h p hp
    have hs := hr p hp hpj
    refine ⟨fun e => ?_, fun q e => ?_⟩
    · rw [hs.1]; exact h1 (by rw [← hz p hp hpj]; exact e)
    · obtain ⟨n, kd, wt, g, t1, t2⟩ := h2 q (by rw [← hz p hp hpj]; exact e)
      exact ⟨n, kd, wt, g, ge.at t1, hs.tk (Tk_n t1).2.1 t2⟩
theorem PlR_all {z z' : CS} {r r' : RS} {k off : Nat} (h : PlR z r k off) (ge : TkGe z z') (hz : ∀ p, p < 8 → z'.2.2.1 k p = z.2.2.1 k p) (hr : ∀ p, p < 8 → RSame r r' (off + p)) : PlR z' r' k off :=
  PlR_upd h ge 8 (fun p hp _ => hz p hp) (fun p hp _ => hr p hp) (fun h8 => by omega)
theorem CuR_ge {z z' : CS} {j h w b a : Nat} (hc : CuR z j h w b a) (ge : TkGe z z') (h1 : z'.2.2.2.1 j = z.2.2.2.1 j) (h2 : z'.1 a = z.1 a) (h3 : z'.1 b = z.1 b) (h4 : z'.2.1 h = z.2.1 h) (h5 : z'.2.1 w = z.2.1 w) : CuR z' j h w b a := by
  intro q hq
  obtain ⟨n, kd, wt, g, bs, t1, t2, t3, t4⟩ := hc q (by rw [← h1]; exact hq)
  refine ⟨n, kd, wt, g, bs, ge.at t1, h2.trans t2, h3.trans t3, fun c hc => ?_⟩
  rw [h4, h5]
  exact t4 c hc
theorem GaR_ge {z z' : CS} {r r' : RS} (hg : GaR z r) (ge : TkGe z z') (h1 : z'.2.2.2.1 1 = z.2.2.2.1 1) (h2 : z'.1 12 = z.1 12 ∧ z'.1 13 = z.1 13 ∧ z'.1 14 = z.1 14 ∧ z'.1 15 = z.1 15) (h3 : r'.1 8 = r.1 8 ∧ r'.1 9 = r.1 9 ∧ r'.2.1 29 = r.2.1 29 ∧ r'.2.1 30 = r.2.1 30) : GaR z' r' := by
  obtain ⟨e12, e13, e14, e15⟩ := h2
  obtain ⟨f8, f9, f29, f30⟩ := h3
  rcases hg with ⟨g1, g2⟩ | ⟨q, n, kd, wt, g, c, A, g1, g2, g3, g4, g5, g6, g7, g8, g9, g10, g11, g12⟩
  · exact Or.inl ⟨e12.trans g1, f8.trans g2⟩
  · exact Or.inr ⟨q, n, kd, wt, g, c, A, h1.trans g1, ge.at g2, e15.trans g3, e12.trans g4, f8.trans g5, g6, g7, e14.trans g8, f9.trans g9, e13.trans g10, g11, fun d hd => by rw [f29, f30]; exact g12 d hd⟩
theorem ShR_ge {z z' : CS} {r r' : RS} (h : ShR z r) (ge : PoolGe z z') (hok : ∀ q, (∃ s, s < 6 ∧ z.2.2.1 0 s = some q) → (dS z q).isSome = true) (h1 : z'.2.2.1 0 = z.2.2.1 0) (h2 : r'.2.1 4 = r.2.1 4 ∧ r'.2.1 5 = r.2.1 5 ∧ r'.2.2 6 = r.2.2 6) : ShR z' r' := by
  obtain ⟨e4, e5, e6⟩ := h2
  refine ⟨fun s hs => ?_, fun s t q w k n a f k' n' f' hs ht e1 e2 a1 a2 => ?_⟩
  · rw [h1, e4, e5, e6]
    refine ⟨(h.1 s hs).1, fun q hq => ?_⟩
    obtain ⟨k, n, a, f, q1, q2⟩ := (h.1 s hs).2 q hq
    exact ⟨k, n, a, f, ⟨ge.S q1.1, ge.L q1.2.1, q1.2.2⟩, q2⟩
  · rw [h1] at e1 e2
    obtain ⟨k1, n1, a1', f1, q1, q2⟩ := (h.1 s hs).2 q e1
    obtain ⟨k2, n2, a2', f2, q3, q4⟩ := (h.1 t ht).2 w e2
    have x1 := (ge.S q1.1).symm.trans a1.1
    have x2 := (ge.S q3.1).symm.trans a2.1
    simp only [Option.some.injEq, Prod.mk.injEq] at x1 x2
    obtain ⟨_, rfl⟩ := x1
    obtain ⟨_, x3⟩ := x2
    subst x3
    exact h.2 s t q w k1 n1 _ f1 k2 n2 f2 hs ht e1 e2 q1 q3
theorem St_clear_ok : St_clear Sim := by
  intro o z r a1 h
  rcases ix a1 (n := 8) (by omega) with hx | ⟨k, hk, rfl⟩
  · exact ⟨(-2, z), (-2, r), by unfold fX9_clear; rw [isPl9_out hx]; rfl, by unfold fX10_clear; rw [isPl10_out hx]; rfl, rfl, h⟩
  · obtain ⟨h1, h2, h3, h4, h5, h6, h7, h8, h9, h10, h11, h12, h13⟩ := id h
    have hp : PlR (cQ z 1 k none) (rA r 0 k 0) 1 0 := by
      refine PlR_upd h3 ⟨fun _ _ e => e, fun _ _ e => e⟩ k (fun p _ hpk => by simp [cQ, va_up, hpk]) (fun p _ hpk => ⟨by simp [rA, upd, hpk], rfl, rfl, fun _ _ => rfl⟩) (fun _ => ⟨fun _ => by simp [rA, upd], fun q e => by simp [cQ, va_up] at e⟩)
    have hq : PlR (cQ z 1 k none) (rA r 0 k 0) 2 8 := by
      refine PlR_all h4 ⟨fun _ _ e => e, fun _ _ e => e⟩ (fun p _ => rfl) (fun p hp => ⟨by simp [rA, upd, show 8 + p ≠ k by omega], rfl, rfl, fun _ _ => rfl⟩)
    have hs : Sim o (cQ z 1 k none) (rA r 0 k 0) := ⟨h1, h2, hp, hq, h5, h6, h7, h8, h9, h10, h11, h12, h13⟩
    cases e : z.2.2.1 1 k with
    | none =>
      refine ⟨(0, cQ z 1 k none), (0, rA r 0 k 0), ?_, ?_, rfl, hs⟩
      · unfold fX9_clear fX9_clear_J24
        rw [isPl9_in hk, Option.bind_some, if_neg i1n0, aQ_n _ hk (by omega), Option.bind_some, e, stQT_n hk rfl]
        rfl
      · unfold fX10_clear fX10_clear_J24
        rw [isPl10_in hk, Option.bind_some, if_neg i1n0, aI_n _ (show k < 16 by omega) (by omega), Option.bind_some, PlR_no h3 hk e, if_pos (by decide), sA_n (show k < 16 by omega) (by omega)]
        rfl
    | some q =>
      obtain ⟨n, kd, wt, g, t1, t2⟩ := PlR_yes h3 hk e
      obtain ⟨n1, n8, _⟩ := Tk_n t1
      refine ⟨(1, cQ z 1 k none), (1, rA r 0 k 0), ?_, ?_, rfl, hs⟩
      · unfold fX9_clear fX9_clear_J24
        rw [isPl9_in hk, Option.bind_some, if_neg i1n0, aQ_n _ hk (by omega), Option.bind_some, e, stQT_n hk rfl]
        rfl
      · unfold fX10_clear fX10_clear_J24
        rw [isPl10_in hk, Option.bind_some, if_neg i1n0, aI_n _ (show k < 16 by omega) (by omega), Option.bind_some, t2.1, if_neg (nI_nle (by omega) (by omega)), sA_n (show k < 16 by omega) (by omega)]
        rfl
theorem St_tell_ok : St_tell Sim := by
  intro o z r a1 h
  obtain ⟨h1, h2, h3, h4, ⟨w, w1, w2, w3, w4⟩, h6, h7, h8, h9, h10, h11, h12, h13⟩ := id h
  by_cases hw : w = 100
  · subst hw
    refine ⟨(-2, z), (-2, r), ?_, ?_, rfl, h⟩
    · unfold fX9_tell
      rw [w2, if_neg (by decide)]
    · unfold fX10_tell
      rw [w3, if_pos (by rfl)]
  · refine ⟨(nI (w + 1), cI (cAr z 0 w a1) 1 (nI (w + 1))), (nI (w + 1), rI (rA r 7 w a1) 1 (nI (w + 1))), ?_, ?_, rfl, h1, h2, h3, h4, ⟨w + 1, by omega, rfl, rfl, fun k hk => ?_⟩, h6, h7, h8, h9, h10, h11, h12, h13⟩
    · unfold fX9_tell
      rw [w2, if_pos (show nI w < (100 : Int32) from nI_lt (b := 100) (by omega) (by omega)), csA_n (show w < 100 by omega) (by omega), Option.bind_some]
      show some ((cI (cAr z 0 w a1) 1 (z.1 1 + 1)).1 1, cI (cAr z 0 w a1) 1 (z.1 1 + 1)) = _
      rw [w2, show nI w + (1 : Int32) = nI (w + 1) from nI_1 w]
      rfl
    · unfold fX10_tell
      rw [w3, if_neg (show ¬ nI w = (100 : Int32) from fun e => hw ((nI_eq (b := 100) (by omega) (by omega)).mp e)), sA_n (show w < 100 by omega) (by omega), Option.bind_some]
      show some ((rI (rA r 7 w a1) 1 (r.1 1 + 1)).1 1, rI (rA r 7 w a1) 1 (r.1 1 + 1)) = _
      rw [w3, show nI w + (1 : Int32) = nI (w + 1) from nI_1 w]
      rfl
    · show upd (z.2.1 0) w a1 k = upd (r.2.1 7) w a1 k
      by_cases hkw : k = w
      · simp [upd, hkw]
      · simp only [upd, hkw, if_false]
        exact w4 k (by omega)
theorem St_shown_ok : St_shown Sim := by
  intro o z r a1 h
  obtain ⟨h1, h2, h3, h4, h5, h6, h7, h8, h9, h10, h11, h12, h13⟩ := id h
  rcases ix a1 (n := 2) (by omega) with hx | ⟨k, hk, rfl⟩
  · refine ⟨-2, -2, ?_, ?_, rfl, h⟩
    · unfold fX9_shown fX9_shown_J9
      by_cases h0 : a1 < 0
      · rw [if_pos h0]
      · rw [if_neg h0, if_neg]
        intro e
        have e1 := Int32.le_iff_toInt_le.mp (hx.resolve_left h0)
        have e2 := Int32.le_iff_toInt_le.mp e
        have e3 : (nI 2).toInt = 2 := rfl
        have e4 : (1 : Int32).toInt = 1 := rfl
        omega
    · unfold fX10_shown
      have n0 : ¬ a1 = 0 := fun e => by subst e; revert hx; decide
      have n1 : ¬ a1 = 1 := fun e => by subst e; revert hx; decide
      rw [if_neg n0, if_neg n1]
  · rcases h6.2.2 with ⟨s1, s2, s3⟩ | ⟨x, y, hx, hy, s1, s2, s3⟩
    · refine ⟨-1, -1, ?_, ?_, rfl, h⟩
      · unfold fX9_shown
        rw [if_neg (nI_nlt0 (by omega)), if_pos (show nI k ≤ (1 : Int32) from nI_le (b := 1) (by omega) (by omega)), if_pos s1]
      · unfold fX10_shown
        rcases (show k = 0 ∨ k = 1 by omega) with rfl | rfl
        · rw [if_pos (by rfl), s2]
        · rw [if_neg (by decide), if_pos (by rfl), s3]
    · have hne : ¬ z.1 2 = -1 := fun e => by
        have e1 := congrArg Int32.toInt (s1.symm.trans e)
        rw [nI_toInt (by omega)] at e1
        have e2 : (-1 : Int32).toInt = -1 := rfl
        omega
      rcases (show k = 0 ∨ k = 1 by omega) with rfl | rfl
      · refine ⟨nI x, nI x, ?_, ?_, rfl, h⟩
        · unfold fX9_shown
          rw [if_neg (nI_nlt0 (by omega)), if_pos (show nI 0 ≤ (1 : Int32) by decide), if_neg hne, if_pos (by rfl), s1, show (256 : Int32) = nI 256 from rfl, pk_div (by omega) (by omega) (by omega)]
          rw [show (x * 256 + y) / 256 = x by omega]
        · unfold fX10_shown
          rw [if_pos (by rfl), s2]
      · refine ⟨nI y, nI y, ?_, ?_, rfl, h⟩
        · unfold fX9_shown
          rw [if_neg (nI_nlt0 (by omega)), if_pos (show nI 1 ≤ (1 : Int32) by decide), if_neg hne, if_neg (by decide), s1, show (256 : Int32) = nI 256 from rfl, pk_rem (by omega) (by omega) (by omega)]
          rw [show (x * 256 + y) % 256 = y by omega]
        · unfold fX10_shown
          rw [if_neg (by decide), if_pos (by rfl), s3]
