/-! tasks: how they are read on both sides -/
theorem p2le {n : Nat} (h : n ≤ 8) : 2 ^ n ≤ 256 := by
  have : 2 ^ n ≤ 2 ^ 8 := Nat.pow_le_pow_right (by omega) h
  exact this
theorem p2pos {n : Nat} : 1 ≤ 2 ^ n := Nat.one_le_two_pow
theorem shl1 : ∀ n, n ≤ 8 → (1 : Int32) <<< (nI n &&& 31) = nI (2 ^ n) := by decide
theorem Tk_rd {z : CS} {q n : Nat} {kd wt : Int32} {g : Nat → Nat} (h : TkAt z q n kd wt g) : ∃ a, dT z q = some (kd, nI n, wt, some a) ∧ lnB z a = some (nI (2 ^ n)) ∧ ∀ x, x < 2 ^ n → rdB z a (nI x) = some (nI (g x)) := by
  obtain ⟨a, f, h1, h2, h3, h4, h5, h6⟩ := h
  refine ⟨a, h1, by unfold lnB; rw [h2]; rfl, fun x hx => ?_⟩
  unfold rdB
  rw [h2, Option.bind_some, aI_n f hx (by have := p2le h5; omega), h3 x]
theorem Tk_n {z : CS} {q n : Nat} {kd wt : Int32} {g : Nat → Nat} (h : TkAt z q n kd wt g) : 1 ≤ n ∧ n ≤ 8 ∧ ∀ x, g x ≤ 2 := by
  obtain ⟨a, f, h1, h2, h3, h4, h5, h6⟩ := h
  exact ⟨h4, h5, h6⟩
theorem Tk_uniq {z : CS} {q n n' : Nat} {kd wt kd' wt' : Int32} {g g' : Nat → Nat} (h : TkAt z q n kd wt g) (h' : TkAt z q n' kd' wt' g') : n = n' ∧ g = g' := by
  obtain ⟨a, f, h1, h2, h3, h4, h5, h6⟩ := h
  obtain ⟨a', f', e1, e2, e3, e4, e5, e6⟩ := h'
  have := h1.symm.trans e1
  simp only [Option.some.injEq, Prod.mk.injEq] at this
  obtain ⟨_, hn, _, rfl⟩ := this
  have hn' : n = n' := (nI_eq (by omega) (by omega)).mp hn
  subst hn'
  have h9 := h2.symm.trans e2
  simp only [Option.some.injEq, Prod.mk.injEq, true_and] at h9
  subst h9
  refine ⟨rfl, funext fun x => ?_⟩
  have h7 := h6 x
  have h8 := e6 x
  exact (nI_eq (by omega) (by omega)).mp ((h3 x).symm.trans (e3 x))
theorem inputs_n {r : RS} {p n : Nat} (hp : p < 16) (hr : r.2.1 0 p = nI n) (hn : n ≤ 8) : fX10_inputs r (nI p) = some (nI (2 ^ n)) := by
  unfold fX10_inputs
  rw [aI_n _ hp (by omega), Option.bind_some, hr, shl1 n hn]
theorem idx256 (p x : Nat) : (256 : Int32) * nI p + nI x = nI (256 * p + x) := by
  rw [show (256 : Int32) = nI 256 from rfl, pk_mul, nI_add]
theorem say0_n {r : RS} {p n x : Nat} {kd wt : Int32} {g : Nat → Nat} (hp : p < 16) (h : TkR r p n kd wt g) (hn : n ≤ 8) (hx : x < 2 ^ n) : fX10_say0 r (nI p) (nI x) = some (nI (g x)) := by
  unfold fX10_say0
  have := p2le hn
  rw [idx256, aI_n _ (show 256 * p + x < 4096 by omega) (by omega), Option.bind_some, h.2.2.2 x hx]
/-- how many of the first N inputs say v -/
def cnt (g : Nat → Nat) (v : Nat) : Nat → Nat
  | 0 => 0
  | N + 1 => cnt g v N + if g N = v then 1 else 0
theorem cnt_s (g : Nat → Nat) (v N : Nat) : cnt g v (N + 1) = cnt g v N + if g N = v then 1 else 0 := rfl
theorem cnt_le (g : Nat → Nat) (v N : Nat) : cnt g v N ≤ N := by
  induction N with
  | zero => exact Nat.le_refl _
  | succ N ih => unfold cnt; split <;> omega
theorem cnt_pos {g : Nat → Nat} {v N : Nat} : 0 < cnt g v N ↔ ∃ x, x < N ∧ g x = v := by
  induction N with
  | zero => simp [cnt]
  | succ N ih =>
    unfold cnt
    by_cases h : g N = v
    · rw [if_pos h]
      exact ⟨fun _ => ⟨N, by omega, h⟩, fun _ => by omega⟩
    · rw [if_neg h, Nat.add_zero, ih]
      exact ⟨fun ⟨x, h1, h2⟩ => ⟨x, by omega, h2⟩, fun ⟨x, h1, h2⟩ => ⟨x, by rcases Nat.lt_succ_iff_lt_or_eq.mp h1 with h3 | h3; exact h3; subst h3; exact absurd h2 h, h2⟩⟩
theorem opens_n {r : RS} {p n : Nat} {kd wt : Int32} {g : Nat → Nat} (hp : p < 16) (h : TkR r p n kd wt g) (hn : n ≤ 8) (hg : ∀ x, g x ≤ 2) : fX10_opens r (nI p) = some (nI (cnt g 2 (2 ^ n))) := by
  unfold fX10_opens
  have h2 := p2le hn
  have hlp : ∃ e, lpN (fun u => fX10_opens_L4 r (nI p) u.1 u.2) bigN ((0 : Int32), (0 : Int32)) = some e ∧ (fun e => e = nI (cnt g 2 (2 ^ n))) e := by
    refine lp_count (body := fun u => fX10_opens_L4 r (nI p) u.1 u.2) (fun i s => s = (nI (cnt g 2 i), nI i)) (2 ^ n) (fun e => e = nI (cnt g 2 (2 ^ n))) (bigN_gt (by omega)) (fun i s hi hs => ?_) (fun s hs => ?_) (s := ((0 : Int32), (0 : Int32))) rfl
    · subst hs
      refine ⟨(nI (cnt g 2 (i + 1)), nI (i + 1)), ?_, rfl⟩
      show fX10_opens_L4 r (nI p) (nI (cnt g 2 i)) (nI i) = _
      unfold fX10_opens_L4 fX10_opens_L4_J29
      rw [inputs_n hp h.1 hn, Option.bind_some, if_neg (nI_ge hi (by omega)), say0_n hp h hn hi, Option.bind_some]
      by_cases hv : g i = 2
      · rw [if_pos (by rw [hv]; rfl)]
        show some (Sum.inl (nI (cnt g 2 i) + nI 1, nI i + nI 1)) = _
        rw [nI_add, nI_add, cnt_s, if_pos hv]
      · rw [if_neg (show ¬ nI (g i) = (2 : Int32) from fun e => hv ((nI_eq (b := 2) (by have := hg i; omega) (by omega)).mp e))]
        show some (Sum.inl (nI (cnt g 2 i) + nI 0, nI i + nI 1)) = _
        rw [nI_add, nI_add, cnt_s, if_neg hv]
    · subst hs
      refine ⟨nI (cnt g 2 (2 ^ n)), ?_, rfl⟩
      show fX10_opens_L4 r (nI p) (nI (cnt g 2 (2 ^ n))) (nI (2 ^ n)) = _
      unfold fX10_opens_L4
      rw [inputs_n hp h.1 hn, Option.bind_some, if_pos (nI_le (Nat.le_refl _) (by omega))]
  obtain ⟨e, h3, h4⟩ := hlp
  rw [h3, Option.bind_some, h4]
theorem howMany_n {o : Nat} {z : CS} {q n v : Nat} {kd wt : Int32} {g : Nat → Nat} (h : TkAt z q n kd wt g) (hv : v ≤ 2) : fX8_howMany o z q (nI v) = some (nI (cnt g v (2 ^ n))) := by
  unfold fX8_howMany
  obtain ⟨h0, hn, hg⟩ := Tk_n h
  obtain ⟨a, t1, t2, t3⟩ := Tk_rd h
  have h2 := p2le hn
  have hlp : ∃ e, lpN (fun u => fX8_howMany_L4 o z q (nI v) u.1 u.2) bigN ((0 : Int32), (0 : Int32)) = some e ∧ (fun e => e = nI (cnt g v (2 ^ n))) e := by
    refine lp_count (body := fun u => fX8_howMany_L4 o z q (nI v) u.1 u.2) (fun i s => s = (nI (cnt g v i), nI i)) (2 ^ n) (fun e => e = nI (cnt g v (2 ^ n))) (bigN_gt (by omega)) (fun i s hi hs => ?_) (fun s hs => ?_) (s := ((0 : Int32), (0 : Int32))) rfl
    · subst hs
      refine ⟨(nI (cnt g v (i + 1)), nI (i + 1)), ?_, rfl⟩
      show fX8_howMany_L4 o z q (nI v) (nI (cnt g v i)) (nI i) = _
      unfold fX8_howMany_L4 fX8_howMany_L4_J29
      rw [t1, Option.bind_some, Option.bind_some, t2, Option.bind_some, if_neg (nI_ge hi (by omega)), Option.bind_some, Option.bind_some, t3 i hi, Option.bind_some]
      by_cases hv2 : g i = v
      · rw [if_pos (by rw [hv2])]
        show some (Sum.inl (nI (cnt g v i) + nI 1, nI i + nI 1)) = _
        rw [nI_add, nI_add, cnt_s, if_pos hv2]
      · rw [if_neg (fun e => hv2 ((nI_eq (by have := hg i; omega) (by omega)).mp e))]
        show some (Sum.inl (nI (cnt g v i) + nI 0, nI i + nI 1)) = _
        rw [nI_add, nI_add, cnt_s, if_neg hv2]
    · subst hs
      refine ⟨nI (cnt g v (2 ^ n)), ?_, rfl⟩
      show fX8_howMany_L4 o z q (nI v) (nI (cnt g v (2 ^ n))) (nI (2 ^ n)) = _
      unfold fX8_howMany_L4
      rw [t1, Option.bind_some, Option.bind_some, t2, Option.bind_some, if_pos (nI_le (Nat.le_refl _) (by omega))]
  obtain ⟨e, h3, h4⟩ := hlp
  rw [h3, Option.bind_some, h4]
/-- the least input below N that says v, or none -/
theorem least_n {o : Nat} {z : CS} {q n v : Nat} {kd wt : Int32} {g : Nat → Nat} (h : TkAt z q n kd wt g) (hv : v ≤ 2) : (fX8_least o z q (nI v) = some (-1) ∧ ∀ x, x < 2 ^ n → g x ≠ v) ∨ ∃ x, x < 2 ^ n ∧ g x = v ∧ (∀ y, y < x → g y ≠ v) ∧ fX8_least o z q (nI v) = some (nI x) := by
  unfold fX8_least
  obtain ⟨h0, hn, hg⟩ := Tk_n h
  obtain ⟨a, t1, t2, t3⟩ := Tk_rd h
  have h2 := p2le hn
  have hlp : ∃ e, lpN (fun u => fX8_least_L2 o z q (nI v) u) bigN (0 : Int32) = some e ∧ (fun e => (e = .inl () ∧ ∀ x, x < 2 ^ n → g x ≠ v) ∨ ∃ x, x < 2 ^ n ∧ g x = v ∧ (∀ y, y < x → g y ≠ v) ∧ e = .inr (nI x)) e := by
    refine lp_upto (body := fun u => fX8_least_L2 o z q (nI v) u) (fun i s => s = nI i ∧ ∀ y, y < i → g y ≠ v) (2 ^ n) (fun e => (e = .inl () ∧ ∀ x, x < 2 ^ n → g x ≠ v) ∨ ∃ x, x < 2 ^ n ∧ g x = v ∧ (∀ y, y < x → g y ≠ v) ∧ e = .inr (nI x)) (bigN_gt (by omega)) (fun i s hi hs => ?_) (fun s hs => ?_) (s := (0 : Int32)) ⟨rfl, fun y hy => by omega⟩
    · obtain ⟨rfl, hs⟩ := hs
      show (∃ s', fX8_least_L2 o z q (nI v) (nI i) = some (Sum.inl s') ∧ _) ∨ (∃ e, fX8_least_L2 o z q (nI v) (nI i) = some (Sum.inr e) ∧ _)
      unfold fX8_least_L2
      rw [t1, Option.bind_some, Option.bind_some, t2, Option.bind_some, if_neg (nI_ge hi (by omega)), Option.bind_some, Option.bind_some, t3 i hi, Option.bind_some]
      by_cases hv2 : g i = v
      · rw [if_pos (by rw [hv2])]
        exact Or.inr ⟨_, rfl, Or.inr ⟨i, hi, hv2, hs, rfl⟩⟩
      · rw [if_neg (fun e => hv2 ((nI_eq (by have := hg i; omega) (by omega)).mp e))]
        refine Or.inl ⟨_, rfl, nI_1 i, fun y hy => ?_⟩
        rcases Nat.lt_succ_iff_lt_or_eq.mp hy with h8 | h8
        · exact hs y h8
        · rw [h8]; exact hv2
    · obtain ⟨rfl, hs⟩ := hs
      refine ⟨.inl (), ?_, Or.inl ⟨rfl, hs⟩⟩
      show fX8_least_L2 o z q (nI v) (nI (2 ^ n)) = _
      unfold fX8_least_L2
      rw [t1, Option.bind_some, Option.bind_some, t2, Option.bind_some, if_pos (nI_le (Nat.le_refl _) (by omega))]
  obtain ⟨e, h3, h4⟩ := hlp
  rcases h4 with ⟨rfl, h5⟩ | ⟨x, h5, h6, h7, rfl⟩
  · exact Or.inl ⟨by rw [h3]; rfl, h5⟩
  · exact Or.inr ⟨x, h5, h6, h7, by rw [h3]; rfl⟩
def Told (g : Nat → Nat) (n : Nat) : Prop := ∀ x, x < 2 ^ n → g x ≠ 2
theorem told_cnt {g : Nat → Nat} {n : Nat} : Told g n ↔ cnt g 2 (2 ^ n) = 0 := by
  have := cnt_pos (g := g) (v := 2) (N := 2 ^ n)
  constructor
  · intro h
    rcases Nat.eq_zero_or_pos (cnt g 2 (2 ^ n)) with h2 | h2
    · exact h2
    · obtain ⟨x, h3, h4⟩ := this.mp h2
      exact absurd h4 (h x h3)
  · intro h x hx hq
    have := this.mpr ⟨x, hx, hq⟩
    omega
theorem isTold_y {o : Nat} {z : CS} {q n : Nat} {kd wt : Int32} {g : Nat → Nat} (h : TkAt z q n kd wt g) (ht : Told g n) : fX8_isTold o z q = some 1 := by
  unfold fX8_isTold
  obtain ⟨a, t1, t2, t3⟩ := Tk_rd h
  rcases least_n (o := o) (v := 2) h (Nat.le_refl _) with ⟨h1, h2⟩ | ⟨x, h1, h2, h3, h4⟩
  · rw [t1, Option.bind_some, show (2 : Int32) = nI 2 from rfl, h1, Option.bind_some, if_pos rfl]
  · exact absurd h2 (ht x h1)
theorem isTold_n {o : Nat} {z : CS} {q n : Nat} {kd wt : Int32} {g : Nat → Nat} (h : TkAt z q n kd wt g) (ht : ¬ Told g n) : fX8_isTold o z q = some 0 := by
  unfold fX8_isTold
  obtain ⟨h0, hn, hg⟩ := Tk_n h
  have h9 := p2le hn
  obtain ⟨a, t1, t2, t3⟩ := Tk_rd h
  rcases least_n (o := o) (v := 2) h (Nat.le_refl _) with ⟨h1, h2⟩ | ⟨x, h1, h2, h3, h4⟩
  · exact absurd h2 ht
  · rw [t1, Option.bind_some, show (2 : Int32) = nI 2 from rfl, h4, Option.bind_some, if_neg]
    intro e
    have h5 := congrArg Int32.toInt e
    rw [nI_toInt (by omega)] at h5
    have h6 : (-1 : Int32).toInt = -1 := rfl
    omega
/-! a place, on both sides -/
theorem PlR_no {z : CS} {r : RS} (h : PlR z r 1 0) {k : Nat} (hk : k < 8) (hz : z.2.2.1 1 k = none) : r.2.1 0 k = 0 := by
  have := (h k hk).1 hz
  rw [Nat.zero_add] at this
  exact this
theorem PlR_yes {z : CS} {r : RS} (h : PlR z r 1 0) {k q : Nat} (hk : k < 8) (hz : z.2.2.1 1 k = some q) : ∃ (n : Nat) (kd wt : Int32) (g : Nat → Nat), TkAt z q n kd wt g ∧ TkR r k n kd wt g := by
  have := (h k hk).2 q hz
  rw [Nat.zero_add] at this
  exact this
theorem told9_out {o : Nat} {z : CS} {x : Int32} (h : x < 0 ∨ nI 8 ≤ x) : fX9_findingOfTold o z x = some (-2, z) := by
  unfold fX9_findingOfTold
  rw [find9_out h]
  rfl
theorem told9_no {o : Nat} {z : CS} {k : Nat} (h : k < 8) (hz : z.2.2.1 1 k = none) : fX9_findingOfTold o z (nI k) = some (-10, cI z 3 (z.1 3 + 1)) := by
  unfold fX9_findingOfTold
  rw [find9_no h hz]
  rfl
theorem told9_yes {o : Nat} {z : CS} {k q n : Nat} {kd wt : Int32} {g : Nat → Nat} (h : k < 8) (hz : z.2.2.1 1 k = some q) (ht : TkAt z q n kd wt g) : fX9_findingOfTold o z (nI k) = some (if cnt g 2 (2 ^ n) = 0 then 0 else -4, z) := by
  unfold fX9_findingOfTold
  obtain ⟨a, t1, t2, t3⟩ := Tk_rd ht
  rw [find9_yes h hz, Option.bind_some, if_pos rfl, aQ_n _ h (by omega), Option.bind_some, hz, Option.bind_some, t1, Option.bind_some]
  by_cases hq : Told g n
  · rw [isTold_y ht hq, Option.bind_some, if_neg i1n0, if_pos (told_cnt.mp hq)]
  · rw [isTold_n ht hq, Option.bind_some, if_pos rfl, if_neg (fun e => hq (told_cnt.mpr e))]
theorem askT_out {r : RS} {x : Int32} (h : x < 0 ∨ nI 8 ≤ x) : fX10_askTold r x = some (-2) := by
  unfold fX10_askTold
  rw [askP_out h]
  rfl
theorem askT_no {r : RS} {k : Nat} (h : k < 8) (hz : r.2.1 0 k = 0) : fX10_askTold r (nI k) = some (-10) := by
  unfold fX10_askTold
  rw [askP_no h hz]
  rfl
theorem askT_yes {r : RS} {k n : Nat} {kd wt : Int32} {g : Nat → Nat} (h : k < 8) (ht : TkR r k n kd wt g) (h1 : 1 ≤ n) (hn : n ≤ 8) (hg : ∀ x, g x ≤ 2) : fX10_askTold r (nI k) = some (if cnt g 2 (2 ^ n) = 0 then 0 else -4) := by
  unfold fX10_askTold
  rw [askP_yes h ht.1 h1 hn, Option.bind_some, if_pos rfl, opens_n (by omega) ht hn hg, Option.bind_some]
  have h2 := p2le hn
  have h3 := cnt_le g 2 (2 ^ n)
  by_cases hq : cnt g 2 (2 ^ n) = 0
  · rw [hq, if_pos (by decide), if_pos rfl]
  · rw [if_neg (nI_nle (by omega) (by omega)), if_neg hq]
