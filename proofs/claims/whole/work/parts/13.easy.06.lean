theorem ones1_n {r : RS} {p n : Nat} {w : Int32} {kd wt : Int32} {g : Nat → Nat} (hp : p < 16) (h : TkR r p n kd wt g) (hn : n ≤ 8) (hg : ∀ x, g x ≤ 2) : lpN (fun u => fX10_of_L40 r (nI p) w u.1 u.2) bigN ((0 : Int32), (0 : Int32)) = some (nI (cnt g 1 (2 ^ n))) := by
  have h2 := p2le hn
  have hlp : ∃ e, lpN (fun u => fX10_of_L40 r (nI p) w u.1 u.2) bigN ((0 : Int32), (0 : Int32)) = some e ∧ (fun e => e = nI (cnt g 1 (2 ^ n))) e := by
    refine lp_count (fun i s => s = (nI (cnt g 1 i), nI i)) (2 ^ n) _ (bigN_gt (by omega)) (fun i s hi hs => ?_) (fun s hs => ?_) rfl
    · subst hs
      refine ⟨(nI (cnt g 1 (i + 1)), nI (i + 1)), ?_, rfl⟩
      show fX10_of_L40 r (nI p) w (nI (cnt g 1 i)) (nI i) = _
      unfold fX10_of_L40 fX10_of_L40_J67
      rw [inputs_n hp h.1 hn, Option.bind_some, if_neg (nI_ge hi (by omega)), say0_n hp h hn hi, Option.bind_some]
      by_cases hv : g i = 1
      · rw [if_pos (by rw [hv]; rfl)]
        show some (Sum.inl (nI (cnt g 1 i) + nI 1, nI i + nI 1)) = _
        rw [nI_add, nI_add, cnt_s, if_pos hv]
      · rw [if_neg (show ¬ nI (g i) = (1 : Int32) from fun e => hv ((nI_eq (b := 1) (by have := hg i; omega) (by omega)).mp e))]
        show some (Sum.inl (nI (cnt g 1 i) + nI 0, nI i + nI 1)) = _
        rw [nI_add, nI_add, cnt_s, if_neg hv]
    · subst hs
      refine ⟨_, ?_, rfl⟩
      show fX10_of_L40 r (nI p) w (nI (cnt g 1 (2 ^ n))) (nI (2 ^ n)) = _
      unfold fX10_of_L40
      rw [inputs_n hp h.1 hn, Option.bind_some, if_pos (nI_le (Nat.le_refl _) (by omega))]
  obtain ⟨e, h3, h4⟩ := hlp
  rw [h3, h4]
theorem worth_n {r : RS} {p n : Nat} {kd wt : Int32} {g : Nat → Nat} (hp : p < 16) (h : TkR r p n kd wt g) : fX10_worth r (nI p) = some wt := by
  obtain ⟨h1, h2, h3, h4⟩ := h
  unfold fX10_worth
  rw [aI_n _ hp (by omega), Option.bind_some, h2, aI_n _ hp (by omega), h1, aI_n _ hp (by omega)]
  rcases h3 with ⟨rfl, rfl⟩ | ⟨rfl, rfl⟩ | ⟨rfl, rfl⟩ | ⟨hk, rfl⟩
  · rw [if_pos rfl]; rfl
  · rw [if_neg (by decide), Option.bind_some, if_pos rfl]; rfl
  · rw [if_neg (by decide), Option.bind_some, if_neg (by decide), Option.bind_some, if_pos rfl, Option.bind_some, show (100 : Int32) = nI 100 from rfl, nI_add]
  · have hk0 : ¬ kd = 0 := by rcases hk with rfl | rfl <;> decide
    have hk3 : ¬ kd = 3 := by rcases hk with rfl | rfl <;> decide
    have hk4 : ¬ kd = 4 := by rcases hk with rfl | rfl <;> decide
    rw [if_neg hk0, Option.bind_some, if_neg hk3, Option.bind_some, if_neg hk4, Option.bind_some, show (10 : Int32) = nI 10 from rfl, nI_add]
theorem out4 {x : Int32} {m : Nat} (hm : m + 1 < 2 ^ 31) (hx : x < 0 ∨ nI (m + 1) ≤ x) (h0 : ¬ x < 0) : ¬ x ≤ nI m := fun q => by
  have q1 := Int32.le_iff_toInt_le.mp (hx.resolve_left h0)
  have q2 := Int32.le_iff_toInt_le.mp q
  rw [nI_toInt hm] at q1
  rw [nI_toInt (by omega)] at q2
  omega
theorem St_of_ok : St_of Sim := by
  intro o z r a1 a2 h
  obtain ⟨h1, h2, h3, h4, h5, h6, h7, h8, h9, h10, h11, h12, h13⟩ := id h
  rcases ix a2 (n := 5) (by omega) with hx | ⟨w, hw, rfl⟩
  · refine ⟨(-2, z), (-2, r), ?_, ?_, rfl, h⟩
    · unfold fX9_of fX9_of_J9 fX9_of_J19
      by_cases h0 : a2 < 0
      · rw [if_pos h0, if_neg (by decide)]
      · rw [if_neg h0, if_neg (show ¬ a2 ≤ (4 : Int32) from out4 (m := 4) (by omega) hx h0), if_neg (by decide)]
    · unfold fX10_of fX10_of_J16
      rcases ix a1 (n := 8) (by omega) with hx1 | ⟨k, hk, rfl⟩
      · rw [isPl10_out hx1]; rfl
      · rw [isPl10_in hk, Option.bind_some, if_neg i1n0]
        by_cases h0 : a2 < 0
        · rw [if_pos h0]
        · rw [if_neg h0, if_neg (show ¬ a2 ≤ (4 : Int32) from out4 (m := 4) (by omega) hx h0)]
  · have g9 : ∀ X Y : Option (Int32 × CS), (if nI w < 0 then Y else if nI w ≤ (4 : Int32) then X else Y) = X := fun X Y => by
      rw [if_neg (nI_nlt0 (by omega)), if_pos (show nI w ≤ (4 : Int32) from nI_le (b := 4) (by omega) (by omega))]
    have g10 : ∀ X Y : Option (Int32 × RS), (if nI w < 0 then Y else if nI w ≤ (4 : Int32) then X else Y) = X := fun X Y => by
      rw [if_neg (nI_nlt0 (by omega)), if_pos (show nI w ≤ (4 : Int32) from nI_le (b := 4) (by omega) (by omega))]
    rcases ix a1 (n := 8) (by omega) with hx1 | ⟨k, hk, rfl⟩
    · refine ⟨(-2, z), (-2, r), ?_, ?_, rfl, h⟩
      · unfold fX9_of fX9_of_J19
        rw [g9, find9_out hx1]; rfl
      · unfold fX10_of fX10_of_J16
        rw [isPl10_out hx1]; rfl
    · cases e : z.2.2.1 1 k with
      | none =>
        refine ⟨(-10, _), (-10, _), ?_, ?_, rfl, Sim_met h⟩
        · unfold fX9_of fX9_of_J19
          rw [g9, find9_no hk e]; rfl
        · unfold fX10_of
          rw [isPl10_in hk, Option.bind_some, if_neg i1n0, g10, aI_n _ (show k < 16 by omega) (by omega), Option.bind_some, PlR_no h3 hk e, if_pos rfl, meet_N]; rfl
      | some q =>
        obtain ⟨n, kd, wt, g, t1, t2⟩ := PlR_yes h3 hk e
        obtain ⟨n1, n8, hg⟩ := Tk_n t1
        obtain ⟨a, d1, d2, d3⟩ := Tk_rd t1
        have hC : ∀ v, fX9_of o z (nI k) (nI w) = some (v, z) ↔ fX9_of_J19 o z (nI k) (nI w) 0 = some (v, z) := fun v => by
          unfold fX9_of
          rw [g9, find9_yes hk e, Option.bind_some]
        have hR : fX10_of r (nI k) (nI w) = if nI w = 0 then some (kd, r) else if nI w = 1 then some (nI n, r) else if nI w = 2 then some (nI (cnt g 1 (2 ^ n)), r) else if nI w = 3 then some (nI (cnt g 2 (2 ^ n)), r) else some (wt, r) := by
          unfold fX10_of
          rw [isPl10_in hk, Option.bind_some, if_neg i1n0, g10, aI_n _ (show k < 16 by omega) (by omega), Option.bind_some, t2.1, if_neg (nI_n0 (by omega) (by omega)), ones1_n (by omega) t2 n8 hg, Option.bind_some, aI_n _ (show k < 16 by omega) (by omega), t2.2.1, opens_n (by omega) t2 n8 hg, worth_n (by omega) t2]
          rfl
        have hJ : fX9_of_J19 o z (nI k) (nI w) 0 = if nI w = 0 then some (kd, z) else if nI w = 1 then some (nI n, z) else if nI w = 2 then some (nI (cnt g 1 (2 ^ n)), z) else if nI w = 3 then some (nI (cnt g 2 (2 ^ n)), z) else some (wt, z) := by
          unfold fX9_of_J19
          rw [if_pos rfl, aQ_n _ hk (by omega), Option.bind_some, e]
          simp only [d1, Option.bind_some, show (1 : Int32) = nI 1 from rfl, show (2 : Int32) = nI 2 from rfl, howMany_n t1 (show 1 ≤ 2 by omega), howMany_n t1 (show 2 ≤ 2 by omega)]
        rcases (show w = 0 ∨ w = 1 ∨ w = 2 ∨ w = 3 ∨ w = 4 by omega) with rfl | rfl | rfl | rfl | rfl
        · exact ⟨(kd, z), (kd, r), (hC _).mpr (by rw [hJ, if_pos (by rfl)]), by rw [hR, if_pos (by rfl)], rfl, h⟩
        · exact ⟨(nI n, z), (nI n, r), (hC _).mpr (by rw [hJ, if_neg (by decide), if_pos (by rfl)]), by rw [hR, if_neg (by decide), if_pos (by rfl)], rfl, h⟩
        · exact ⟨(_, z), (_, r), (hC _).mpr (by rw [hJ, if_neg (by decide), if_neg (by decide), if_pos (by rfl)]), by rw [hR, if_neg (by decide), if_neg (by decide), if_pos (by rfl)], rfl, h⟩
        · exact ⟨(_, z), (_, r), (hC _).mpr (by rw [hJ, if_neg (by decide), if_neg (by decide), if_neg (by decide), if_pos (by rfl)]), by rw [hR, if_neg (by decide), if_neg (by decide), if_neg (by decide), if_pos (by rfl)], rfl, h⟩
        · exact ⟨(wt, z), (wt, r), (hC _).mpr (by rw [hJ, if_neg (by decide), if_neg (by decide), if_neg (by decide), if_neg (by decide)]), by rw [hR, if_neg (by decide), if_neg (by decide), if_neg (by decide), if_neg (by decide)], rfl, h⟩
