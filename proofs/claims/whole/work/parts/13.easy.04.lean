theorem hasIn_out {o : Nat} {z : CS} {q n : Nat} {kd wt : Int32} {g : Nat → Nat} (h : TkAt z q n kd wt g) {x : Int32} (hx : x < 0 ∨ nI (2 ^ n) ≤ x) : fX8_hasInput o z q x = some 0 := by
  unfold fX8_hasInput fX8_hasInput_J17
  obtain ⟨a, t1, t2, t3⟩ := Tk_rd h
  by_cases h0 : x < 0
  · rw [if_pos h0]
  · rw [if_neg h0, t1, Option.bind_some, Option.bind_some, t2, Option.bind_some, if_pos (hx.resolve_left h0)]
theorem hasIn_in {o : Nat} {z : CS} {q n : Nat} {kd wt : Int32} {g : Nat → Nat} (h : TkAt z q n kd wt g) {x : Nat} (hx : x < 2 ^ n) : fX8_hasInput o z q (nI x) = some 1 := by
  unfold fX8_hasInput fX8_hasInput_J17
  obtain ⟨a, t1, t2, t3⟩ := Tk_rd h
  have := p2le (Tk_n h).2.1
  rw [if_neg (nI_nlt0 (by omega)), t1, Option.bind_some, Option.bind_some, t2, Option.bind_some, if_neg (nI_ge hx (by omega))]
theorem ge_nlt {x : Int32} {N : Nat} (hN : N < 2 ^ 31) (h : nI N ≤ x) : ¬ x < nI N := fun q => by
  have h1 := Int32.le_iff_toInt_le.mp h
  have h2 := Int32.lt_iff_toInt_lt.mp q
  omega
theorem St_say_ok : St_say Sim := by
  intro o z r a1 a2 h
  obtain ⟨h1, h2, h3, h4, h5, h6, h7, h8, h9, h10, h11, h12, h13⟩ := id h
  rcases ix a1 (n := 8) (by omega) with hx | ⟨k, hk, rfl⟩
  · exact ⟨(-2, z), (-2, r), by unfold fX9_say; rw [find9_out hx]; rfl, by unfold fX10_say; rw [askP_out hx, Option.bind_some, if_neg (by decide), meet_B]; rfl, rfl, h⟩
  · cases e : z.2.2.1 1 k with
    | none => exact ⟨(-10, _), (-10, _), by unfold fX9_say; rw [find9_no hk e]; rfl, by unfold fX10_say; rw [askP_no hk (PlR_no h3 hk e), Option.bind_some, if_neg (by decide), meet_N]; rfl, rfl, Sim_met h⟩
    | some q =>
      obtain ⟨n, kd, wt, g, t1, t2⟩ := PlR_yes h3 hk e
      obtain ⟨n1, n8, hg⟩ := Tk_n t1
      obtain ⟨a, d1, d2, d3⟩ := Tk_rd t1
      have p2 := p2le n8
      rcases ix a2 (n := 2 ^ n) (by omega) with hx | ⟨x, hx, rfl⟩
      · refine ⟨(-11, _), (-11, _), ?_, ?_, rfl, Sim_met h⟩
        · unfold fX9_say
          rw [find9_yes hk e, Option.bind_some, if_pos rfl, aQ_n _ hk (by omega), Option.bind_some, e, Option.bind_some, d1, Option.bind_some, hasIn_out t1 hx]
          rfl
        · unfold fX10_say fX10_say_J29
          rw [askP_yes hk t2.1 n1 n8, Option.bind_some, if_pos rfl]
          by_cases h0 : a2 < 0
          · rw [if_pos h0, meet_P]; rfl
          · rw [if_neg h0, inputs_n (by omega) t2.1 n8, Option.bind_some, if_neg (ge_nlt (by omega) (hx.resolve_left h0)), meet_P]; rfl
      · refine ⟨(nI (g x), z), (nI (g x), r), ?_, ?_, rfl, h⟩
        · unfold fX9_say
          rw [find9_yes hk e, Option.bind_some, if_pos rfl, aQ_n _ hk (by omega), Option.bind_some, e, Option.bind_some, d1, Option.bind_some, hasIn_in t1 hx, Option.bind_some, if_neg i1n0, Option.bind_some, Option.bind_some, d3 x hx]
          rfl
        · unfold fX10_say
          rw [askP_yes hk t2.1 n1 n8, Option.bind_some, if_pos rfl, if_neg (nI_nlt0 (by omega)), inputs_n (by omega) t2.1 n8, Option.bind_some, if_pos (nI_lt hx (by omega)), say0_n (by omega) t2 n8 hx]
          rfl
theorem St_cube_ok : St_cube Sim := by
  intro o z r a1 h
  obtain ⟨h1, h2, h3, h4, h5, h6, h7, h8, ⟨m, m1, m2, m3, m4⟩, h10, h11, h12, h13⟩ := id h
  rcases ix a1 (n := m) (by omega) with hx | ⟨k, hk, rfl⟩
  · refine ⟨-2, -2, ?_, ?_, rfl, h⟩
    · unfold fX9_cube fX9_cube_J15
      by_cases h0 : a1 < 0
      · rw [if_pos h0]
      · rw [if_neg h0, m2, if_neg (ge_nlt (by omega) (hx.resolve_left h0))]
    · unfold fX10_cube fX10_cube_J12
      by_cases h0 : a1 < 0
      · rw [if_pos h0]
      · rw [if_neg h0, m3, if_neg (ge_nlt (by omega) (hx.resolve_left h0))]
  · refine ⟨z.2.1 13 k, r.2.1 26 k, ?_, ?_, m4 k hk, h⟩
    · unfold fX9_cube
      rw [if_neg (nI_nlt0 (by omega)), m2, if_pos (nI_lt hk (by omega)), aI_n _ (show k < 16 by omega) (by omega)]
      rfl
    · unfold fX10_cube
      rw [if_neg (nI_nlt0 (by omega)), m3, if_pos (nI_lt hk (by omega)), aI_n _ (show k < 16 by omega) (by omega)]
      rfl
theorem isLook8 {o : Nat} {z : CS} {k s : Nat} (hk : k < 511) (hs : z.2.1 3 k = nI s) (h2 : s ≤ 22) : fX5_isLook_8 o z (nI k) = some (if 20 ≤ s then 0 else 1) := by
  unfold fX5_isLook_8
  rw [aI_n _ hk (by omega), Option.bind_some, hs]
  by_cases h : 20 ≤ s
  · rw [if_pos (show (20 : Int32) ≤ nI s from nI_le (a := 20) h (by omega)), if_pos h]
  · rw [if_neg (show ¬ (20 : Int32) ≤ nI s from nI_ge (b := 20) (by omega) (by omega)), if_neg h]
theorem St_node_ok : St_node Sim := by
  intro o z r a1 a2 h
  obtain ⟨h1, h2, h3, h4, h5, h6, h7, ⟨N, N1, N2, N3, N4, N5⟩, h9, h10, h11, h12, h13⟩ := id h
  rcases ix a1 (n := N) (by omega) with hx | ⟨k, hk, rfl⟩
  · refine ⟨-2, -2, ?_, ?_, rfl, h⟩
    · unfold fX9_node fX9_node_J24
      by_cases h0 : a1 < 0
      · rw [if_pos h0]
      · rw [if_neg h0, N2, if_pos (hx.resolve_left h0)]
    · unfold fX10_node fX10_node_J21
      by_cases h0 : a1 < 0
      · rw [if_pos h0]
      · rw [if_neg h0, N3, if_pos (hx.resolve_left h0)]
  · obtain ⟨s, d, e1, e2, e3, e4, e5, e6⟩ := N5 k hk
    rcases ix a2 (n := 4) (by omega) with hx | ⟨w, hw, rfl⟩
    · have hle : ¬ a2 < 0 → ¬ a2 ≤ (3 : Int32) := fun h0 q => by
        have q1 := Int32.le_iff_toInt_le.mp (hx.resolve_left h0)
        have q2 := Int32.le_iff_toInt_le.mp q
        have q3 : (nI 4).toInt = 4 := rfl
        have q4 : (3 : Int32).toInt = 3 := rfl
        omega
      refine ⟨-2, -2, ?_, ?_, rfl, h⟩
      · unfold fX9_node fX9_node_J24
        rw [if_neg (nI_nlt0 (by omega)), N2, if_neg (nI_ge hk (by omega))]
        by_cases h0 : a2 < 0
        · rw [if_pos h0]
        · rw [if_neg h0, if_neg (hle h0)]
      · unfold fX10_node fX10_node_J21
        rw [if_neg (nI_nlt0 (by omega)), N3, if_neg (nI_ge hk (by omega))]
        by_cases h0 : a2 < 0
        · rw [if_pos h0]
        · rw [if_neg h0, if_neg (hle h0)]
    · have g9 : ∀ X : Option Int32, (if nI k < 0 then fX9_node_J24 o z else if z.1 6 ≤ nI k then fX9_node_J24 o z else if nI w < 0 then fX9_node_J24 o z else if nI w ≤ (3 : Int32) then X else fX9_node_J24 o z) = X := fun X => by
        rw [if_neg (nI_nlt0 (by omega)), N2, if_neg (nI_ge hk (by omega)), if_neg (nI_nlt0 (by omega)), if_pos (show nI w ≤ (3 : Int32) from nI_le (b := 3) (by omega) (by omega))]
      have g10 : ∀ X : Option Int32, (if nI k < 0 then fX10_node_J21 r else if r.1 5 ≤ nI k then fX10_node_J21 r else if nI w < 0 then fX10_node_J21 r else if nI w ≤ (3 : Int32) then X else fX10_node_J21 r) = X := fun X => by
        rw [if_neg (nI_nlt0 (by omega)), N3, if_neg (nI_ge hk (by omega)), if_neg (nI_nlt0 (by omega)), if_pos (show nI w ≤ (3 : Int32) from nI_le (b := 3) (by omega) (by omega))]
      rcases (show w = 0 ∨ w = 1 ∨ w = 2 ∨ w = 3 by omega) with rfl | rfl | rfl | rfl
      · refine ⟨nI s, nI s, ?_, ?_, rfl, h⟩
        · unfold fX9_node
          rw [g9, if_pos (by rfl), aI_n _ (show k < 511 by omega) (by omega), e1]; rfl
        · unfold fX10_node
          rw [g10, if_pos (by rfl), aI_n _ (show k < 512 by omega) (by omega), e2]; rfl
      · refine ⟨nI d, nI d, ?_, ?_, rfl, h⟩
        · unfold fX9_node
          rw [g9, if_neg (by decide), if_pos (by rfl), aI_n _ (show k < 511 by omega) (by omega), e3]; rfl
        · unfold fX10_node
          rw [g10, if_neg (by decide), if_pos (by rfl), aI_n _ (show k < 512 by omega) (by omega), e4]; rfl
      · rcases e6 with ⟨s8, z1, m, m1, m2, m3, m4, m5, m6⟩ | ⟨s20, s22, z1, z2⟩
        · refine ⟨nI (k + 1), nI (k + 1), ?_, ?_, rfl, h⟩
          · unfold fX9_node
            rw [g9, if_neg (by decide), if_neg (by decide), if_pos (by rfl), isLook8 (by omega) e1 (by omega), Option.bind_some, if_neg (show ¬ 20 ≤ s by omega), if_neg i1n0]
            unfold fX5_branch_8
            rw [if_pos rfl, Option.bind_some, show nI k + (1 : Int32) = nI (k + 1) from nI_1 k]
          · unfold fX10_node
            rw [g10, if_neg (by decide), if_neg (by decide), if_pos (by rfl), aI_n _ (show k < 512 by omega) (by omega), z1]; rfl
        · refine ⟨-1, -1, ?_, ?_, rfl, h⟩
          · unfold fX9_node
            rw [g9, if_neg (by decide), if_neg (by decide), if_pos (by rfl), isLook8 (by omega) e1 (by omega), Option.bind_some, if_pos s20, if_pos rfl]
          · unfold fX10_node
            rw [g10, if_neg (by decide), if_neg (by decide), if_pos (by rfl), aI_n _ (show k < 512 by omega) (by omega), z1]; rfl
      · rcases e6 with ⟨s8, z1, m, m1, m2, m3, m4, m5, m6⟩ | ⟨s20, s22, z1, z2⟩
        · refine ⟨nI m, nI m, ?_, ?_, rfl, h⟩
          · unfold fX9_node
            rw [g9, if_neg (by decide), if_neg (by decide), if_neg (by decide), isLook8 (by omega) e1 (by omega), Option.bind_some, if_neg (show ¬ 20 ≤ s by omega), if_neg i1n0]
            unfold fX5_branch_8
            rw [if_neg i1n0, show nI k + (1 : Int32) = nI (k + 1) from nI_1 k, aI_n _ (show k + 1 < 511 by omega) (by omega), m3]
            rfl
          · unfold fX10_node
            rw [g10, if_neg (by decide), if_neg (by decide), if_neg (by decide), aI_n _ (show k < 512 by omega) (by omega), m4]; rfl
        · refine ⟨-1, -1, ?_, ?_, rfl, h⟩
          · unfold fX9_node
            rw [g9, if_neg (by decide), if_neg (by decide), if_neg (by decide), isLook8 (by omega) e1 (by omega), Option.bind_some, if_pos s20, if_pos rfl]
          · unfold fX10_node
            rw [g10, if_neg (by decide), if_neg (by decide), if_neg (by decide), aI_n _ (show k < 512 by omega) (by omega), z2]; rfl
