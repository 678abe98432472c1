theorem St_lose_ok : St_lose Sim := by
  intro o z r a1 h
  rcases ix a1 (n := 6) (by omega) with hx | ⟨k, hk, rfl⟩
  · exact ⟨(-2, z), (-2, r), by unfold fX9_lose; rw [isSh9_out hx]; rfl, by unfold fX10_lose; rw [isSh10_out hx]; rfl, rfl, h⟩
  · obtain ⟨h1, h2, h3, h4, h5, h6, h7, h8, h9, h10, h11, h12, h13⟩ := id h
    have hz : ShR (cQ z 0 k none) (rA r 5 k (-1)) := by
      refine ⟨fun s hs => ?_, fun s t q w k' n a f k'' n' f' hs ht e1 e2 => ?_⟩
      · by_cases hsk : s = k
        · subst hsk
          exact ⟨fun _ => by simp [rA, upd], fun q hq => by simp [cQ, va_up] at hq⟩
        · have hs0 := h2.1 s hs
          refine ⟨fun hq => ?_, fun q hq => ?_⟩
          · simp [cQ, va_up, hsk] at hq
            simpa [rA, upd, hsk] using hs0.1 hq
          · simp [cQ, va_up, hsk] at hq
            obtain ⟨k', n, a, f, q1, q2, q3, q4⟩ := hs0.2 q hq
            exact ⟨k', n, a, f, q1, q2, by simpa [rA, upd, hsk] using q3, q4⟩
      · have hsk : s ≠ k := fun e => by subst e; simp [cQ, va_up] at e1
        have htk : t ≠ k := fun e => by subst e; simp [cQ, va_up] at e2
        simp [cQ, va_up, hsk] at e1
        simp [cQ, va_up, htk] at e2
        exact h2.2 s t q w k' n a f k'' n' f' hs ht e1 e2
    cases hq : z.2.2.1 0 k with
    | none =>
      have hr := (h2.1 k hk).1 hq
      refine ⟨(0, cQ z 0 k none), (0, rA r 5 k (-1)), ?_, ?_, rfl, h1, hz, h3, h4, h5, h6, h7, h8, h9, h10, h11, h12, h13⟩
      · unfold fX9_lose fX9_lose_J24
        rw [isSh9_in hk, Option.bind_some, if_neg i1n0, aQ_n _ hk (by omega), Option.bind_some, hq, stQS_n hk rfl]
        rfl
      · unfold fX10_lose fX10_lose_J24
        rw [isSh10_in hk, Option.bind_some, if_neg i1n0, aI_n _ hk (by omega), Option.bind_some, hr, if_pos (by decide), sA_n hk (by omega)]
        rfl
    | some q =>
      obtain ⟨k', n, a, f, q1, q2, q3, q4⟩ := (h2.1 k hk).2 q hq
      refine ⟨(1, cQ z 0 k none), (1, rA r 5 k (-1)), ?_, ?_, rfl, h1, hz, h3, h4, h5, h6, h7, h8, h9, h10, h11, h12, h13⟩
      · unfold fX9_lose fX9_lose_J24
        rw [isSh9_in hk, Option.bind_some, if_neg i1n0, aQ_n _ hk (by omega), Option.bind_some, hq, stQS_n hk rfl]
        rfl
      · unfold fX10_lose fX10_lose_J24
        rw [isSh10_in hk, Option.bind_some, if_neg i1n0, aI_n _ hk (by omega), Option.bind_some, q3, if_neg (nI_nlt0 (by have := q1.2.2.2; omega)), sA_n hk (by omega)]
        rfl
