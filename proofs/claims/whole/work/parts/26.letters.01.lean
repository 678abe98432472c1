/-! ===== letters: the class ===== -/
def ZL (z z' : CS) : Prop := z'.1 = z.1 ∧ (∀ k, k ≠ 16 → z'.2.1 k = z.2.1 k) ∧ z'.2.2 = z.2.2
theorem ZL.rf {z : CS} : ZL z z := ⟨rfl, fun _ _ => rfl, rfl⟩
theorem ZL.tr {x y z : CS} (h : ZL x y) (h' : ZL y z) : ZL x z := ⟨h'.1.trans h.1, fun k hk => (h'.2.1 k hk).trans (h.2.1 k hk), h'.2.2.trans h.2.2⟩
theorem ZL.up {z z' : CS} {i : Nat} {x : Int32} (h : ZL z z') : ZL z (cAr z' 16 i x) := ⟨h.1, fun k hk => by rw [cAr_n hk]; exact h.2.1 k hk, h.2.2⟩
def Tab (y : CS) (tab : Nat → Nat) : Prop := ∀ t, t < 256 → y.2.1 16 t = nI (tab t) ∧ tab t ≤ 99
def lowT (tab : Nat → Nat) (t c s : Nat) : Nat := if tab t ≤ c then tab s else if s = 255 - t ∨ s = t then c else tab s
theorem i_255 : (255 : Int32) = nI 255 := by decide
theorem i_170 : (170 : Int32) = nI 170 := by decide
theorem i_204 : (204 : Int32) = nI 204 := by decide
theorem i_240 : (240 : Int32) = nI 240 := by decide
theorem low_n {o : Nat} {y : CS} {tab : Nat → Nat} {t c : Nat} (h : Tab y tab) (ht : t < 256) (hc : c ≤ 99) : ∃ y', fX4_lower o y (nI t) (nI c) = some y' ∧ ZL y y' ∧ Tab y' (lowT tab t c) := by
  obtain ⟨h1, h2⟩ := h t ht
  unfold fX4_lower
  by_cases q : tab t ≤ c
  · refine ⟨y, ?_, ZL.rf, fun s hs => ?_⟩
    · simp (disch := omega) only [h1, Option.bind_some, aI_n, aL_n, aQ_n, sA_n, sL_n, csA_n, i_0, i_1, i_2, i_3, i_4, i_5, i_6, i_7, i_8, i_9, i_10, i_11, i_12, i_13, i_16, i_20, i_21, i_22, i_31, i_99, i_100, i_256, i_1000, nI_eq, nI_leI, nI_ltI, nI_add, pk_mul, ↓reduceIte, nt_le, nf_le, nt_lt, nf_lt, nt_eq, nf_eq, meet_N', meet_P', meet_S', meet_Z', meet_B', meet_O', n_1, n_2, n_3, n_4, n_5, n_10, n_11]
    · unfold lowT
      rw [if_pos q]
      exact h s hs
  · refine ⟨cAr (cAr y 16 t (nI c)) 16 (255 - t) (nI c), ?_, ZL.rf.up.up, fun s hs => ?_⟩
    · simp (disch := omega) only [h1, i_255, pk_sub, Option.bind_some, aI_n, aL_n, aQ_n, sA_n, sL_n, csA_n, i_0, i_1, i_2, i_3, i_4, i_5, i_6, i_7, i_8, i_9, i_10, i_11, i_12, i_13, i_16, i_20, i_21, i_22, i_31, i_99, i_100, i_256, i_1000, nI_eq, nI_leI, nI_ltI, nI_add, pk_mul, ↓reduceIte, nt_le, nf_le, nt_lt, nf_lt, nt_eq, nf_eq, meet_N', meet_P', meet_S', meet_Z', meet_B', meet_O', n_1, n_2, n_3, n_4, n_5, n_10, n_11]
    · unfold lowT
      rw [if_neg q]
      by_cases e : s = 255 - t
      · rw [if_pos (Or.inl e), e]; exact ⟨cAr_s, hc⟩
      · rw [cAr_j e]
        by_cases e2 : s = t
        · rw [if_pos (Or.inr e2), e2]; exact ⟨cAr_s, hc⟩
        · rw [cAr_j e2, if_neg (fun w => w.elim e e2)]; exact h s hs
def tv (L t : Nat) : Nat := if LT t ≤ L then LT t else 99
/-- while so many letters are joined -/
def JT (L : Nat) (tab : Nat → Nat) : Prop := ∀ t, t < 256 → (tab t = tv (L - 1) t ∨ (LT t = L ∧ tab t = L)) ∧ tab (255 - t) = tab t
theorem JT_low {L t : Nat} {tab : Nat → Nat} (h : JT L tab) (hL : 1 ≤ L) (hL' : L ≤ 10) (ht : t < 256) (hl : LT t ≤ L) : JT L (lowT tab t L) ∧ lowT tab t L t ≤ L ∧ ∀ s, s < 256 → tab s ≤ L → lowT tab t L s ≤ L := by
  unfold lowT
  by_cases q : tab t ≤ L
  · refine ⟨fun s hs => ?_, ?_, fun s _ hs => ?_⟩
    · show (_ ∨ _) ∧ _
      simp only [if_pos q]
      exact h s hs
    · rw [if_pos q]; exact q
    · rw [if_pos q]; exact hs
  · have hLt : LT t = L := by
      rcases (h t ht).1 with a | a
      · unfold tv at a
        by_cases c : LT t ≤ L - 1
        · rw [if_pos c] at a; omega
        · omega
      · exact a.1
    have bt' := (ltB t ht).1
    refine ⟨fun s hs => ?_, ?_, fun s _ hs => ?_⟩
    · simp only [if_neg q]
      have hsym : (255 - s = 255 - t ∨ 255 - s = t) ↔ (s = 255 - t ∨ s = t) := by omega
      by_cases c : s = 255 - t ∨ s = t
      · rw [if_pos c, if_pos (hsym.mpr c)]
        refine ⟨Or.inr ⟨?_, rfl⟩, rfl⟩
        rcases c with c | c
        · rw [c, bt', hLt]
        · rw [c, hLt]
      · rw [if_neg c, if_neg (fun w => c (hsym.mp w))]
        exact h s hs
    · rw [if_neg q, if_pos (Or.inr rfl)]; exact Nat.le_refl _
    · rw [if_neg q]
      split
      · exact Nat.le_refl _
      · exact hs
/-- f is one that may be joined -/
def Qf (L f : Nat) : Prop := 1 ≤ LT f ∧ 2 * LT f ≤ L
theorem join35 {o : Nat} {z y : CS} {tab : Nat → Nat} {L f : Nat} (hL : 2 ≤ L) (hL' : L ≤ 10) (hf : f < 256) (hq : Qf L f) (hz : ZL z y) (ht : Tab y tab) (hj : JT L tab) : ∃ e, lpN (fun u => fX4_joinTo_L35 o u.2 (nI L) (nI f) u.1) bigN (nI 0, y) = some e ∧ (ZL z e ∧ ∃ tab', Tab e tab' ∧ JT L tab' ∧ (∀ s, s < 256 → tab s ≤ L → tab' s ≤ L) ∧ ∀ g, g < 256 → LT f + LT g = L → tab' (f &&& g) ≤ L) := by
  refine lp_count (fun g s => s.1 = nI g ∧ ZL z s.2 ∧ ∃ tab', Tab s.2 tab' ∧ JT L tab' ∧ (∀ s, s < 256 → tab s ≤ L → tab' s ≤ L) ∧ ∀ g', g' < g → LT f + LT g' = L → tab' (f &&& g') ≤ L) 256 _ (bigN_gt (by omega)) (fun g s hg hs => ?_) (fun s hs => ?_) ⟨rfl, hz, tab, ht, hj, fun _ _ h => h, fun g' h => by omega⟩
  · obtain ⟨l, y'⟩ := s
    obtain ⟨rfl, s1, tb, s2, s3, s4, s5⟩ := hs
    simp only at s1 s2
    have hfg : f &&& g < 256 := by
      have : f &&& g ≤ f := Nat.and_le_left
      omega
    have tf : tb f = LT f := by
      rcases (s3 f hf).1 with a | a
      · rw [a]; unfold tv; rw [if_pos (by have := hq.2; have := hq.1; omega)]
      · have := hq.2; have := hq.1; omega
    obtain ⟨f1, f2⟩ := s2 f hf
    obtain ⟨g1, g2⟩ := s2 g hg
    have lg := (ltB g hg).2.1
    have tgq : tb f + tb g = L ↔ LT f + LT g = L := by
      rw [tf]
      rcases (s3 g hg).1 with a | a
      · rw [a]
        unfold tv
        by_cases c : LT g ≤ L - 1
        · rw [if_pos c]
        · rw [if_neg c]
          have := hq.1
          omega
      · have := hq.1
        rw [a.2]
        omega
    unfold fX4_joinTo_L35 fX4_joinTo_L35_J67
    by_cases c : tb f + tb g = L
    · have c' := tgq.mp c
      have hl : LT (f &&& g) ≤ L := by
        have := (ltA hf hg).1
        omega
      obtain ⟨y2, w1, w2, w3⟩ := low_n (o := o) (c := L) s2 hfg (by omega)
      obtain ⟨j1, j2, j3⟩ := JT_low s3 (by omega) hL' hfg hl
      refine ⟨(nI (g + 1), y2), ?_, rfl, s1.tr w2, lowT tb (f &&& g) L, w3, j1, fun s hs h => j3 s hs (s4 s hs h), fun g' hg' hsum => ?_⟩
      · simp (disch := omega) only [f1, g1, nI_and, w1, Option.bind_some, aI_n, aL_n, aQ_n, sA_n, sL_n, csA_n, i_0, i_1, i_2, i_3, i_4, i_5, i_6, i_7, i_8, i_9, i_10, i_11, i_12, i_13, i_16, i_20, i_21, i_22, i_31, i_99, i_100, i_256, i_1000, nI_eq, nI_leI, nI_ltI, nI_add, pk_mul, ↓reduceIte, nt_le, nf_le, nt_lt, nf_lt, nt_eq, nf_eq, meet_N', meet_P', meet_S', meet_Z', meet_B', meet_O', n_1, n_2, n_3, n_4, n_5, n_10, n_11]
      · by_cases e : g' = g
        · rw [e]; exact j2
        · refine j3 _ ?_ (s5 g' (by omega) hsum)
          have : f &&& g' ≤ f := Nat.and_le_left
          omega
    · refine ⟨(nI (g + 1), y'), ?_, rfl, s1, tb, s2, s3, s4, fun g' hg' hsum => ?_⟩
      · simp (disch := omega) only [f1, g1, Option.bind_some, aI_n, aL_n, aQ_n, sA_n, sL_n, csA_n, i_0, i_1, i_2, i_3, i_4, i_5, i_6, i_7, i_8, i_9, i_10, i_11, i_12, i_13, i_16, i_20, i_21, i_22, i_31, i_99, i_100, i_256, i_1000, nI_eq, nI_leI, nI_ltI, nI_add, pk_mul, ↓reduceIte, nt_le, nf_le, nt_lt, nf_lt, nt_eq, nf_eq, meet_N', meet_P', meet_S', meet_Z', meet_B', meet_O', n_1, n_2, n_3, n_4, n_5, n_10, n_11]
      · by_cases e : g' = g
        · rw [e] at hsum; exact absurd (tgq.mpr hsum) c
        · exact s5 g' (by omega) hsum
  · obtain ⟨l, y'⟩ := s
    obtain ⟨rfl, s1, s2⟩ := hs
    refine ⟨y', ?_, s1, s2⟩
    unfold fX4_joinTo_L35
    simp (disch := omega) only [Option.bind_some, aI_n, aL_n, aQ_n, sA_n, sL_n, csA_n, i_0, i_1, i_2, i_3, i_4, i_5, i_6, i_7, i_8, i_9, i_10, i_11, i_12, i_13, i_16, i_20, i_21, i_22, i_31, i_99, i_100, i_256, i_1000, nI_eq, nI_leI, nI_ltI, nI_add, pk_mul, ↓reduceIte, nt_le, nf_le, nt_lt, nf_lt, nt_eq, nf_eq, meet_N', meet_P', meet_S', meet_Z', meet_B', meet_O', n_1, n_2, n_3, n_4, n_5, n_10, n_11]
theorem join_n {o : Nat} {z y : CS} {L : Nat} (hL : 2 ≤ L) (hL' : L ≤ 10) (hz : ZL z y) (ht : Tab y (tv (L - 1))) : ∃ e, fX4_joinTo o y (nI L) = some e ∧ ZL z e ∧ Tab e (tv L) := by
  have HH := lp_count (body := fun u => fX4_joinTo_L2 o u.2 (nI L) u.1) (fun f s => s.1 = nI f ∧ ZL z s.2 ∧ ∃ tab, Tab s.2 tab ∧ JT L tab ∧ ∀ f', f' < f → Qf L f' → ∀ g, g < 256 → LT f' + LT g = L → tab (f' &&& g) ≤ L) 256 (fun e => ZL z e ∧ ∃ tab, Tab e tab ∧ JT L tab ∧ ∀ f', f' < 256 → Qf L f' → ∀ g, g < 256 → LT f' + LT g = L → tab (f' &&& g) ≤ L) (bigN_gt (by omega)) (fun f s hf hs => ?_) (fun s hs => ?_) (s := (nI 0, y)) ⟨rfl, hz, tv (L - 1), ht, fun t ht => ⟨Or.inl rfl, by unfold tv; rw [(ltB t ht).1]⟩, fun f' h => by omega⟩
  · obtain ⟨e, e1, e2, tab, e3, e4, e5⟩ := HH
    refine ⟨e, ?_, e2, fun t ht => ?_⟩
    · unfold fX4_joinTo
      exact (congrArg (fun u => u.bind fun e7 => some e7) e1).trans rfl
    · have key : tab t = tv L t := by
        rcases (e4 t ht).1 with a | a
        · unfold tv at a ⊢
          by_cases c : LT t ≤ L - 1
          · rw [if_pos c] at a
            rw [if_pos (by omega)]; exact a
          · by_cases c2 : LT t ≤ L
            · have hLt : LT t = L := by omega
              obtain ⟨f, g, b1, b2, b3, b4, b5, b6⟩ := ltC ht (by omega)
              have := e5 f b1 ⟨b4, by omega⟩ g b2 (by omega)
              rw [if_neg c] at a
              rcases b6 with b | b
              · rw [b] at this; omega
              · rw [b, (e4 t ht).2] at this; omega
            · rw [if_neg c] at a
              rw [if_neg c2]; exact a
        · unfold tv
          rw [if_pos (by omega), a.2, a.1]
      rw [← key]
      exact e3 t ht
  · obtain ⟨l, y'⟩ := s
    obtain ⟨rfl, s1, tb, s2, s3, s4⟩ := hs
    simp only at s1 s2
    obtain ⟨f1, f2⟩ := s2 f hf
    unfold fX4_joinTo_L2 fX4_joinTo_L2_J73
    by_cases q : Qf L f
    · have tf : tb f = LT f := by
        rcases (s3 f hf).1 with a | a
        · rw [a]; unfold tv; rw [if_pos (by have := q.2; have := q.1; omega)]
        · have := q.2; have := q.1; omega
      obtain ⟨e, w1, w2, tb', w3, w4, w5, w6⟩ := join35 (o := o) hL hL' hf q s1 s2 s3
      have q1 := q.1
      have q2 := q.2
      refine ⟨(nI (f + 1), e), ?_, rfl, w2, tb', w3, w4, fun f' hf' qf' g hg hsum => ?_⟩
      · rw [tf] at f1
        simp (disch := omega) only [f1, w1, Option.bind_some, aI_n, aL_n, aQ_n, sA_n, sL_n, csA_n, i_0, i_1, i_2, i_3, i_4, i_5, i_6, i_7, i_8, i_9, i_10, i_11, i_12, i_13, i_16, i_20, i_21, i_22, i_31, i_99, i_100, i_256, i_1000, nI_eq, nI_leI, nI_ltI, nI_add, pk_mul, ↓reduceIte, nt_le, nf_le, nt_lt, nf_lt, nt_eq, nf_eq, meet_N', meet_P', meet_S', meet_Z', meet_B', meet_O', n_1, n_2, n_3, n_4, n_5, n_10, n_11]
      · by_cases ef : f' = f
        · rw [ef] at hsum ⊢; exact w6 g hg hsum
        · refine w5 _ ?_ (s4 f' (by omega) qf' g hg hsum)
          have : f' &&& g ≤ f' := Nat.and_le_left
          omega
    · refine ⟨(nI (f + 1), y'), ?_, rfl, s1, tb, s2, s3, fun f' hf' qf' g hg hsum => ?_⟩
      · by_cases c0 : tb f = 0
        · simp (disch := omega) only [f1, c0, Option.bind_some, aI_n, aL_n, aQ_n, sA_n, sL_n, csA_n, i_0, i_1, i_2, i_3, i_4, i_5, i_6, i_7, i_8, i_9, i_10, i_11, i_12, i_13, i_16, i_20, i_21, i_22, i_31, i_99, i_100, i_256, i_1000, nI_eq, nI_leI, nI_ltI, nI_add, pk_mul, ↓reduceIte, nt_le, nf_le, nt_lt, nf_lt, nt_eq, nf_eq, meet_N', meet_P', meet_S', meet_Z', meet_B', meet_O', n_1, n_2, n_3, n_4, n_5, n_10, n_11]
        · have c1 : ¬ 2 * tb f ≤ L := by
            intro w
            rcases (s3 f hf).1 with a | a
            · unfold tv at a
              by_cases c : LT f ≤ L - 1
              · rw [if_pos c] at a
                exact q ⟨by omega, by omega⟩
              · rw [if_neg c] at a; omega
            · omega
          simp (disch := omega) only [f1, Option.bind_some, aI_n, aL_n, aQ_n, sA_n, sL_n, csA_n, i_0, i_1, i_2, i_3, i_4, i_5, i_6, i_7, i_8, i_9, i_10, i_11, i_12, i_13, i_16, i_20, i_21, i_22, i_31, i_99, i_100, i_256, i_1000, nI_eq, nI_leI, nI_ltI, nI_add, pk_mul, ↓reduceIte, nt_le, nf_le, nt_lt, nf_lt, nt_eq, nf_eq, meet_N', meet_P', meet_S', meet_Z', meet_B', meet_O', n_1, n_2, n_3, n_4, n_5, n_10, n_11]
      · by_cases ef : f' = f
        · rw [ef] at qf'; exact absurd qf' q
        · exact s4 f' (by omega) qf' g hg hsum
  · obtain ⟨l, y'⟩ := s
    obtain ⟨rfl, s1, s2⟩ := hs
    refine ⟨y', ?_, s1, s2⟩
    unfold fX4_joinTo_L2
    simp (disch := omega) only [Option.bind_some, aI_n, aL_n, aQ_n, sA_n, sL_n, csA_n, i_0, i_1, i_2, i_3, i_4, i_5, i_6, i_7, i_8, i_9, i_10, i_11, i_12, i_13, i_16, i_20, i_21, i_22, i_31, i_99, i_100, i_256, i_1000, nI_eq, nI_leI, nI_ltI, nI_add, pk_mul, ↓reduceIte, nt_le, nf_le, nt_lt, nf_lt, nt_eq, nf_eq, meet_N', meet_P', meet_S', meet_Z', meet_B', meet_O', n_1, n_2, n_3, n_4, n_5, n_10, n_11]
theorem tv1 : ∀ t, t < 256 → lowT (lowT (lowT (lowT (fun _ => 99) 0 0) 170 1) 204 1) 240 1 t = tv 1 t := by decide +kernel
theorem learn_n {o : Nat} {z : CS} : ∃ e, fX4_learn o z = some e ∧ ZL z e ∧ ∀ t, t < 256 → e.2.1 16 t = nI (LT t) := by
  have HF := lp_count (body := fun u => fJ7_fill_53178_L5 o u.2 (nI 99) (nI 256) u.1) (fun i s => s.1 = nI i ∧ ZL z s.2 ∧ ∀ x, x < i → s.2.2.1 16 x = nI 99) 256 (fun e => ZL z e ∧ ∀ x, x < 256 → e.2.1 16 x = nI 99) (bigN_gt (by omega)) (fun i s hi hs => ?_) (fun s hs => ?_) (s := (nI 0, z)) ⟨rfl, ZL.rf, fun x hx => by omega⟩
  · obtain ⟨e0, a1, a2, a3⟩ := HF
    have fl : fJ7_fill_53178 o z (nI 99) = some e0 := by
      unfold fJ7_fill_53178
      exact (congrArg (fun u => u.bind fun e2 => some e2) a1).trans rfl
    have T0 : Tab e0 (fun _ => 99) := fun t ht => ⟨a3 t ht, Nat.le_refl _⟩
    obtain ⟨y1, b1, b2, b3⟩ := low_n (o := o) (t := 0) (c := 0) T0 (by omega) (by omega)
    obtain ⟨y2, c1, c2, c3⟩ := low_n (o := o) (t := 170) (c := 1) b3 (by omega) (by omega)
    obtain ⟨y3, d1, d2, d3⟩ := low_n (o := o) (t := 204) (c := 1) c3 (by omega) (by omega)
    obtain ⟨y4, e1, e2, e3⟩ := low_n (o := o) (t := 240) (c := 1) d3 (by omega) (by omega)
    have z4 : ZL z y4 := (((a2.tr b2).tr c2).tr d2).tr e2
    have T4 : Tab y4 (tv 1) := fun t ht => by rw [← tv1 t ht]; exact e3 t ht
    have HL := lp_count (body := fun u => fX4_learn_L41 o u.2 u.1) (fun i s => s.1 = nI (i + 2) ∧ ZL z s.2 ∧ Tab s.2 (tv (i + 1))) 9 (fun e => ZL z e ∧ Tab e (tv 10)) (bigN_gt (by omega)) (fun i s hi hs => ?_) (fun s hs => ?_) (s := (nI 2, y4)) ⟨rfl, z4, T4⟩
    · obtain ⟨e, f1, f2, f3⟩ := HL
      refine ⟨e, ?_, f2, fun t ht => ?_⟩
      · unfold fX4_learn
        simp (disch := omega) only [fl, b1, i_170, c1, i_204, d1, i_240, e1, f1, Option.bind_some, aI_n, aL_n, aQ_n, sA_n, sL_n, csA_n, i_0, i_1, i_2, i_3, i_4, i_5, i_6, i_7, i_8, i_9, i_10, i_11, i_12, i_13, i_16, i_20, i_21, i_22, i_31, i_99, i_100, i_256, i_1000, nI_eq, nI_leI, nI_ltI, nI_add, pk_mul, ↓reduceIte, nt_le, nf_le, nt_lt, nf_lt, nt_eq, nf_eq, meet_N', meet_P', meet_S', meet_Z', meet_B', meet_O', n_1, n_2, n_3, n_4, n_5, n_10, n_11]
      · rw [(f3 t ht).1]
        unfold tv
        rw [if_pos (ltB t ht).2.1]
    · obtain ⟨l, y⟩ := s
      obtain ⟨rfl, s1, s2⟩ := hs
      simp only at s1 s2
      obtain ⟨e, w1, w2, w3⟩ := join_n (o := o) (L := i + 2) (by omega) (by omega) s1 s2
      refine ⟨(nI (i + 2 + 1), e), ?_, rfl, w2, w3⟩
      unfold fX4_learn_L41
      simp (disch := omega) only [w1, Option.bind_some, aI_n, aL_n, aQ_n, sA_n, sL_n, csA_n, i_0, i_1, i_2, i_3, i_4, i_5, i_6, i_7, i_8, i_9, i_10, i_11, i_12, i_13, i_16, i_20, i_21, i_22, i_31, i_99, i_100, i_256, i_1000, nI_eq, nI_leI, nI_ltI, nI_add, pk_mul, ↓reduceIte, nt_le, nf_le, nt_lt, nf_lt, nt_eq, nf_eq, meet_N', meet_P', meet_S', meet_Z', meet_B', meet_O', n_1, n_2, n_3, n_4, n_5, n_10, n_11]
    · obtain ⟨l, y⟩ := s
      obtain ⟨rfl, s1, s2⟩ := hs
      refine ⟨y, ?_, s1, s2⟩
      unfold fX4_learn_L41
      simp (disch := omega) only [Option.bind_some, aI_n, aL_n, aQ_n, sA_n, sL_n, csA_n, i_0, i_1, i_2, i_3, i_4, i_5, i_6, i_7, i_8, i_9, i_10, i_11, i_12, i_13, i_16, i_20, i_21, i_22, i_31, i_99, i_100, i_256, i_1000, nI_eq, nI_leI, nI_ltI, nI_add, pk_mul, ↓reduceIte, nt_le, nf_le, nt_lt, nf_lt, nt_eq, nf_eq, meet_N', meet_P', meet_S', meet_Z', meet_B', meet_O', n_1, n_2, n_3, n_4, n_5, n_10, n_11]
  · obtain ⟨l, y⟩ := s
    obtain ⟨rfl, s1, s2⟩ := hs
    refine ⟨(nI (i + 1), cAr y 16 i (nI 99)), ?_, rfl, s1.up, fun x hx => ?_⟩
    · unfold fJ7_fill_53178_L5
      simp (disch := omega) only [Option.bind_some, aI_n, aL_n, aQ_n, sA_n, sL_n, csA_n, i_0, i_1, i_2, i_3, i_4, i_5, i_6, i_7, i_8, i_9, i_10, i_11, i_12, i_13, i_16, i_20, i_21, i_22, i_31, i_99, i_100, i_256, i_1000, nI_eq, nI_leI, nI_ltI, nI_add, pk_mul, ↓reduceIte, nt_le, nf_le, nt_lt, nf_lt, nt_eq, nf_eq, meet_N', meet_P', meet_S', meet_Z', meet_B', meet_O', n_1, n_2, n_3, n_4, n_5, n_10, n_11]
    · show (cAr y 16 i (nI 99)).2.1 16 x = _
      by_cases e : x = i
      · rw [e]; exact cAr_s
      · rw [cAr_j e]; exact s2 x (by omega)
  · obtain ⟨l, y⟩ := s
    obtain ⟨rfl, s1, s2⟩ := hs
    refine ⟨y, ?_, s1, s2⟩
    unfold fJ7_fill_53178_L5
    simp (disch := omega) only [Option.bind_some, aI_n, aL_n, aQ_n, sA_n, sL_n, csA_n, i_0, i_1, i_2, i_3, i_4, i_5, i_6, i_7, i_8, i_9, i_10, i_11, i_12, i_13, i_16, i_20, i_21, i_22, i_31, i_99, i_100, i_256, i_1000, nI_eq, nI_leI, nI_ltI, nI_add, pk_mul, ↓reduceIte, nt_le, nf_le, nt_lt, nf_lt, nt_eq, nf_eq, meet_N', meet_P', meet_S', meet_Z', meet_B', meet_O', n_1, n_2, n_3, n_4, n_5, n_10, n_11]
