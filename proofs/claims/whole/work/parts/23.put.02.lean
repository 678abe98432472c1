theorem rI_comm {r : RS} {x y : Int32} : rI (rI r 1 x) 2 y = rI (rI r 2 y) 1 x := by
  have : upd (upd r.1 1 x) 2 y = upd (upd r.1 2 y) 1 x := by
    funext j
    by_cases a : j = 1
    · subst a
      rw [pk_un (show (1 : Nat) ≠ 2 by omega), pk_us, pk_us]
    · by_cases b : j = 2
      · subst b
        rw [pk_us, pk_un (show (2 : Nat) ≠ 1 by omega), pk_us]
      · rw [pk_un b, pk_un a, pk_un a, pk_un b]
  show (upd (upd r.1 1 x) 2 y, r.2) = (upd (upd r.1 2 y) 1 x, r.2)
  rw [this]
theorem Sim_met0 {o : Nat} {z : CS} {r : RS} (h : Sim o z r) : Sim o (cI (cI z 3 (z.1 3 + nI 1)) 1 (nI 0)) (rI (rI r 1 (nI 0)) 2 ((rI r 1 (nI 0)).1 2 + nI 1)) := by
  rw [show (rI r 1 (nI 0)).1 2 = r.1 2 from rI_n (by omega), rI_comm]
  exact Sim_w0 (Sim_met h)
theorem J53_c {o : Nat} {z : CS} {l1 c : Int32} (h : ¬ c = nI 0) : fX9_put_J53 o z l1 c = some (c, cI z 1 (nI 0)) := by
  unfold fX9_put_J53
  exact if_neg h
theorem J33_c {o : Nat} {z : CS} {l1 l2 c : Int32} (h : ¬ c = nI 0) : fX9_put_J33 o z l1 l2 c = some (c, cI z 1 (nI 0)) := by
  unfold fX9_put_J33
  exact (if_neg h).trans (J53_c h)
theorem St_put_ok : St_put Sim := by
  intro o z r a1 a2 h
  obtain ⟨h1, h2, h3, h4, ⟨w, hw, w1, w2, w3⟩, -⟩ := id h
  have hs0 := Sim_w0 h
  have n2 : ¬ -nI 2 = nI 0 := by decide
  have n10 : ¬ -nI 10 = nI 0 := by decide
  have n4 : ¬ -nI 4 = nI 0 := by decide
  have n5 : ¬ -nI 5 = nI 0 := by decide
  unfold fX9_put fX9_put_J17 fX10_put fX10_put_J24
  rcases ix a1 (n := 8) (by omega) with hx | ⟨p, hp, rfl⟩
  · refine ⟨(-nI 2, cI z 1 (nI 0)), (-nI 2, rI r 1 (nI 0)), ?_, ?_, rfl, hs0⟩
    · simp (disch := omega) only [isPl9_out hx, J33_c n2, Option.bind_some, aI_n, aL_n, aQ_n, sA_n, sL_n, csA_n, i_0, i_1, i_2, i_3, i_4, i_5, i_6, i_7, i_8, i_9, i_10, i_11, i_12, i_13, i_16, i_20, i_21, i_22, i_31, i_99, i_100, i_256, i_1000, nI_eq, nI_leI, nI_ltI, nI_add, pk_mul, ↓reduceIte, nt_le, nf_le, nt_lt, nf_lt, nt_eq, nf_eq, meet_N', meet_P', meet_S', meet_Z', meet_B', meet_O', n_1, n_2, n_3, n_4, n_5, n_10, n_11]
    · simp (disch := omega) only [isPl10_out hx, Option.bind_some, aI_n, aL_n, aQ_n, sA_n, sL_n, csA_n, i_0, i_1, i_2, i_3, i_4, i_5, i_6, i_7, i_8, i_9, i_10, i_11, i_12, i_13, i_16, i_20, i_21, i_22, i_31, i_99, i_100, i_256, i_1000, nI_eq, nI_leI, nI_ltI, nI_add, pk_mul, ↓reduceIte, nt_le, nf_le, nt_lt, nf_lt, nt_eq, nf_eq, meet_N', meet_P', meet_S', meet_Z', meet_B', meet_O', n_1, n_2, n_3, n_4, n_5, n_10, n_11]
  rcases plc h3 a2 with hx | ⟨k, hk, rfl, e, e'⟩ | ⟨k, q, n, kd, wt, g, b, hk, rfl, e, t1, t2, n1, n8, hg, d1, d2, d3, p2, p1⟩
  · refine ⟨(-nI 2, cI z 1 (nI 0)), (-nI 2, rI r 1 (nI 0)), ?_, ?_, rfl, hs0⟩
    · simp (disch := omega) only [isPl9_in hp, find9_out hx, J33_c n2, Option.bind_some, aI_n, aL_n, aQ_n, sA_n, sL_n, csA_n, i_0, i_1, i_2, i_3, i_4, i_5, i_6, i_7, i_8, i_9, i_10, i_11, i_12, i_13, i_16, i_20, i_21, i_22, i_31, i_99, i_100, i_256, i_1000, nI_eq, nI_leI, nI_ltI, nI_add, pk_mul, ↓reduceIte, nt_le, nf_le, nt_lt, nf_lt, nt_eq, nf_eq, meet_N', meet_P', meet_S', meet_Z', meet_B', meet_O', n_1, n_2, n_3, n_4, n_5, n_10, n_11]
    · simp (disch := omega) only [isPl10_in hp, isPl10_out hx, Option.bind_some, aI_n, aL_n, aQ_n, sA_n, sL_n, csA_n, i_0, i_1, i_2, i_3, i_4, i_5, i_6, i_7, i_8, i_9, i_10, i_11, i_12, i_13, i_16, i_20, i_21, i_22, i_31, i_99, i_100, i_256, i_1000, nI_eq, nI_leI, nI_ltI, nI_add, pk_mul, ↓reduceIte, nt_le, nf_le, nt_lt, nf_lt, nt_eq, nf_eq, meet_N', meet_P', meet_S', meet_Z', meet_B', meet_O', n_1, n_2, n_3, n_4, n_5, n_10, n_11]
  · refine ⟨(-nI 10, _), (-nI 10, _), ?_, ?_, rfl, Sim_met0 h⟩
    · simp (disch := omega) only [isPl9_in hp, find9_no hk e, J33_c n10, Option.bind_some, aI_n, aL_n, aQ_n, sA_n, sL_n, csA_n, i_0, i_1, i_2, i_3, i_4, i_5, i_6, i_7, i_8, i_9, i_10, i_11, i_12, i_13, i_16, i_20, i_21, i_22, i_31, i_99, i_100, i_256, i_1000, nI_eq, nI_leI, nI_ltI, nI_add, pk_mul, ↓reduceIte, nt_le, nf_le, nt_lt, nf_lt, nt_eq, nf_eq, meet_N', meet_P', meet_S', meet_Z', meet_B', meet_O', n_1, n_2, n_3, n_4, n_5, n_10, n_11] <;> rfl
    · have e0 : (rI r 1 (nI 0)).2.1 0 k = nI 0 := e'
      simp (disch := omega) only [isPl10_in hp, isPl10_in hk, e0, Option.bind_some, aI_n, aL_n, aQ_n, sA_n, sL_n, csA_n, i_0, i_1, i_2, i_3, i_4, i_5, i_6, i_7, i_8, i_9, i_10, i_11, i_12, i_13, i_16, i_20, i_21, i_22, i_31, i_99, i_100, i_256, i_1000, nI_eq, nI_leI, nI_ltI, nI_add, pk_mul, ↓reduceIte, nt_le, nf_le, nt_lt, nf_lt, nt_eq, nf_eq, meet_N', meet_P', meet_S', meet_Z', meet_B', meet_O', n_1, n_2, n_3, n_4, n_5, n_10, n_11] <;> rfl
  · have hk16 : k < 16 := by omega
    have t2' : TkR (rI r 1 (nI 0)) k n kd wt g := t2
    have c9 : fX9_put o z (nI p) (nI k) = (fX9_findingOfInner o z q).bind fun q12 => fX9_put_J33 o q12.2 (nI p) (nI k) q12.1 := by
      unfold fX9_put fX9_put_J17
      simp (disch := omega) only [isPl9_in hp, find9_yes hk e, e, Option.bind_some, aI_n, aL_n, aQ_n, sA_n, sL_n, csA_n, i_0, i_1, i_2, i_3, i_4, i_5, i_6, i_7, i_8, i_9, i_10, i_11, i_12, i_13, i_16, i_20, i_21, i_22, i_31, i_99, i_100, i_256, i_1000, nI_eq, nI_leI, nI_ltI, nI_add, pk_mul, ↓reduceIte, nt_le, nf_le, nt_lt, nf_lt, nt_eq, nf_eq, meet_N', meet_P', meet_S', meet_Z', meet_B', meet_O', n_1, n_2, n_3, n_4, n_5, n_10, n_11]
    have hv0 : ∀ k, k < w → z.2.1 0 k = (rI r 1 (nI 0)).2.1 7 k := w3
    by_cases hnw : w = n
    · subst hnw
      have c10 : fX10_put r (nI p) (nI k) = fX10_put_J58 (rI r 1 (nI 0)) (nI p) (nI k) (nI w) (nI 1) := by
        unfold fX10_put
        simp (disch := omega) only [isPl10_in hp, isPl10_in hk, t2'.1, w2, Option.bind_some, aI_n, aL_n, aQ_n, sA_n, sL_n, csA_n, i_0, i_1, i_2, i_3, i_4, i_5, i_6, i_7, i_8, i_9, i_10, i_11, i_12, i_13, i_16, i_20, i_21, i_22, i_31, i_99, i_100, i_256, i_1000, nI_eq, nI_leI, nI_ltI, nI_add, pk_mul, ↓reduceIte, nt_le, nf_le, nt_lt, nf_lt, nt_eq, nf_eq, meet_N', meet_P', meet_S', meet_Z', meet_B', meet_O', n_1, n_2, n_3, n_4, n_5, n_10, n_11]
      obtain ⟨v, v1, v2, v3⟩ := put63 (r := rI r 1 (nI 0)) (l1 := nI p) (l2 := nI k) hw hv0 1 (by omega)
      rcases inner16 (o := o) (l1 := q) hw w1 with ⟨i1, i2⟩ | ⟨i1, i2⟩
      · have v1' : v = 1 := v3.mpr ⟨rfl, i2⟩
        subst v1'
        have opn := opens_n hk16 t2' n8 hg
        have cl := cnt_le g 2 (2 ^ w)
        obtain ⟨t0, ht0, et0, e90, e100⟩ : ∃ t0, t0 ≤ 1 ∧ (t0 = 1 → cnt g 2 (2 ^ w) = 0) ∧ fX8_isTold o z q = some (nI t0) ∧ fX10_put_J58 (rI r 1 (nI 0)) (nI p) (nI k) (nI w) (nI 1) = fX10_put_J111 (rI r 1 (nI 0)) (nI p) (nI k) (nI w) (nI (1 - t0)) := by
          by_cases ct : cnt g 2 (2 ^ w) = 0
          · refine ⟨1, by omega, fun _ => ct, isTold_y t1 (told_cnt.mpr ct), ?_⟩
            unfold fX10_put_J58
            simp (disch := omega) only [v2, opn, ct, Option.bind_some, aI_n, aL_n, aQ_n, sA_n, sL_n, csA_n, i_0, i_1, i_2, i_3, i_4, i_5, i_6, i_7, i_8, i_9, i_10, i_11, i_12, i_13, i_16, i_20, i_21, i_22, i_31, i_99, i_100, i_256, i_1000, nI_eq, nI_leI, nI_ltI, nI_add, pk_mul, ↓reduceIte, nt_le, nf_le, nt_lt, nf_lt, nt_eq, nf_eq, meet_N', meet_P', meet_S', meet_Z', meet_B', meet_O', n_1, n_2, n_3, n_4, n_5, n_10, n_11]
          · refine ⟨0, by omega, fun w => by omega, isTold_n t1 (fun w => ct (told_cnt.mp w)), ?_⟩
            unfold fX10_put_J58
            simp (disch := omega) only [v2, opn, Option.bind_some, aI_n, aL_n, aQ_n, sA_n, sL_n, csA_n, i_0, i_1, i_2, i_3, i_4, i_5, i_6, i_7, i_8, i_9, i_10, i_11, i_12, i_13, i_16, i_20, i_21, i_22, i_31, i_99, i_100, i_256, i_1000, nI_eq, nI_leI, nI_ltI, nI_add, pk_mul, ↓reduceIte, nt_le, nf_le, nt_lt, nf_lt, nt_eq, nf_eq, meet_N', meet_P', meet_S', meet_Z', meet_B', meet_O', n_1, n_2, n_3, n_4, n_5, n_10, n_11]
        obtain ⟨e1, e2, b1, b2, b3⟩ := put122 (o := o) (r := rI r 1 (nI 0)) (l1 := nI p) (l2 := nI k) (ad := q) hw w1 h3 hv0 i2 t0 ht0
        have f9 : fX9_findingOfInner o z q = sel e1 (fun x16 => if x16.2.1 = nI 0 then some (-nI 4, x16.2.2) else if x16.1 ≤ nI 8 then some (nI 0, x16.2.2) else some (-nI 5, x16.2.2)) (fun rt => some rt) := by
          unfold fX9_findingOfInner
          simp (disch := omega) only [d1, w1, i1, sel, e90, b1, Option.bind_some, aI_n, aL_n, aQ_n, sA_n, sL_n, csA_n, i_0, i_1, i_2, i_3, i_4, i_5, i_6, i_7, i_8, i_9, i_10, i_11, i_12, i_13, i_16, i_20, i_21, i_22, i_31, i_99, i_100, i_256, i_1000, nI_eq, nI_leI, nI_ltI, nI_add, pk_mul, ↓reduceIte, nt_le, nf_le, nt_lt, nf_lt, nt_eq, nf_eq, meet_N', meet_P', meet_S', meet_Z', meet_B', meet_O', n_1, n_2, n_3, n_4, n_5, n_10, n_11]
        have f10 : fX10_put_J111 (rI r 1 (nI 0)) (nI p) (nI k) (nI w) (nI (1 - t0)) = sel e2 (fun x19 => if x19.1 = nI 0 then if x19.2.1 ≤ nI 8 then (lpN (fun u => fX10_put_L234 u.2 (nI p) (nI k) (nI w) x19.2.1 x19.2.2.1 u.1) bigN (nI 0, x19.2.2.2)).bind fun e27 => (fX10_lay e27 (nI p) x19.2.1 (nI 3) x19.2.2.1).bind fun q28 => some (x19.2.1, q28) else some (-nI 5, x19.2.2.2) else some (-nI 4, x19.2.2.2)) (fun rt => some rt) := by
          unfold fX10_put_J111
          simp (disch := omega) only [b2, Option.bind_some, aI_n, aL_n, aQ_n, sA_n, sL_n, csA_n, i_0, i_1, i_2, i_3, i_4, i_5, i_6, i_7, i_8, i_9, i_10, i_11, i_12, i_13, i_16, i_20, i_21, i_22, i_31, i_99, i_100, i_256, i_1000, nI_eq, nI_leI, nI_ltI, nI_add, pk_mul, ↓reduceIte, nt_le, nf_le, nt_lt, nf_lt, nt_eq, nf_eq, meet_N', meet_P', meet_S', meet_Z', meet_B', meet_O', n_1, n_2, n_3, n_4, n_5, n_10, n_11]
        rcases b3 with ⟨rfl, rfl⟩ | ⟨S, t, W, rfl, rfl, ht, hS1, hS2, hL, hT⟩
        · refine ⟨(-nI 10, _), (-nI 10, _), c9.trans ?_, c10.trans (e100.trans f10), rfl, Sim_met0 h⟩
          rw [f9]
          exact J33_c n10
        · by_cases c0 : t = 0
          · subst c0
            refine ⟨(-nI 4, cI z 1 (nI 0)), (-nI 4, rI r 1 (nI 0)), c9.trans ?_, c10.trans (e100.trans (f10.trans ?_)), rfl, hs0⟩
            · rw [f9]
              exact J33_c n4
            · simp (disch := omega) only [sel, Option.bind_some, aI_n, aL_n, aQ_n, sA_n, sL_n, csA_n, i_0, i_1, i_2, i_3, i_4, i_5, i_6, i_7, i_8, i_9, i_10, i_11, i_12, i_13, i_16, i_20, i_21, i_22, i_31, i_99, i_100, i_256, i_1000, nI_eq, nI_leI, nI_ltI, nI_add, pk_mul, ↓reduceIte, nt_le, nf_le, nt_lt, nf_lt, nt_eq, nf_eq, meet_N', meet_P', meet_S', meet_Z', meet_B', meet_O', n_1, n_2, n_3, n_4, n_5, n_10, n_11]
          · have c1 : t = 1 := by omega
            subst c1
            obtain ⟨tt, hin⟩ := hT rfl
            by_cases c8 : S ≤ 8
            · obtain ⟨z', r', x1, x2, x3⟩ := put_new (o := o) (p := p) (S := S) (W := W) h hp hk t1 t2 d1 n8 hg (by omega) c8 ⟨w1, hin⟩ hL
              refine ⟨(nI S, z'), (nI S, r'), c9.trans ?_, c10.trans (e100.trans (f10.trans ?_)), rfl, x3⟩
              · rw [f9]
                have e3 : sel (Sum.inl (nI S, nI 1, z) : (Int32 × Int32 × CS) ⊕ (Int32 × CS)) (fun x16 => if x16.2.1 = nI 0 then some (-nI 4, x16.2.2) else if x16.1 ≤ nI 8 then some (nI 0, x16.2.2) else some (-nI 5, x16.2.2)) (fun rt => some rt) = some (nI 0, z) := by
                  simp (disch := omega) only [sel, Option.bind_some, aI_n, aL_n, aQ_n, sA_n, sL_n, csA_n, i_0, i_1, i_2, i_3, i_4, i_5, i_6, i_7, i_8, i_9, i_10, i_11, i_12, i_13, i_16, i_20, i_21, i_22, i_31, i_99, i_100, i_256, i_1000, nI_eq, nI_leI, nI_ltI, nI_add, pk_mul, ↓reduceIte, nt_le, nf_le, nt_lt, nf_lt, nt_eq, nf_eq, meet_N', meet_P', meet_S', meet_Z', meet_B', meet_O', n_1, n_2, n_3, n_4, n_5, n_10, n_11]
                rw [e3, Option.bind_some]
                unfold fX9_put_J33
                simp (disch := omega) only [e, Option.bind_some, aI_n, aL_n, aQ_n, sA_n, sL_n, csA_n, i_0, i_1, i_2, i_3, i_4, i_5, i_6, i_7, i_8, i_9, i_10, i_11, i_12, i_13, i_16, i_20, i_21, i_22, i_31, i_99, i_100, i_256, i_1000, nI_eq, nI_leI, nI_ltI, nI_add, pk_mul, ↓reduceIte, nt_le, nf_le, nt_lt, nf_lt, nt_eq, nf_eq, meet_N', meet_P', meet_S', meet_Z', meet_B', meet_O', n_1, n_2, n_3, n_4, n_5, n_10, n_11]
                exact x1
              · simp (disch := omega) only [sel, Option.bind_some, aI_n, aL_n, aQ_n, sA_n, sL_n, csA_n, i_0, i_1, i_2, i_3, i_4, i_5, i_6, i_7, i_8, i_9, i_10, i_11, i_12, i_13, i_16, i_20, i_21, i_22, i_31, i_99, i_100, i_256, i_1000, nI_eq, nI_leI, nI_ltI, nI_add, pk_mul, ↓reduceIte, nt_le, nf_le, nt_lt, nf_lt, nt_eq, nf_eq, meet_N', meet_P', meet_S', meet_Z', meet_B', meet_O', n_1, n_2, n_3, n_4, n_5, n_10, n_11]
                exact x2
            · refine ⟨(-nI 5, cI z 1 (nI 0)), (-nI 5, rI r 1 (nI 0)), c9.trans ?_, c10.trans (e100.trans (f10.trans ?_)), rfl, hs0⟩
              · rw [f9]
                have e3 : sel (Sum.inl (nI S, nI 1, z) : (Int32 × Int32 × CS) ⊕ (Int32 × CS)) (fun x16 => if x16.2.1 = nI 0 then some (-nI 4, x16.2.2) else if x16.1 ≤ nI 8 then some (nI 0, x16.2.2) else some (-nI 5, x16.2.2)) (fun rt => some rt) = some (-nI 5, z) := by
                  simp (disch := omega) only [sel, Option.bind_some, aI_n, aL_n, aQ_n, sA_n, sL_n, csA_n, i_0, i_1, i_2, i_3, i_4, i_5, i_6, i_7, i_8, i_9, i_10, i_11, i_12, i_13, i_16, i_20, i_21, i_22, i_31, i_99, i_100, i_256, i_1000, nI_eq, nI_leI, nI_ltI, nI_add, pk_mul, ↓reduceIte, nt_le, nf_le, nt_lt, nf_lt, nt_eq, nf_eq, meet_N', meet_P', meet_S', meet_Z', meet_B', meet_O', n_1, n_2, n_3, n_4, n_5, n_10, n_11]
                rw [e3]
                exact J33_c n5
              · simp (disch := omega) only [sel, Option.bind_some, aI_n, aL_n, aQ_n, sA_n, sL_n, csA_n, i_0, i_1, i_2, i_3, i_4, i_5, i_6, i_7, i_8, i_9, i_10, i_11, i_12, i_13, i_16, i_20, i_21, i_22, i_31, i_99, i_100, i_256, i_1000, nI_eq, nI_leI, nI_ltI, nI_add, pk_mul, ↓reduceIte, nt_le, nf_le, nt_lt, nf_lt, nt_eq, nf_eq, meet_N', meet_P', meet_S', meet_Z', meet_B', meet_O', n_1, n_2, n_3, n_4, n_5, n_10, n_11]
      · have v0 : v = 0 := by
          have : ¬ v = 1 := fun q => i2 (v3.mp q).2
          omega
        subst v0
        refine ⟨(-nI 2, cI z 1 (nI 0)), (-nI 2, rI r 1 (nI 0)), c9.trans ?_, c10.trans ?_, rfl, hs0⟩
        · have f9 : fX9_findingOfInner o z q = some (-nI 2, z) := by
            unfold fX9_findingOfInner
            simp (disch := omega) only [d1, w1, i1, sel, Option.bind_some, aI_n, aL_n, aQ_n, sA_n, sL_n, csA_n, i_0, i_1, i_2, i_3, i_4, i_5, i_6, i_7, i_8, i_9, i_10, i_11, i_12, i_13, i_16, i_20, i_21, i_22, i_31, i_99, i_100, i_256, i_1000, nI_eq, nI_leI, nI_ltI, nI_add, pk_mul, ↓reduceIte, nt_le, nf_le, nt_lt, nf_lt, nt_eq, nf_eq, meet_N', meet_P', meet_S', meet_Z', meet_B', meet_O', n_1, n_2, n_3, n_4, n_5, n_10, n_11]
          rw [f9]
          exact J33_c n2
        · unfold fX10_put_J58
          simp (disch := omega) only [v2, Option.bind_some, aI_n, aL_n, aQ_n, sA_n, sL_n, csA_n, i_0, i_1, i_2, i_3, i_4, i_5, i_6, i_7, i_8, i_9, i_10, i_11, i_12, i_13, i_16, i_20, i_21, i_22, i_31, i_99, i_100, i_256, i_1000, nI_eq, nI_leI, nI_ltI, nI_add, pk_mul, ↓reduceIte, nt_le, nf_le, nt_lt, nf_lt, nt_eq, nf_eq, meet_N', meet_P', meet_S', meet_Z', meet_B', meet_O', n_1, n_2, n_3, n_4, n_5, n_10, n_11]
    · obtain ⟨v, v1, v2, v3⟩ := put63 (r := rI r 1 (nI 0)) (l1 := nI p) (l2 := nI k) hw hv0 0 (by omega)
      have v0 : v = 0 := by
        have : ¬ v = 1 := fun q => by have := (v3.mp q).1; omega
        omega
      subst v0
      refine ⟨(-nI 2, cI z 1 (nI 0)), (-nI 2, rI r 1 (nI 0)), c9.trans ?_, ?_, rfl, hs0⟩
      · have f9 : fX9_findingOfInner o z q = some (-nI 2, z) := by
          unfold fX9_findingOfInner
          simp (disch := omega) only [d1, w1, Option.bind_some, aI_n, aL_n, aQ_n, sA_n, sL_n, csA_n, i_0, i_1, i_2, i_3, i_4, i_5, i_6, i_7, i_8, i_9, i_10, i_11, i_12, i_13, i_16, i_20, i_21, i_22, i_31, i_99, i_100, i_256, i_1000, nI_eq, nI_leI, nI_ltI, nI_add, pk_mul, ↓reduceIte, nt_le, nf_le, nt_lt, nf_lt, nt_eq, nf_eq, meet_N', meet_P', meet_S', meet_Z', meet_B', meet_O', n_1, n_2, n_3, n_4, n_5, n_10, n_11]
        rw [f9]
        exact J33_c n2
      · unfold fX10_put_J58
        simp (disch := omega) only [isPl10_in hp, isPl10_in hk, t2'.1, w2, v2, Option.bind_some, aI_n, aL_n, aQ_n, sA_n, sL_n, csA_n, i_0, i_1, i_2, i_3, i_4, i_5, i_6, i_7, i_8, i_9, i_10, i_11, i_12, i_13, i_16, i_20, i_21, i_22, i_31, i_99, i_100, i_256, i_1000, nI_eq, nI_leI, nI_ltI, nI_add, pk_mul, ↓reduceIte, nt_le, nf_le, nt_lt, nf_lt, nt_eq, nf_eq, meet_N', meet_P', meet_S', meet_Z', meet_B', meet_O', n_1, n_2, n_3, n_4, n_5, n_10, n_11]
