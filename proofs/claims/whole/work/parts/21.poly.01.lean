/-! ===== poly, degree, sign, energy, pull: the class ===== -/
/-- the class's row 12 alone has changed -/
def ZR (z z' : CS) : Prop := z'.1 = z.1 ∧ (∀ k, k ≠ 12 → z'.2.1 k = z.2.1 k) ∧ z'.2.2 = z.2.2
theorem ZR.rf {z : CS} : ZR z z := ⟨rfl, fun _ _ => rfl, rfl⟩
theorem ZR.up {z z' : CS} {i : Nat} {x : Int32} (h : ZR z z') : ZR z (cAr z' 12 i x) := ⟨h.1, fun k hk => by rw [cAr_n hk]; exact h.2.1 k hk, h.2.2⟩
theorem ZR_T {z z' : CS} {q : Nat} {t : Int32 × Int32 × Int32 × Option Nat} (h : ZR z z') (d : dT z q = some t) : dT z' q = some t := by
  have : dT z' q = dT z q := by unfold dT cpl; rw [h.2.2]
  rw [this]; exact d
theorem ZR_B {z z' : CS} {q : Nat} {t : Nat × (Nat → Int32)} (h : ZR z z') (d : dB z q = some t) : dB z' q = some t := by
  have : dB z' q = dB z q := by unfold dB cpl; rw [h.2.2]
  rw [this]; exact d
theorem Sim_zr {o : Nat} {z z' : CS} {r : RS} (h : Sim o z r) (hz : ZR z z') : Sim o z' r := by
  obtain ⟨h1, h2, h3, h4, -⟩ := id h
  have hp : z'.2.2.2.2 = z.2.2.2.2 := by rw [hz.2.2]
  have ge : TkGe z z' := TkGe_id (by rw [hp])
  refine Sim_g h (fun k _ _ _ => by rw [hz.1]) (fun k hk => hz.2.1 k (by omega)) (by rw [hz.2.2]) ge (fun _ _ => rfl) (fun _ _ => rfl) ?_ (ShR_ge h2 (pool_ge hp) (ShR_okd h2) (by rw [hz.2.2]) ⟨rfl, rfl, rfl⟩) (PlR_all h3 ge (fun j _ => by rw [hz.2.2]) (fun p _ => RSame.rf)) (PlR_all h4 ge (fun j _ => by rw [hz.2.2]) (fun p _ => RSame.rf))
  unfold PoolOK cpl cn at h1 ⊢
  rw [hp]; exact h1
theorem xor_c : ∀ m, m < 256 → ∀ i, i < 8 → (bt m i = 1 → m ^^^ 2 ^ i = m - 2 ^ i ∧ 2 ^ i ≤ m ∧ bt (m - 2 ^ i) i = 0) ∧ (bt m i = 0 → m ^^^ 2 ^ i = m + 2 ^ i ∧ bt (m + 2 ^ i) i = 1) := by decide +kernel
theorem AAp_0 {f : Nat → Int32} {i x : Nat} (h : bt x i = 0) : AA Kp f (i + 1) x = AA Kp f i x := by
  show Kp (bt x i) 0 * AA Kp f i (x - bt x i * 2 ^ i) + Kp (bt x i) 1 * AA Kp f i (x - bt x i * 2 ^ i + 2 ^ i) = _
  rw [h, Nat.zero_mul, Nat.sub_zero, show Kp 0 0 = 1 from rfl, show Kp 0 1 = 0 from rfl, Int32.one_mul, Int32.zero_mul, Int32.add_zero]
theorem AAp_1 {f : Nat → Int32} {i x : Nat} (h : bt x i = 1) (hx : 2 ^ i ≤ x) : AA Kp f (i + 1) x = AA Kp f i x - AA Kp f i (x - 2 ^ i) := by
  show Kp (bt x i) 0 * AA Kp f i (x - bt x i * 2 ^ i) + Kp (bt x i) 1 * AA Kp f i (x - bt x i * 2 ^ i + 2 ^ i) = _
  rw [h, Nat.one_mul, Nat.sub_add_cancel hx, show Kp 1 0 = -1 from rfl, show Kp 1 1 = 1 from rfl, Int32.one_mul, Int32.neg_mul, Int32.one_mul, Int32.add_comm, Int32.sub_eq_add_neg]
theorem AAs_0 {f : Nat → Int32} {i x : Nat} (h : bt x i = 0) : AA Ks f (i + 1) x = AA Ks f i x + AA Ks f i (x + 2 ^ i) := by
  show Ks (bt x i) 0 * AA Ks f i (x - bt x i * 2 ^ i) + Ks (bt x i) 1 * AA Ks f i (x - bt x i * 2 ^ i + 2 ^ i) = _
  rw [h, Nat.zero_mul, Nat.sub_zero, show Ks 0 0 = 1 from rfl, show Ks 0 1 = 1 from rfl, Int32.one_mul, Int32.one_mul]
theorem AAs_1 {f : Nat → Int32} {i x : Nat} (h : bt x i = 1) (hx : 2 ^ i ≤ x) : AA Ks f (i + 1) x = AA Ks f i (x - 2 ^ i) - AA Ks f i x := by
  show Ks (bt x i) 0 * AA Ks f i (x - bt x i * 2 ^ i) + Ks (bt x i) 1 * AA Ks f i (x - bt x i * 2 ^ i + 2 ^ i) = _
  rw [h, Nat.one_mul, Nat.sub_add_cancel hx, show Ks 1 0 = 1 from rfl, show Ks 1 1 = -1 from rfl, Int32.one_mul, Int32.neg_mul, Int32.one_mul, Int32.sub_eq_add_neg]
theorem bitB {x k : Nat} (hx : x < 2 ^ 31) (hk : k < 32) : (nI x >>> (nI k &&& nI 31)) &&& nI 1 = nI (bt x k) := bitN hx hk
/-- the row is loaded -/
theorem load2_n {body : Int32 × CS → Option ((Int32 × CS) ⊕ CS)} {z : CS} {N : Nat} {f : Nat → Int32} (hN : N ≤ 256) (step : ∀ i y, i < N → ZR z y → body (nI i, y) = some (.inl (nI (i + 1), cAr y 12 i (f i)))) (last : ∀ y, ZR z y → body (nI N, y) = some (.inr y)) : ∃ e, lpN body bigN (nI 0, z) = some e ∧ (ZR z e ∧ ∀ x, x < N → e.2.1 12 x = f x) := by
  refine lp_count (fun i s => s.1 = nI i ∧ ZR z s.2 ∧ ∀ x, x < i → s.2.2.1 12 x = f x) N _ (bigN_gt (by omega)) (fun i s hi hs => ?_) (fun s hs => ?_) ⟨rfl, ZR.rf, fun x hx => by omega⟩
  · obtain ⟨l, y⟩ := s
    obtain ⟨rfl, s1, s2⟩ := hs
    refine ⟨_, step i y hi s1, rfl, s1.up, fun x hx => ?_⟩
    show (cAr y 12 i (f i)).2.1 12 x = f x
    by_cases e : x = i
    · rw [e]; exact cAr_s
    · rw [cAr_j e]; exact s2 x (by omega)
  · obtain ⟨l, y⟩ := s
    obtain ⟨rfl, s1, s2⟩ := hs
    exact ⟨y, last y s1, s1, s2⟩
theorem loadP_n {o : Nat} {z : CS} {q n b : Nat} {kd wt : Int32} {g : Nat → Nat} {f : Nat → Int32} (n8 : n ≤ 8) (d1 : dT z q = some (kd, nI n, wt, some b)) (u2 : dB z b = some (2 ^ n, f)) (u3 : ∀ x, f x = nI (g x)) : ∃ e, fX6_loadPoly o z q = some e ∧ ZR z e ∧ ∀ x, x < 2 ^ n → e.2.1 12 x = AA Kp (fun x => nI (g x)) n x := by
  have p2 := p2le n8
  obtain ⟨e1, a1, a2, a3⟩ := load2_n (body := fun u => fX6_loadPoly_L2 o u.2 q u.1) (z := z) (N := 2 ^ n) (f := fun x => nI (g x)) p2 (fun i y hi hy => by
    have y1 := ZR_T hy d1
    obtain ⟨y2, y3⟩ := rd_f (ZR_B hy u2) u3 n8
    unfold fX6_loadPoly_L2
    simp (disch := omega) only [y1, y2, y3 i hi, Option.bind_some, aI_n, aL_n, aQ_n, sA_n, sL_n, csA_n, i_0, i_1, i_2, i_3, i_4, i_5, i_6, i_7, i_8, i_9, i_10, i_11, i_12, i_13, i_16, i_20, i_21, i_22, i_31, i_99, i_100, i_256, i_1000, nI_eq, nI_leI, nI_ltI, nI_add, pk_mul, ↓reduceIte, nt_le, nf_le, nt_lt, nf_lt, nt_eq, nf_eq, meet_N', meet_P', meet_S', meet_Z', meet_B', meet_O', n_1, n_2, n_3, n_4, n_5, n_10, n_11]) (fun y hy => by
    have y1 := ZR_T hy d1
    obtain ⟨y2, y3⟩ := rd_f (ZR_B hy u2) u3 n8
    unfold fX6_loadPoly_L2
    simp (disch := omega) only [y1, y2, Option.bind_some, aI_n, aL_n, aQ_n, sA_n, sL_n, csA_n, i_0, i_1, i_2, i_3, i_4, i_5, i_6, i_7, i_8, i_9, i_10, i_11, i_12, i_13, i_16, i_20, i_21, i_22, i_31, i_99, i_100, i_256, i_1000, nI_eq, nI_leI, nI_ltI, nI_add, pk_mul, ↓reduceIte, nt_le, nf_le, nt_lt, nf_lt, nt_eq, nf_eq, meet_N', meet_P', meet_S', meet_Z', meet_B', meet_O', n_1, n_2, n_3, n_4, n_5, n_10, n_11])
  have pass : ∀ i y, i < n → ZR z y → (∀ x, x < 2 ^ n → y.2.1 12 x = AA Kp (fun x => nI (g x)) i x) → ∃ e, lpN (fun u => fX6_loadPoly_L41 o u.2 q (nI i) u.1) bigN (nI 0, y) = some e ∧ (ZR z e ∧ ∀ x, x < 2 ^ n → e.2.1 12 x = AA Kp (fun x => nI (g x)) (i + 1) x) := by
    intro i y hi hy hrow
    refine lp_count (fun m s => s.1 = nI m ∧ ZR z s.2 ∧ ∀ x, x < 2 ^ n → s.2.2.1 12 x = if x < m then AA Kp (fun x => nI (g x)) (i + 1) x else AA Kp (fun x => nI (g x)) i x) (2 ^ n) _ (bigN_gt (by omega)) (fun m s hm hs => ?_) (fun s hs => ?_) ⟨rfl, hy, fun x hx => by rw [if_neg (by omega)]; exact hrow x hx⟩
    · obtain ⟨l, y'⟩ := s
      obtain ⟨rfl, s1, s2⟩ := hs
      simp only at s1 s2
      have y1 := ZR_T s1 d1
      obtain ⟨y2, y3⟩ := rd_f (ZR_B s1 u2) u3 n8
      have bl := bt_lt m i
      have xc := xor_c m (by omega) i (by omega)
      by_cases hb : bt m i = 1
      · obtain ⟨x1, x2, x3⟩ := xc.1 hb
        have hp := p2pos (n := i)
        have r1 := s2 m hm
        have r2 := s2 (m - 2 ^ i) (by omega)
        rw [if_neg (by omega)] at r1
        rw [if_pos (by omega), AAp_0 x3] at r2
        refine ⟨(nI (m + 1), cAr y' 12 m (AA Kp (fun x => nI (g x)) (i + 1) m)), ?_, rfl, s1.up, fun x hx => ?_⟩
        · rw [AAp_1 hb x2]
          unfold fX6_loadPoly_L41 fX6_loadPoly_L41_J78
          simp (disch := omega) only [y1, y2, bitB (show m < 2 ^ 31 by omega) (show i < 32 by omega), hb, shl1' i (by omega), nI_xor, x1, r1, r2, Option.bind_some, aI_n, aL_n, aQ_n, sA_n, sL_n, csA_n, i_0, i_1, i_2, i_3, i_4, i_5, i_6, i_7, i_8, i_9, i_10, i_11, i_12, i_13, i_16, i_20, i_21, i_22, i_31, i_99, i_100, i_256, i_1000, nI_eq, nI_leI, nI_ltI, nI_add, pk_mul, ↓reduceIte, nt_le, nf_le, nt_lt, nf_lt, nt_eq, nf_eq, meet_N', meet_P', meet_S', meet_Z', meet_B', meet_O', n_1, n_2, n_3, n_4, n_5, n_10, n_11]
        · show (cAr y' 12 m _).2.1 12 x = _
          by_cases e : x = m
          · rw [e, cAr_s, if_pos (by omega)]
          · rw [cAr_j e, s2 x hx]
            by_cases c : x < m
            · rw [if_pos c, if_pos (by omega)]
            · rw [if_neg c, if_neg (by omega)]
      · refine ⟨(nI (m + 1), y'), ?_, rfl, s1, fun x hx => ?_⟩
        · unfold fX6_loadPoly_L41 fX6_loadPoly_L41_J78
          simp (disch := omega) only [y1, y2, bitB (show m < 2 ^ 31 by omega) (show i < 32 by omega), Option.bind_some, aI_n, aL_n, aQ_n, sA_n, sL_n, csA_n, i_0, i_1, i_2, i_3, i_4, i_5, i_6, i_7, i_8, i_9, i_10, i_11, i_12, i_13, i_16, i_20, i_21, i_22, i_31, i_99, i_100, i_256, i_1000, nI_eq, nI_leI, nI_ltI, nI_add, pk_mul, ↓reduceIte, nt_le, nf_le, nt_lt, nf_lt, nt_eq, nf_eq, meet_N', meet_P', meet_S', meet_Z', meet_B', meet_O', n_1, n_2, n_3, n_4, n_5, n_10, n_11]
        · show y'.2.1 12 x = _
          rw [s2 x hx]
          by_cases e : x = m
          · subst e
            rw [if_neg (by omega), if_pos (by omega), AAp_0 (by omega)]
          · by_cases c : x < m
            · rw [if_pos c, if_pos (by omega)]
            · rw [if_neg c, if_neg (by omega)]
    · obtain ⟨l, y'⟩ := s
      obtain ⟨rfl, s1, s2⟩ := hs
      simp only at s1 s2
      have y1 := ZR_T s1 d1
      obtain ⟨y2, y3⟩ := rd_f (ZR_B s1 u2) u3 n8
      refine ⟨y', ?_, s1, fun x hx => by rw [s2 x hx, if_pos hx]⟩
      unfold fX6_loadPoly_L41
      simp (disch := omega) only [y1, y2, Option.bind_some, aI_n, aL_n, aQ_n, sA_n, sL_n, csA_n, i_0, i_1, i_2, i_3, i_4, i_5, i_6, i_7, i_8, i_9, i_10, i_11, i_12, i_13, i_16, i_20, i_21, i_22, i_31, i_99, i_100, i_256, i_1000, nI_eq, nI_leI, nI_ltI, nI_add, pk_mul, ↓reduceIte, nt_le, nf_le, nt_lt, nf_lt, nt_eq, nf_eq, meet_N', meet_P', meet_S', meet_Z', meet_B', meet_O', n_1, n_2, n_3, n_4, n_5, n_10, n_11]
  obtain ⟨e2, c1, c2, c3⟩ := lp_count (body := fun u => fX6_loadPoly_L31 o u.2 q u.1) (fun i s => s.1 = nI i ∧ ZR z s.2 ∧ ∀ x, x < 2 ^ n → s.2.2.1 12 x = AA Kp (fun x => nI (g x)) i x) n (fun e => ZR z e ∧ ∀ x, x < 2 ^ n → e.2.1 12 x = AA Kp (fun x => nI (g x)) n x) (bigN_gt (by omega)) (fun i s hi hs => by
    obtain ⟨l, y⟩ := s
    obtain ⟨rfl, s1, s2⟩ := hs
    simp only at s1 s2
    obtain ⟨e, w1, w2, w3⟩ := pass i y hi s1 s2
    refine ⟨(nI (i + 1), e), ?_, rfl, w2, w3⟩
    unfold fX6_loadPoly_L31
    simp (disch := omega) only [ZR_T s1 d1, w1, Option.bind_some, aI_n, aL_n, aQ_n, sA_n, sL_n, csA_n, i_0, i_1, i_2, i_3, i_4, i_5, i_6, i_7, i_8, i_9, i_10, i_11, i_12, i_13, i_16, i_20, i_21, i_22, i_31, i_99, i_100, i_256, i_1000, nI_eq, nI_leI, nI_ltI, nI_add, pk_mul, ↓reduceIte, nt_le, nf_le, nt_lt, nf_lt, nt_eq, nf_eq, meet_N', meet_P', meet_S', meet_Z', meet_B', meet_O', n_1, n_2, n_3, n_4, n_5, n_10, n_11]) (fun s hs => by
    obtain ⟨l, y⟩ := s
    obtain ⟨rfl, s1, s2⟩ := hs
    simp only at s1 s2
    refine ⟨y, ?_, s1, s2⟩
    unfold fX6_loadPoly_L31
    simp (disch := omega) only [ZR_T s1 d1, Option.bind_some, aI_n, aL_n, aQ_n, sA_n, sL_n, csA_n, i_0, i_1, i_2, i_3, i_4, i_5, i_6, i_7, i_8, i_9, i_10, i_11, i_12, i_13, i_16, i_20, i_21, i_22, i_31, i_99, i_100, i_256, i_1000, nI_eq, nI_leI, nI_ltI, nI_add, pk_mul, ↓reduceIte, nt_le, nf_le, nt_lt, nf_lt, nt_eq, nf_eq, meet_N', meet_P', meet_S', meet_Z', meet_B', meet_O', n_1, n_2, n_3, n_4, n_5, n_10, n_11]) (s := (nI 0, e1)) ⟨rfl, a2, a3⟩
  refine ⟨e2, ?_, c2, c3⟩
  unfold fX6_loadPoly
  exact (congrArg (fun u => u.bind fun e8 => (lpN (fun u => fX6_loadPoly_L31 o u.2 q u.1) bigN ((0 : Int32), e8)).bind fun e17 => some e17) a1).trans ((congrArg (fun u => u.bind fun e17 => some e17) c1).trans rfl)
theorem loadS_n {o : Nat} {z : CS} {q n b : Nat} {kd wt : Int32} {g : Nat → Nat} {f : Nat → Int32} (n8 : n ≤ 8) (d1 : dT z q = some (kd, nI n, wt, some b)) (u2 : dB z b = some (2 ^ n, f)) (u3 : ∀ x, f x = nI (g x)) : ∃ e, fX6_loadSigns o z q = some e ∧ ZR z e ∧ ∀ x, x < 2 ^ n → e.2.1 12 x = AA Ks (fun x => nI 1 - nI (2 * g x)) n x := by
  have p2 := p2le n8
  obtain ⟨e1, a1, a2, a3⟩ := load2_n (body := fun u => fX6_loadSigns_L2 o u.2 q u.1) (z := z) (N := 2 ^ n) (f := fun x => nI 1 - nI (2 * g x)) p2 (fun i y hi hy => by
    have y1 := ZR_T hy d1
    obtain ⟨y2, y3⟩ := rd_f (ZR_B hy u2) u3 n8
    unfold fX6_loadSigns_L2
    simp (disch := omega) only [y1, y2, y3 i hi, Option.bind_some, aI_n, aL_n, aQ_n, sA_n, sL_n, csA_n, i_0, i_1, i_2, i_3, i_4, i_5, i_6, i_7, i_8, i_9, i_10, i_11, i_12, i_13, i_16, i_20, i_21, i_22, i_31, i_99, i_100, i_256, i_1000, nI_eq, nI_leI, nI_ltI, nI_add, pk_mul, ↓reduceIte, nt_le, nf_le, nt_lt, nf_lt, nt_eq, nf_eq, meet_N', meet_P', meet_S', meet_Z', meet_B', meet_O', n_1, n_2, n_3, n_4, n_5, n_10, n_11]) (fun y hy => by
    have y1 := ZR_T hy d1
    obtain ⟨y2, y3⟩ := rd_f (ZR_B hy u2) u3 n8
    unfold fX6_loadSigns_L2
    simp (disch := omega) only [y1, y2, Option.bind_some, aI_n, aL_n, aQ_n, sA_n, sL_n, csA_n, i_0, i_1, i_2, i_3, i_4, i_5, i_6, i_7, i_8, i_9, i_10, i_11, i_12, i_13, i_16, i_20, i_21, i_22, i_31, i_99, i_100, i_256, i_1000, nI_eq, nI_leI, nI_ltI, nI_add, pk_mul, ↓reduceIte, nt_le, nf_le, nt_lt, nf_lt, nt_eq, nf_eq, meet_N', meet_P', meet_S', meet_Z', meet_B', meet_O', n_1, n_2, n_3, n_4, n_5, n_10, n_11])
  generalize hF : (fun x => nI 1 - nI (2 * g x)) = F at *
  have pass : ∀ i y, i < n → ZR z y → (∀ x, x < 2 ^ n → y.2.1 12 x = AA Ks F i x) → ∃ e, lpN (fun u => fX6_loadSigns_L45 o u.2 q (nI i) u.1) bigN (nI 0, y) = some e ∧ (ZR z e ∧ ∀ x, x < 2 ^ n → e.2.1 12 x = AA Ks F (i + 1) x) := by
    intro i y hi hy hrow
    have hp := p2pos (n := i)
    refine lp_count (fun m s => s.1 = nI m ∧ ZR z s.2 ∧ ∀ x, x < 2 ^ n → s.2.2.1 12 x = if (if bt x i = 1 then x else x + 2 ^ i) < m then AA Ks F (i + 1) x else AA Ks F i x) (2 ^ n) _ (bigN_gt (by omega)) (fun m s hm hs => ?_) (fun s hs => ?_) ⟨rfl, hy, fun x hx => by rw [if_neg (by omega)]; exact hrow x hx⟩
    · obtain ⟨l, y'⟩ := s
      obtain ⟨rfl, s1, s2⟩ := hs
      simp only at s1 s2
      have y1 := ZR_T s1 d1
      obtain ⟨y2, y3⟩ := rd_f (ZR_B s1 u2) u3 n8
      have bl := bt_lt m i
      have xc := xor_c m (by omega) i (by omega)
      by_cases hb : bt m i = 1
      · obtain ⟨x1, x2, x3⟩ := xc.1 hb
        have r1 := s2 m hm
        have r2 := s2 (m - 2 ^ i) (by omega)
        rw [if_neg (by rw [if_pos hb]; omega)] at r1
        rw [if_neg (by rw [if_neg (by omega)]; omega)] at r2
        refine ⟨(nI (m + 1), cAr (cAr y' 12 (m - 2 ^ i) (AA Ks F (i + 1) (m - 2 ^ i))) 12 m (AA Ks F (i + 1) m)), ?_, rfl, s1.up.up, fun x hx => ?_⟩
        · rw [AAs_1 hb x2, AAs_0 x3, show m - 2 ^ i + 2 ^ i = m by omega]
          unfold fX6_loadSigns_L45 fX6_loadSigns_L45_J109
          simp (disch := omega) only [y1, y2, bitB (show m < 2 ^ 31 by omega) (show i < 32 by omega), hb, shl1' i (by omega), nI_xor, x1, r1, r2, Option.bind_some, aI_n, aL_n, aQ_n, sA_n, sL_n, csA_n, i_0, i_1, i_2, i_3, i_4, i_5, i_6, i_7, i_8, i_9, i_10, i_11, i_12, i_13, i_16, i_20, i_21, i_22, i_31, i_99, i_100, i_256, i_1000, nI_eq, nI_leI, nI_ltI, nI_add, pk_mul, ↓reduceIte, nt_le, nf_le, nt_lt, nf_lt, nt_eq, nf_eq, meet_N', meet_P', meet_S', meet_Z', meet_B', meet_O', n_1, n_2, n_3, n_4, n_5, n_10, n_11]
        · show (cAr (cAr y' 12 (m - 2 ^ i) _) 12 m _).2.1 12 x = _
          by_cases e : x = m
          · rw [e, cAr_s, if_pos (by rw [if_pos hb]; omega)]
          · rw [cAr_j e]
            by_cases e2 : x = m - 2 ^ i
            · rw [e2, cAr_s, if_pos (by rw [if_neg (by omega)]; omega)]
            · rw [cAr_j e2, s2 x hx]
              by_cases c : (if bt x i = 1 then x else x + 2 ^ i) < m
              · rw [if_pos c, if_pos (by omega)]
              · rw [if_neg c, if_neg]
                have bl' := bt_lt x i
                by_cases bx : bt x i = 1
                · rw [if_pos bx] at c ⊢
                  omega
                · rw [if_neg bx] at c ⊢
                  omega
      · refine ⟨(nI (m + 1), y'), ?_, rfl, s1, fun x hx => ?_⟩
        · unfold fX6_loadSigns_L45 fX6_loadSigns_L45_J109
          simp (disch := omega) only [y1, y2, bitB (show m < 2 ^ 31 by omega) (show i < 32 by omega), Option.bind_some, aI_n, aL_n, aQ_n, sA_n, sL_n, csA_n, i_0, i_1, i_2, i_3, i_4, i_5, i_6, i_7, i_8, i_9, i_10, i_11, i_12, i_13, i_16, i_20, i_21, i_22, i_31, i_99, i_100, i_256, i_1000, nI_eq, nI_leI, nI_ltI, nI_add, pk_mul, ↓reduceIte, nt_le, nf_le, nt_lt, nf_lt, nt_eq, nf_eq, meet_N', meet_P', meet_S', meet_Z', meet_B', meet_O', n_1, n_2, n_3, n_4, n_5, n_10, n_11]
        · show y'.2.1 12 x = _
          rw [s2 x hx]
          by_cases c : (if bt x i = 1 then x else x + 2 ^ i) < m
          · rw [if_pos c, if_pos (by omega)]
          · rw [if_neg c, if_neg]
            have bl' := bt_lt x i
            by_cases bx : bt x i = 1
            · rw [if_pos bx] at c ⊢
              intro w
              have : x = m := by omega
              subst this
              exact hb bx
            · rw [if_neg bx] at c ⊢
              intro w
              have : m = x + 2 ^ i := by omega
              rw [this] at hb
              exact hb ((xor_c x (by omega) i (by omega)).2 (by omega)).2
    · obtain ⟨l, y'⟩ := s
      obtain ⟨rfl, s1, s2⟩ := hs
      simp only at s1 s2
      have y1 := ZR_T s1 d1
      obtain ⟨y2, y3⟩ := rd_f (ZR_B s1 u2) u3 n8
      refine ⟨y', ?_, s1, fun x hx => ?_⟩
      · unfold fX6_loadSigns_L45
        simp (disch := omega) only [y1, y2, Option.bind_some, aI_n, aL_n, aQ_n, sA_n, sL_n, csA_n, i_0, i_1, i_2, i_3, i_4, i_5, i_6, i_7, i_8, i_9, i_10, i_11, i_12, i_13, i_16, i_20, i_21, i_22, i_31, i_99, i_100, i_256, i_1000, nI_eq, nI_leI, nI_ltI, nI_add, pk_mul, ↓reduceIte, nt_le, nf_le, nt_lt, nf_lt, nt_eq, nf_eq, meet_N', meet_P', meet_S', meet_Z', meet_B', meet_O', n_1, n_2, n_3, n_4, n_5, n_10, n_11]
      · rw [s2 x hx, if_pos]
        by_cases bx : bt x i = 1
        · rw [if_pos bx]; exact hx
        · rw [if_neg bx]
          have bl' := bt_lt x i
          have b0 : bt x i = 0 := by omega
          have h1 := spl x i
          rw [b0, Nat.zero_mul, Nat.sub_zero] at h1
          have h2 := Nat.mod_lt x (Nat.two_pow_pos i)
          have h3 : x / 2 ^ (i + 1) < 2 ^ (n - 1 - i) := by
            rw [Nat.div_lt_iff_lt_mul (Nat.two_pow_pos _), ← Nat.pow_add, show n - 1 - i + (i + 1) = n by omega]
            exact hx
          have h4 : (x / 2 ^ (i + 1) + 1) * 2 ^ (i + 1) ≤ 2 ^ (n - 1 - i) * 2 ^ (i + 1) := Nat.mul_le_mul_right _ h3
          rw [← Nat.pow_add, show n - 1 - i + (i + 1) = n by omega, Nat.add_mul, Nat.one_mul] at h4
          have h5 : 2 ^ (i + 1) = 2 * 2 ^ i := by rw [Nat.pow_succ, Nat.mul_comm]
          omega
  obtain ⟨e2, c1, c2, c3⟩ := lp_count (body := fun u => fX6_loadSigns_L35 o u.2 q u.1) (fun i s => s.1 = nI i ∧ ZR z s.2 ∧ ∀ x, x < 2 ^ n → s.2.2.1 12 x = AA Ks F i x) n (fun e => ZR z e ∧ ∀ x, x < 2 ^ n → e.2.1 12 x = AA Ks F n x) (bigN_gt (by omega)) (fun i s hi hs => by
    obtain ⟨l, y⟩ := s
    obtain ⟨rfl, s1, s2⟩ := hs
    simp only at s1 s2
    obtain ⟨e, w1, w2, w3⟩ := pass i y hi s1 s2
    refine ⟨(nI (i + 1), e), ?_, rfl, w2, w3⟩
    unfold fX6_loadSigns_L35
    simp (disch := omega) only [ZR_T s1 d1, w1, Option.bind_some, aI_n, aL_n, aQ_n, sA_n, sL_n, csA_n, i_0, i_1, i_2, i_3, i_4, i_5, i_6, i_7, i_8, i_9, i_10, i_11, i_12, i_13, i_16, i_20, i_21, i_22, i_31, i_99, i_100, i_256, i_1000, nI_eq, nI_leI, nI_ltI, nI_add, pk_mul, ↓reduceIte, nt_le, nf_le, nt_lt, nf_lt, nt_eq, nf_eq, meet_N', meet_P', meet_S', meet_Z', meet_B', meet_O', n_1, n_2, n_3, n_4, n_5, n_10, n_11]) (fun s hs => by
    obtain ⟨l, y⟩ := s
    obtain ⟨rfl, s1, s2⟩ := hs
    simp only at s1 s2
    refine ⟨y, ?_, s1, s2⟩
    unfold fX6_loadSigns_L35
    simp (disch := omega) only [ZR_T s1 d1, Option.bind_some, aI_n, aL_n, aQ_n, sA_n, sL_n, csA_n, i_0, i_1, i_2, i_3, i_4, i_5, i_6, i_7, i_8, i_9, i_10, i_11, i_12, i_13, i_16, i_20, i_21, i_22, i_31, i_99, i_100, i_256, i_1000, nI_eq, nI_leI, nI_ltI, nI_add, pk_mul, ↓reduceIte, nt_le, nf_le, nt_lt, nf_lt, nt_eq, nf_eq, meet_N', meet_P', meet_S', meet_Z', meet_B', meet_O', n_1, n_2, n_3, n_4, n_5, n_10, n_11]) (s := (nI 0, e1)) ⟨rfl, a2, fun x hx => by show e1.2.1 12 x = F x; rw [← hF]; exact a3 x hx⟩
  refine ⟨e2, ?_, c2, c3⟩
  unfold fX6_loadSigns
  exact (congrArg (fun u => u.bind fun e8 => (lpN (fun u => fX6_loadSigns_L35 o u.2 q u.1) bigN ((0 : Int32), e8)).bind fun e17 => some e17) a1).trans ((congrArg (fun u => u.bind fun e17 => some e17) c1).trans rfl)
