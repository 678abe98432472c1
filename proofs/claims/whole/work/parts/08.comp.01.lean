theorem cat_le : ∀ {st : List Value}, st.length ≤ 4 → (st.map fun v => v.category).sum ≤ 8 := by
  have h : ∀ (st : List Value), (st.map fun v => v.category).sum ≤ 2 * st.length := by
    intro st
    induction st with
    | nil => simp
    | cons v t ih =>
      have hv : v.category ≤ 2 := by rcases lv_cat v with h | h <;> omega
      simp only [List.map_cons, List.sum_cons, List.length_cons]
      omega
  intro st hl
  have := h st
  omega
theorem rf_cat (r : Option Nat) : (va_rf r).category = 1 := by cases r <;> rfl
section CROWS
variable {κ : KK} {p : Program} {l : Launch} {e : Env} {R : Room} {s : State} {m : MethodId} {args : Array Value} {below : List Frame} {meth : Method} {c : Code} {Q : State → Prop} {A : Nat → Prop} {nL cells slots : Nat} {B : Heap → Prop} {pc pc' : Nat} {lv : List (Nat × Value)} {st : List Value} {cc : ByteArray} {own : String} {ret : Option FieldType} {o : Nat} {z : CS}
theorem pe_T {t : Int32 × Int32 × Int32 × Option Nat} : pe κ (.inl t) = .inr (8, [.int t.1, .int t.2.1, .int t.2.2.1, va_rf t.2.2.2]) := rfl
theorem CB_T {q : Nat} {t : Int32 × Int32 × Int32 × Option Nat} (h : dT z q = some t) : rdv κ (CB κ o z) q (.inr (8, [.int t.1, .int t.2.1, .int t.2.2.1, va_rf t.2.2.2])) := CB_prd (dT_s h)
theorem CB_S {q : Nat} {t : Int32 × Option Nat} (h : dS z q = some t) : rdv κ (CB κ o z) q (.inr (7, [.int t.1, va_rf t.2])) := CB_prd (dS_s h)
theorem CB_Bb {q : Nat} {t : Nat × (Nat → Int32)} (h : dB z q = some t) : rdv κ (CB κ o z) q (.inl (κ.2 2, t.1, .inl t.2)) := CB_prd (dB_s h)
theorem CB_Ll {q : Nat} {t : Nat × (Nat → Int64)} (h : dL z q = some t) : rdv κ (CB κ o z) q (.inl (κ.2 1, t.1, .inr (.inl t.2))) := CB_prd (dL_s h)
theorem C_s_4 {i x : Int32} {z' : CS} (C : Cx κ p s m args meth c cc nL own ret) (hd : decode cc pc = .ok (.iastore, 1)) (hv : csA z 0 100 i x = some z') (hp : pc + 1 = pc') (kk : GG p l e R s m args below meth c Q (CA o) nL cells slots (CB κ o z') pc' lv st) : GG p l e R s m args below meth c Q (CA o) nL cells slots (CB κ o z) pc lv (.int x :: .int i :: .ref (o + 4) :: st) := by
  obtain ⟨hi, rfl⟩ := csA_s hv
  exact G_iast C hd (CB_rd 4 rfl) hi (CB_wr (cAr z 0 i.toNatClampNeg x) 4 (by decide) rfl rfl) hp kk
theorem C_s_6 {i x : Int32} {z' : CS} (C : Cx κ p s m args meth c cc nL own ret) (hd : decode cc pc = .ok (.bastore, 1)) (hv : csA z 1 6561 i x.toInt8.toInt32 = some z') (hp : pc + 1 = pc') (kk : GG p l e R s m args below meth c Q (CA o) nL cells slots (CB κ o z') pc' lv st) : GG p l e R s m args below meth c Q (CA o) nL cells slots (CB κ o z) pc lv (.int x :: .int i :: .ref (o + 6) :: st) := by
  obtain ⟨hi, rfl⟩ := csA_s hv
  exact G_bast C hd (CB_rd 6 rfl) hi (CB_wr (cAr z 1 i.toNatClampNeg x.toInt8.toInt32) 6 (by decide) rfl rfl) hp kk
theorem C_s_7 {i x : Int32} {z' : CS} (C : Cx κ p s m args meth c cc nL own ret) (hd : decode cc pc = .ok (.iastore, 1)) (hv : csA z 2 6561 i x = some z') (hp : pc + 1 = pc') (kk : GG p l e R s m args below meth c Q (CA o) nL cells slots (CB κ o z') pc' lv st) : GG p l e R s m args below meth c Q (CA o) nL cells slots (CB κ o z) pc lv (.int x :: .int i :: .ref (o + 7) :: st) := by
  obtain ⟨hi, rfl⟩ := csA_s hv
  exact G_iast C hd (CB_rd 7 rfl) hi (CB_wr (cAr z 2 i.toNatClampNeg x) 7 (by decide) rfl rfl) hp kk
theorem C_s_9 {i x : Int32} {z' : CS} (C : Cx κ p s m args meth c cc nL own ret) (hd : decode cc pc = .ok (.iastore, 1)) (hv : csA z 3 511 i x = some z') (hp : pc + 1 = pc') (kk : GG p l e R s m args below meth c Q (CA o) nL cells slots (CB κ o z') pc' lv st) : GG p l e R s m args below meth c Q (CA o) nL cells slots (CB κ o z) pc lv (.int x :: .int i :: .ref (o + 9) :: st) := by
  obtain ⟨hi, rfl⟩ := csA_s hv
  exact G_iast C hd (CB_rd 9 rfl) hi (CB_wr (cAr z 3 i.toNatClampNeg x) 9 (by decide) rfl rfl) hp kk
theorem C_s_10 {i x : Int32} {z' : CS} (C : Cx κ p s m args meth c cc nL own ret) (hd : decode cc pc = .ok (.iastore, 1)) (hv : csA z 4 511 i x = some z') (hp : pc + 1 = pc') (kk : GG p l e R s m args below meth c Q (CA o) nL cells slots (CB κ o z') pc' lv st) : GG p l e R s m args below meth c Q (CA o) nL cells slots (CB κ o z) pc lv (.int x :: .int i :: .ref (o + 10) :: st) := by
  obtain ⟨hi, rfl⟩ := csA_s hv
  exact G_iast C hd (CB_rd 10 rfl) hi (CB_wr (cAr z 4 i.toNatClampNeg x) 10 (by decide) rfl rfl) hp kk
theorem C_s_11 {i x : Int32} {z' : CS} (C : Cx κ p s m args meth c cc nL own ret) (hd : decode cc pc = .ok (.iastore, 1)) (hv : csA z 5 511 i x = some z') (hp : pc + 1 = pc') (kk : GG p l e R s m args below meth c Q (CA o) nL cells slots (CB κ o z') pc' lv st) : GG p l e R s m args below meth c Q (CA o) nL cells slots (CB κ o z) pc lv (.int x :: .int i :: .ref (o + 11) :: st) := by
  obtain ⟨hi, rfl⟩ := csA_s hv
  exact G_iast C hd (CB_rd 11 rfl) hi (CB_wr (cAr z 5 i.toNatClampNeg x) 11 (by decide) rfl rfl) hp kk
theorem C_s_13 {i x : Int32} {z' : CS} (C : Cx κ p s m args meth c cc nL own ret) (hd : decode cc pc = .ok (.iastore, 1)) (hv : csA z 6 100 i x = some z') (hp : pc + 1 = pc') (kk : GG p l e R s m args below meth c Q (CA o) nL cells slots (CB κ o z') pc' lv st) : GG p l e R s m args below meth c Q (CA o) nL cells slots (CB κ o z) pc lv (.int x :: .int i :: .ref (o + 13) :: st) := by
  obtain ⟨hi, rfl⟩ := csA_s hv
  exact G_iast C hd (CB_rd 13 rfl) hi (CB_wr (cAr z 6 i.toNatClampNeg x) 13 (by decide) rfl rfl) hp kk
theorem C_s_14 {i x : Int32} {z' : CS} (C : Cx κ p s m args meth c cc nL own ret) (hd : decode cc pc = .ok (.iastore, 1)) (hv : csA z 7 100 i x = some z') (hp : pc + 1 = pc') (kk : GG p l e R s m args below meth c Q (CA o) nL cells slots (CB κ o z') pc' lv st) : GG p l e R s m args below meth c Q (CA o) nL cells slots (CB κ o z) pc lv (.int x :: .int i :: .ref (o + 14) :: st) := by
  obtain ⟨hi, rfl⟩ := csA_s hv
  exact G_iast C hd (CB_rd 14 rfl) hi (CB_wr (cAr z 7 i.toNatClampNeg x) 14 (by decide) rfl rfl) hp kk
theorem C_s_15 {i x : Int32} {z' : CS} (C : Cx κ p s m args meth c cc nL own ret) (hd : decode cc pc = .ok (.iastore, 1)) (hv : csA z 8 100 i x = some z') (hp : pc + 1 = pc') (kk : GG p l e R s m args below meth c Q (CA o) nL cells slots (CB κ o z') pc' lv st) : GG p l e R s m args below meth c Q (CA o) nL cells slots (CB κ o z) pc lv (.int x :: .int i :: .ref (o + 15) :: st) := by
  obtain ⟨hi, rfl⟩ := csA_s hv
  exact G_iast C hd (CB_rd 15 rfl) hi (CB_wr (cAr z 8 i.toNatClampNeg x) 15 (by decide) rfl rfl) hp kk
theorem C_s_17 {i x : Int32} {z' : CS} (C : Cx κ p s m args meth c cc nL own ret) (hd : decode cc pc = .ok (.bastore, 1)) (hv : csA z 9 256 i (vp_nar .boolean x) = some z') (hp : pc + 1 = pc') (kk : GG p l e R s m args below meth c Q (CA o) nL cells slots (CB κ o z') pc' lv st) : GG p l e R s m args below meth c Q (CA o) nL cells slots (CB κ o z) pc lv (.int x :: .int i :: .ref (o + 17) :: st) := by
  obtain ⟨hi, rfl⟩ := csA_s hv
  exact G_zast C hd (CB_rd 17 rfl) hi (CB_wr (cAr z 9 i.toNatClampNeg (vp_nar .boolean x)) 17 (by decide) rfl rfl) hp kk
theorem C_s_18 {i x : Int32} {z' : CS} (C : Cx κ p s m args meth c cc nL own ret) (hd : decode cc pc = .ok (.iastore, 1)) (hv : csA z 10 256 i x = some z') (hp : pc + 1 = pc') (kk : GG p l e R s m args below meth c Q (CA o) nL cells slots (CB κ o z') pc' lv st) : GG p l e R s m args below meth c Q (CA o) nL cells slots (CB κ o z) pc lv (.int x :: .int i :: .ref (o + 18) :: st) := by
  obtain ⟨hi, rfl⟩ := csA_s hv
  exact G_iast C hd (CB_rd 18 rfl) hi (CB_wr (cAr z 10 i.toNatClampNeg x) 18 (by decide) rfl rfl) hp kk
theorem C_s_19 {i x : Int32} {z' : CS} (C : Cx κ p s m args meth c cc nL own ret) (hd : decode cc pc = .ok (.iastore, 1)) (hv : csA z 11 256 i x = some z') (hp : pc + 1 = pc') (kk : GG p l e R s m args below meth c Q (CA o) nL cells slots (CB κ o z') pc' lv st) : GG p l e R s m args below meth c Q (CA o) nL cells slots (CB κ o z) pc lv (.int x :: .int i :: .ref (o + 19) :: st) := by
  obtain ⟨hi, rfl⟩ := csA_s hv
  exact G_iast C hd (CB_rd 19 rfl) hi (CB_wr (cAr z 11 i.toNatClampNeg x) 19 (by decide) rfl rfl) hp kk
theorem C_s_21 {i x : Int32} {z' : CS} (C : Cx κ p s m args meth c cc nL own ret) (hd : decode cc pc = .ok (.iastore, 1)) (hv : csA z 12 256 i x = some z') (hp : pc + 1 = pc') (kk : GG p l e R s m args below meth c Q (CA o) nL cells slots (CB κ o z') pc' lv st) : GG p l e R s m args below meth c Q (CA o) nL cells slots (CB κ o z) pc lv (.int x :: .int i :: .ref (o + 21) :: st) := by
  obtain ⟨hi, rfl⟩ := csA_s hv
  exact G_iast C hd (CB_rd 21 rfl) hi (CB_wr (cAr z 12 i.toNatClampNeg x) 21 (by decide) rfl rfl) hp kk
theorem C_s_23 {i x : Int32} {z' : CS} (C : Cx κ p s m args meth c cc nL own ret) (hd : decode cc pc = .ok (.iastore, 1)) (hv : csA z 13 16 i x = some z') (hp : pc + 1 = pc') (kk : GG p l e R s m args below meth c Q (CA o) nL cells slots (CB κ o z') pc' lv st) : GG p l e R s m args below meth c Q (CA o) nL cells slots (CB κ o z) pc lv (.int x :: .int i :: .ref (o + 23) :: st) := by
  obtain ⟨hi, rfl⟩ := csA_s hv
  exact G_iast C hd (CB_rd 23 rfl) hi (CB_wr (cAr z 13 i.toNatClampNeg x) 23 (by decide) rfl rfl) hp kk
theorem C_s_24 {i x : Int32} {z' : CS} (C : Cx κ p s m args meth c cc nL own ret) (hd : decode cc pc = .ok (.iastore, 1)) (hv : csA z 14 81 i x = some z') (hp : pc + 1 = pc') (kk : GG p l e R s m args below meth c Q (CA o) nL cells slots (CB κ o z') pc' lv st) : GG p l e R s m args below meth c Q (CA o) nL cells slots (CB κ o z) pc lv (.int x :: .int i :: .ref (o + 24) :: st) := by
  obtain ⟨hi, rfl⟩ := csA_s hv
  exact G_iast C hd (CB_rd 24 rfl) hi (CB_wr (cAr z 14 i.toNatClampNeg x) 24 (by decide) rfl rfl) hp kk
theorem C_s_25 {i x : Int32} {z' : CS} (C : Cx κ p s m args meth c cc nL own ret) (hd : decode cc pc = .ok (.iastore, 1)) (hv : csA z 15 81 i x = some z') (hp : pc + 1 = pc') (kk : GG p l e R s m args below meth c Q (CA o) nL cells slots (CB κ o z') pc' lv st) : GG p l e R s m args below meth c Q (CA o) nL cells slots (CB κ o z) pc lv (.int x :: .int i :: .ref (o + 25) :: st) := by
  obtain ⟨hi, rfl⟩ := csA_s hv
  exact G_iast C hd (CB_rd 25 rfl) hi (CB_wr (cAr z 15 i.toNatClampNeg x) 25 (by decide) rfl rfl) hp kk
theorem C_s_27 {i x : Int32} {z' : CS} (C : Cx κ p s m args meth c cc nL own ret) (hd : decode cc pc = .ok (.iastore, 1)) (hv : csA z 16 256 i x = some z') (hp : pc + 1 = pc') (kk : GG p l e R s m args below meth c Q (CA o) nL cells slots (CB κ o z') pc' lv st) : GG p l e R s m args below meth c Q (CA o) nL cells slots (CB κ o z) pc lv (.int x :: .int i :: .ref (o + 27) :: st) := by
  obtain ⟨hi, rfl⟩ := csA_s hv
  exact G_iast C hd (CB_rd 27 rfl) hi (CB_wr (cAr z 16 i.toNatClampNeg x) 27 (by decide) rfl rfl) hp kk
theorem C_s_30 {i x : Int32} {z' : CS} (C : Cx κ p s m args meth c cc nL own ret) (hd : decode cc pc = .ok (.bastore, 1)) (hv : csA z 17 6561 i x.toInt8.toInt32 = some z') (hp : pc + 1 = pc') (kk : GG p l e R s m args below meth c Q (CA o) nL cells slots (CB κ o z') pc' lv st) : GG p l e R s m args below meth c Q (CA o) nL cells slots (CB κ o z) pc lv (.int x :: .int i :: .ref (o + 30) :: st) := by
  obtain ⟨hi, rfl⟩ := csA_s hv
  exact G_bast C hd (CB_rd 30 rfl) hi (CB_wr (cAr z 17 i.toNatClampNeg x.toInt8.toInt32) 30 (by decide) rfl rfl) hp kk
theorem C_s_31 {i x : Int32} {z' : CS} (C : Cx κ p s m args meth c cc nL own ret) (hd : decode cc pc = .ok (.iastore, 1)) (hv : csA z 18 6561 i x = some z') (hp : pc + 1 = pc') (kk : GG p l e R s m args below meth c Q (CA o) nL cells slots (CB κ o z') pc' lv st) : GG p l e R s m args below meth c Q (CA o) nL cells slots (CB κ o z) pc lv (.int x :: .int i :: .ref (o + 31) :: st) := by
  obtain ⟨hi, rfl⟩ := csA_s hv
  exact G_iast C hd (CB_rd 31 rfl) hi (CB_wr (cAr z 18 i.toNatClampNeg x) 31 (by decide) rfl rfl) hp kk
def okS (z : CS) (x : Option Nat) : Bool := match x with
  | none => true
  | some y => (dS z y).isSome
def okT (z : CS) (x : Option Nat) : Bool := match x with
  | none => true
  | some y => (dT z y).isSome
def stQS (z : CS) (i : Int32) (x : Option Nat) : Option CS := if ib i 6 = true ∧ okS z x = true then some (cQ z 0 i.toNatClampNeg x) else none
def stQT (z : CS) (k : Nat) (i : Int32) (x : Option Nat) : Option CS := if ib i 8 = true ∧ okT z x = true then some (cQ z k i.toNatClampNeg x) else none
theorem stQS_s {z z' : CS} {i : Int32} {x : Option Nat} (h : stQS z i x = some z') : vp_in i 6 ∧ okS z x = true ∧ cQ z 0 i.toNatClampNeg x = z' := by
  unfold stQS at h
  by_cases hi : ib i 6 = true ∧ okS z x = true
  · rw [if_pos hi] at h; exact ⟨ib_in hi.1, hi.2, Option.some.inj h⟩
  · rw [if_neg hi] at h; cases h
theorem stQT_s {z z' : CS} {k : Nat} {i : Int32} {x : Option Nat} (h : stQT z k i x = some z') : vp_in i 8 ∧ okT z x = true ∧ cQ z k i.toNatClampNeg x = z' := by
  unfold stQT at h
  by_cases hi : ib i 8 = true ∧ okT z x = true
  · rw [if_pos hi] at h; exact ⟨ib_in hi.1, hi.2, Option.some.inj h⟩
  · rw [if_neg hi] at h; cases h
theorem C_q_sheets {i : Int32} {x : Option Nat} {z' : CS} (C : Cx κ p s m args meth c cc nL own ret) (hd : decode cc pc = .ok (.aastore, 1)) (hv : stQS z i x = some z') (hp : pc + 1 = pc') (kk : GG p l e R s m args below meth c Q (CA o) nL cells slots (CB κ o z') pc' lv st) : GG p l e R s m args below meth c Q (CA o) nL cells slots (CB κ o z) pc lv (va_rf x :: .int i :: .ref (o + 1) :: st) := by
  obtain ⟨hi, hx, rfl⟩ := stQS_s hv
  cases x with
  | none => exact G_aast4N C hd (CB_rd 1 rfl) hi (CB_wr (cQ z 0 i.toNatClampNeg none) 1 (by decide) rfl rfl) hp kk
  | some y =>
    have hx : (dS z y).isSome = true := hx
    cases ht : dS z y with
    | none => rw [ht] at hx; cases hx
    | some t => exact G_aast4 C hd (CB_rd 1 rfl) (CB_S ht) hi (CB_wr (cQ z 0 i.toNatClampNeg (some y)) 1 (by decide) rfl rfl) hp kk
theorem C_q_places {i : Int32} {x : Option Nat} {z' : CS} (C : Cx κ p s m args meth c cc nL own ret) (hd : decode cc pc = .ok (.aastore, 1)) (hv : stQT z 1 i x = some z') (hp : pc + 1 = pc') (kk : GG p l e R s m args below meth c Q (CA o) nL cells slots (CB κ o z') pc' lv st) : GG p l e R s m args below meth c Q (CA o) nL cells slots (CB κ o z) pc lv (va_rf x :: .int i :: .ref (o + 2) :: st) := by
  obtain ⟨hi, hx, rfl⟩ := stQT_s hv
  cases x with
  | none => exact G_aast5N C hd (CB_rd 2 rfl) hi (CB_wr (cQ z 1 i.toNatClampNeg none) 2 (by decide) rfl rfl) hp kk
  | some y =>
    have hx : (dT z y).isSome = true := hx
    cases ht : dT z y with
    | none => rw [ht] at hx; cases hx
    | some t => exact G_aast5 C hd (CB_rd 2 rfl) (CB_T ht) hi (CB_wr (cQ z 1 i.toNatClampNeg (some y)) 2 (by decide) rfl rfl) hp kk
theorem C_q_kept {i : Int32} {x : Option Nat} {z' : CS} (C : Cx κ p s m args meth c cc nL own ret) (hd : decode cc pc = .ok (.aastore, 1)) (hv : stQT z 2 i x = some z') (hp : pc + 1 = pc') (kk : GG p l e R s m args below meth c Q (CA o) nL cells slots (CB κ o z') pc' lv st) : GG p l e R s m args below meth c Q (CA o) nL cells slots (CB κ o z) pc lv (va_rf x :: .int i :: .ref (o + 3) :: st) := by
  obtain ⟨hi, hx, rfl⟩ := stQT_s hv
  cases x with
  | none => exact G_aast5N C hd (CB_rd 3 rfl) hi (CB_wr (cQ z 2 i.toNatClampNeg none) 3 (by decide) rfl rfl) hp kk
  | some y =>
    have hx : (dT z y).isSome = true := hx
    cases ht : dT z y with
    | none => rw [ht] at hx; cases hx
    | some t => exact G_aast5 C hd (CB_rd 3 rfl) (CB_T ht) hi (CB_wr (cQ z 2 i.toNatClampNeg (some y)) 3 (by decide) rfl rfl) hp kk
theorem P_bald {q : Nat} {i v : Int32} (C : Cx κ p s m args meth c cc nL own ret) (hd : decode cc pc = .ok (.baload, 1)) (hv : rdB z q i = some v) (hp : pc + 1 = pc') (kk : GG p l e R s m args below meth c Q (CA o) nL cells slots (CB κ o z) pc' lv (.int v :: st)) : GG p l e R s m args below meth c Q (CA o) nL cells slots (CB κ o z) pc lv (.int i :: .ref q :: st) := by
  obtain ⟨b, hb, h2⟩ := ob hv
  exact G_baldV C hd (CB_Bb hb) h2 hp kk
theorem P_lald {q : Nat} {i : Int32} {v : Int64} (C : Cx κ p s m args meth c cc nL own ret) (hd : decode cc pc = .ok (.laload, 1)) (hv : rdL z q i = some v) (hp : pc + 1 = pc') (kk : GG p l e R s m args below meth c Q (CA o) nL cells slots (CB κ o z) pc' lv (.long v :: st)) : GG p l e R s m args below meth c Q (CA o) nL cells slots (CB κ o z) pc lv (.int i :: .ref q :: st) := by
  obtain ⟨b, hb, h2⟩ := ob hv
  exact G_laldV C hd (CB_Ll hb) h2 hp kk
theorem P_lenB {q : Nat} {v : Int32} (C : Cx κ p s m args meth c cc nL own ret) (hd : decode cc pc = .ok (.arraylength, 1)) (hv : lnB z q = some v) (hp : pc + 1 = pc') (kk : GG p l e R s m args below meth c Q (CA o) nL cells slots (CB κ o z) pc' lv (.int v :: st)) : GG p l e R s m args below meth c Q (CA o) nL cells slots (CB κ o z) pc lv (.ref q :: st) := by
  obtain ⟨b, hb, h2⟩ := ob hv
  cases h2
  exact G_alen 2 C hd rfl (CB_Bb hb) hp kk
theorem P_lenL {q : Nat} {v : Int32} (C : Cx κ p s m args meth c cc nL own ret) (hd : decode cc pc = .ok (.arraylength, 1)) (hv : lnL z q = some v) (hp : pc + 1 = pc') (kk : GG p l e R s m args below meth c Q (CA o) nL cells slots (CB κ o z) pc' lv (.int v :: st)) : GG p l e R s m args below meth c Q (CA o) nL cells slots (CB κ o z) pc lv (.ref q :: st) := by
  obtain ⟨b, hb, h2⟩ := ob hv
  cases h2
  exact G_alen 1 C hd rfl (CB_Ll hb) hp kk
theorem P_bast {q : Nat} {i x : Int32} {z' : CS} (C : Cx κ p s m args meth c cc nL own ret) (hd : decode cc pc = .ok (.bastore, 1)) (hv : stB o z q i x = some z') (hp : pc + 1 = pc') (kk : GG p l e R s m args below meth c Q (CA o) nL cells slots (CB κ o z') pc' lv st) : GG p l e R s m args below meth c Q (CA o) nL cells slots (CB κ o z) pc lv (.int x :: .int i :: .ref q :: st) := by
  obtain ⟨b, hb, h2⟩ := ob hv
  by_cases hi : ib i b.1 = true ∧ o + 64 ≤ q
  · rw [if_pos hi] at h2
    cases h2
    exact G_bast C hd (CB_Bb hb) (ib_in hi.1) (CB_pwr (.inr (.inl (b.1, upd b.2 i.toNatClampNeg x.toInt8.toInt32))) (dB_s hb) hi.2) hp kk
  · rw [if_neg hi] at h2; cases h2
theorem P_last {q : Nat} {i : Int32} {x : Int64} {z' : CS} (C : Cx κ p s m args meth c cc nL own ret) (hd : decode cc pc = .ok (.lastore, 1)) (hv : stL o z q i x = some z') (hp : pc + 1 = pc') (kk : GG p l e R s m args below meth c Q (CA o) nL cells slots (CB κ o z') pc' lv st) : GG p l e R s m args below meth c Q (CA o) nL cells slots (CB κ o z) pc lv (.long x :: .int i :: .ref q :: st) := by
  obtain ⟨b, hb, h2⟩ := ob hv
  by_cases hi : ib i b.1 = true ∧ o + 64 ≤ q
  · rw [if_pos hi] at h2
    cases h2
    exact G_last C hd (CB_Ll hb) (ib_in hi.1) (CB_pwr (.inr (.inr (.inr (b.1, vp_updL b.2 i.toNatClampNeg x)))) (dL_s hb) hi.2) hp kk
  · rw [if_neg hi] at h2; cases h2
theorem P_pT0 {q : Nat} {x : Int32} {z' : CS} (C : Cx κ p s m args meth c cc nL RX8 ret) (hin : meth.name = "<init>") (hd : decode cc pc = .ok (.putfield 9, 3)) (hv : stT o z q 0 x = some z') (hp : pc + 3 = pc') (kk : GG p l e R s m args below meth c Q (CA o) nL cells slots (CB κ o z') pc' lv st) : GG p l e R s m args below meth c Q (CA o) nL cells slots (CB κ o z) pc lv (.int x :: .ref q :: st) := by
  obtain ⟨t, ht, h2⟩ := ob hv
  by_cases hi : o + 64 ≤ q
  · rw [if_pos hi] at h2
    cases h2
    exact G_putF (k := 0) C hin fi_X8 hd tw_fl_X8_9 rfl (by decide) rfl rfl rfl (Nat.le_of_ble_eq_true rfl) (CB_T ht) (CB_pwr (.inl (x, t.2.1, t.2.2.1, t.2.2.2)) (dT_s ht) hi) hp kk
  · rw [if_neg hi] at h2; cases h2
theorem P_pT1 {q : Nat} {x : Int32} {z' : CS} (C : Cx κ p s m args meth c cc nL RX8 ret) (hin : meth.name = "<init>") (hd : decode cc pc = .ok (.putfield 15, 3)) (hv : stT o z q 1 x = some z') (hp : pc + 3 = pc') (kk : GG p l e R s m args below meth c Q (CA o) nL cells slots (CB κ o z') pc' lv st) : GG p l e R s m args below meth c Q (CA o) nL cells slots (CB κ o z) pc lv (.int x :: .ref q :: st) := by
  obtain ⟨t, ht, h2⟩ := ob hv
  by_cases hi : o + 64 ≤ q
  · rw [if_pos hi] at h2
    cases h2
    exact G_putF (k := 1) C hin fi_X8 hd tw_fl_X8_15 rfl (by decide) rfl rfl rfl (Nat.le_of_ble_eq_true rfl) (CB_T ht) (CB_pwr (.inl (t.1, x, t.2.2.1, t.2.2.2)) (dT_s ht) hi) hp kk
  · rw [if_neg hi] at h2; cases h2
theorem P_pT2 {q : Nat} {x : Int32} {z' : CS} (C : Cx κ p s m args meth c cc nL RX8 ret) (hin : meth.name = "<init>") (hd : decode cc pc = .ok (.putfield 18, 3)) (hv : stT o z q 2 x = some z') (hp : pc + 3 = pc') (kk : GG p l e R s m args below meth c Q (CA o) nL cells slots (CB κ o z') pc' lv st) : GG p l e R s m args below meth c Q (CA o) nL cells slots (CB κ o z) pc lv (.int x :: .ref q :: st) := by
  obtain ⟨t, ht, h2⟩ := ob hv
  by_cases hi : o + 64 ≤ q
  · rw [if_pos hi] at h2
    cases h2
    exact G_putF (k := 2) C hin fi_X8 hd tw_fl_X8_18 rfl (by decide) rfl rfl rfl (Nat.le_of_ble_eq_true rfl) (CB_T ht) (CB_pwr (.inl (t.1, t.2.1, x, t.2.2.2)) (dT_s ht) hi) hp kk
  · rw [if_neg hi] at h2; cases h2
theorem P_pT3 {q : Nat} {x : Nat} {z' : CS} (C : Cx κ p s m args meth c cc nL RX8 ret) (hin : meth.name = "<init>") (hd : decode cc pc = .ok (.putfield 21, 3)) (hv : stTs o z q x = some z') (hp : pc + 3 = pc') (kk : GG p l e R s m args below meth c Q (CA o) nL cells slots (CB κ o z') pc' lv st) : GG p l e R s m args below meth c Q (CA o) nL cells slots (CB κ o z) pc lv (.ref x :: .ref q :: st) := by
  obtain ⟨t, ht, h2⟩ := ob hv
  by_cases hi : o + 64 ≤ q
  · rw [if_pos hi] at h2
    cases h2
    exact G_putF (k := 3) C hin fi_X8 hd tw_fl_X8_21 rfl (by decide) rfl rfl rfl (Nat.le_of_ble_eq_true rfl) (CB_T ht) (CB_pwr (.inl (t.1, t.2.1, t.2.2.1, some x)) (dT_s ht) hi) hp kk
  · rw [if_neg hi] at h2; cases h2
theorem P_pS0 {q : Nat} {x : Int32} {z' : CS} (C : Cx κ p s m args meth c cc nL RX7 ret) (hin : meth.name = "<init>") (hd : decode cc pc = .ok (.putfield 7, 3)) (hv : stS o z q x = some z') (hp : pc + 3 = pc') (kk : GG p l e R s m args below meth c Q (CA o) nL cells slots (CB κ o z') pc' lv st) : GG p l e R s m args below meth c Q (CA o) nL cells slots (CB κ o z) pc lv (.int x :: .ref q :: st) := by
  obtain ⟨t, ht, h2⟩ := ob hv
  by_cases hi : o + 64 ≤ q
  · rw [if_pos hi] at h2
    cases h2
    exact G_putF (k := 0) C hin fi_X7 hd tw_fl_X7_7 rfl (by decide) rfl rfl rfl (Nat.le_of_ble_eq_true rfl) (CB_S ht) (CB_pwr (.inr (.inr (.inl (x, t.2)))) (dS_s ht) hi) hp kk
  · rw [if_neg hi] at h2; cases h2
theorem P_pS1 {q : Nat} {x : Nat} {z' : CS} (C : Cx κ p s m args meth c cc nL RX7 ret) (hin : meth.name = "<init>") (hd : decode cc pc = .ok (.putfield 13, 3)) (hv : stSs o z q x = some z') (hp : pc + 3 = pc') (kk : GG p l e R s m args below meth c Q (CA o) nL cells slots (CB κ o z') pc' lv st) : GG p l e R s m args below meth c Q (CA o) nL cells slots (CB κ o z) pc lv (.ref x :: .ref q :: st) := by
  obtain ⟨t, ht, h2⟩ := ob hv
  by_cases hi : o + 64 ≤ q
  · rw [if_pos hi] at h2
    cases h2
    exact G_putF (k := 1) C hin fi_X7 hd tw_fl_X7_13 rfl (by decide) rfl rfl rfl (Nat.le_of_ble_eq_true rfl) (CB_S ht) (CB_pwr (.inr (.inr (.inl (t.1, some x)))) (dS_s ht) hi) hp kk
  · rw [if_neg hi] at h2; cases h2
theorem P_newT {index : Nat} {u : Nat × CS} (C : Cx κ p s m args meth c cc nL own ret) (hd : decode cc pc = .ok (.new index, 3)) (hcl : Cond.classLink own index RX8 ∈ gw) (hv : alT o z = some u) (hR : cells + 1 ≤ R.cells ∧ slots + 4 ≤ R.slots) (hp : pc + 3 = pc') (kk : GG p l e R s m args below meth c Q (CA o) nL (cells + 1) (slots + 4) (CB κ o u.2) pc' lv (.ref u.1 :: st)) : GG p l e R s m args below meth c Q (CA o) nL cells slots (CB κ o z) pc lv st := by
  unfold alT at hv
  by_cases hi : o + 64 ≤ cn z
  · rw [if_pos hi] at hv
    cases hv
    exact G_new C fi_X8 hd hcl tw_is_X8 tw_in_X8 (fun j hj => by rcases (show j = 0 ∨ j = 1 ∨ j = 2 ∨ j = 3 by omega) with rfl | rfl | rfl | rfl <;> rfl) hR.1 hR.2 (CB_new (.inl (0, 0, 0, none)) hi) hp kk
  · rw [if_neg hi] at hv; cases hv
theorem P_newS {index : Nat} {u : Nat × CS} (C : Cx κ p s m args meth c cc nL own ret) (hd : decode cc pc = .ok (.new index, 3)) (hcl : Cond.classLink own index RX7 ∈ gw) (hv : alS o z = some u) (hR : cells + 1 ≤ R.cells ∧ slots + 2 ≤ R.slots) (hp : pc + 3 = pc') (kk : GG p l e R s m args below meth c Q (CA o) nL (cells + 1) (slots + 2) (CB κ o u.2) pc' lv (.ref u.1 :: st)) : GG p l e R s m args below meth c Q (CA o) nL cells slots (CB κ o z) pc lv st := by
  unfold alS at hv
  by_cases hi : o + 64 ≤ cn z
  · rw [if_pos hi] at hv
    cases hv
    exact G_new C fi_X7 hd hcl tw_is_X7 tw_in_X7 (fun j hj => by rcases (show j = 0 ∨ j = 1 by omega) with rfl | rfl <;> rfl) hR.1 hR.2 (CB_new (.inr (.inr (.inl (0, none)))) hi) hp kk
  · rw [if_neg hi] at hv; cases hv
theorem P_newB {x : Int32} {u : Nat × CS} (C : Cx κ p s m args meth c cc nL own ret) (hd : decode cc pc = .ok (.newarray .byte, 2)) (hv : alB o z x = some u) (hR : cells + 1 ≤ R.cells ∧ slots + 256 ≤ R.slots) (hp : pc + 2 = pc') (kk : GG p l e R s m args below meth c Q (CA o) nL (cells + 1) (slots + 256) (CB κ o u.2) pc' lv (.ref u.1 :: st)) : GG p l e R s m args below meth c Q (CA o) nL cells slots (CB κ o z) pc lv (.int x :: st) := by
  unfold alB at hv
  by_cases hi : o + 64 ≤ cn z ∧ lok x = true
  · rw [if_pos hi] at hv
    cases hv
    obtain ⟨h1, h2⟩ := lok_s hi.2
    refine G_newa (kn := 2) (ty := .byte) (a0 := (x.toNatClampNeg, .inl (fun _ => 0))) C hd tw_ac_byte rfl rfl (fun _ h => by cases h) (fun cA => rfl) h1 rfl ?_ hR.1 (by omega) (CB_new (.inr (.inl (x.toNatClampNeg, fun _ => 0))) hi.1) hp (G_widen (Nat.le_refl _) (by omega) kk)
    have h3 : componentBytes .byte ≤ 8 := by decide
    exact Nat.le_trans (Nat.mul_le_mul h2 h3) (by decide)
  · rw [if_neg hi] at hv; cases hv
theorem P_newL {x : Int32} {u : Nat × CS} (C : Cx κ p s m args meth c cc nL own ret) (hd : decode cc pc = .ok (.newarray .long, 2)) (hv : alL o z x = some u) (hR : cells + 1 ≤ R.cells ∧ slots + 256 ≤ R.slots) (hp : pc + 2 = pc') (kk : GG p l e R s m args below meth c Q (CA o) nL (cells + 1) (slots + 256) (CB κ o u.2) pc' lv (.ref u.1 :: st)) : GG p l e R s m args below meth c Q (CA o) nL cells slots (CB κ o z) pc lv (.int x :: st) := by
  unfold alL at hv
  by_cases hi : o + 64 ≤ cn z ∧ lok x = true
  · rw [if_pos hi] at hv
    cases hv
    obtain ⟨h1, h2⟩ := lok_s hi.2
    refine G_newa (kn := 1) (ty := .long) (a0 := (x.toNatClampNeg, .inr (.inl (fun _ => 0)))) C hd tw_ac_long rfl rfl (fun _ h => by cases h) (fun cA => rfl) h1 rfl ?_ hR.1 (by omega) (CB_new (.inr (.inr (.inr (x.toNatClampNeg, fun _ => 0)))) hi.1) hp (G_widen (Nat.le_refl _) (by omega) kk)
    have h3 : componentBytes .long ≤ 8 := by decide
    exact Nat.le_trans (Nat.mul_le_mul h2 h3) (by decide)
  · rw [if_neg hi] at hv; cases hv
/-- a constructor's call within the class's world -/
theorem G_cI {y : MethodName} {bytes : ByteArray} {maxL n index b : Nat} {rm : Room} {As rest st0 : List Value} {B' : Heap → Prop} (C : Cx κ p s m args meth c cc nL own ret) (hd : decode cc pc = .ok (.invokespecial index, 3))
    (hM : MM κ l y bytes maxL none rm A (.ref b :: As) B none B') (hw : Cond.methodLink own index y ∈ gw ∧ Cond.instanceMethod y ∈ gw ∧ Cond.code y bytes maxL none ∈ gw ∧ Cond.initialized y.cls ∈ gw) (hy1 : y.name = "<init>") (hy : y.cls ≠ "java/lang/invoke/MethodHandle" ∧ y.cls ≠ "java/lang/invoke/VarHandle" ∧ (parseMethodDescriptor y.desc).map (fun d => d.parameters.length) = some n) (hn : As.length = n)
    (hR : (rm.frames + 1 ≤ R.frames ∧ 8 + (maxL + 11) + rm.locals ≤ R.locals) ∧ cells + rm.cells ≤ R.cells ∧ slots + rm.slots ≤ R.slots) (hs0 : st0 = As.reverse ++ .ref b :: rest) (hrest : (rest.map fun v => v.category).sum ≤ 8) (hp : pc + 3 = pc') (kk : GG p l e R s m args below meth c Q A nL (cells + rm.cells) (slots + rm.slots) B' pc' lv rest) : GG p l e R s m args below meth c Q A nL cells slots B pc lv st0 :=
  G_callI (F := fun _ => True) C hd hM hw hy1 hy hn hR (fun _ h => h) (fun _ h => ⟨h, trivial⟩) (fun _ _ _ _ _ _ => trivial) hs0 hrest hp (G_world (fun _ h => h.1) kk)
def cpL (o : Nat) (z : CS) (q0 : Nat) (sp : Int32) (q : Nat) (dp n : Int32) : Option CS := (dL z q0).bind fun b0 => (dL z q).bind fun b1 => if (0 ≤ sp.toInt ∧ 0 ≤ dp.toInt ∧ 0 ≤ n.toInt) ∧ sp.toNatClampNeg + n.toNatClampNeg ≤ b0.1 ∧ dp.toNatClampNeg + n.toNatClampNeg ≤ b1.1 ∧ o + 64 ≤ q then some (cD z q (.inr (.inr (.inr (b1.1, va_cpy b0.2 b1.2 sp.toNatClampNeg dp.toNatClampNeg n.toNatClampNeg))))) else none
theorem nn0 {x : Int32} (h : 0 ≤ x.toInt) : ¬ x < 0 := fun q => by
  have := Int32.lt_iff_toInt_lt.mp q
  simp at this
  omega
theorem P_copyL {q0 q index : Nat} {sp dp n : Int32} {z' : CS} (C : Cx κ p s m args meth c cc nL own ret) (hd : decode cc pc = .ok (.invokestatic index, 3)) (hw : Cond.methodLink own index arraycopyName ∈ gw) (hv : cpL o z q0 sp q dp n = some z') (hR : 1 ≤ R.frames ∧ (st.map fun v => v.category).sum + (nativeFrameWords "java/lang/System" "arraycopy" 5 + 11) ≤ R.locals) (hp : pc + 3 = pc') (kk : GG p l e R s m args below meth c Q (CA o) nL cells slots (CB κ o z') pc' lv st) : GG p l e R s m args below meth c Q (CA o) nL cells slots (CB κ o z) pc lv (.int n :: .int dp :: .ref q :: .int sp :: .ref q0 :: st) := by
  subst hp
  obtain ⟨b0, hb0, hv⟩ := ob hv
  obtain ⟨b1, hb1, hv⟩ := ob hv
  obtain ⟨n0, f0⟩ := b0
  obtain ⟨n1, f1⟩ := b1
  by_cases hi : (0 ≤ sp.toInt ∧ 0 ≤ dp.toInt ∧ 0 ≤ n.toInt) ∧ sp.toNatClampNeg + n.toNatClampNeg ≤ n0 ∧ dp.toNatClampNeg + n.toNatClampNeg ≤ n1 ∧ o + 64 ≤ q
  · rw [if_pos hi] at hv
    cases hv
    obtain ⟨⟨i1, i2, i3⟩, h4, h5, h6⟩ := hi
    intro H locs ls hl hB hS
    have hK := C.2.2.2.2.2.1.1
    have hts := C.2.2.2.2.1
    have nn : ∀ x : Int32, 0 ≤ x.toInt → x.toInt = (x.toNatClampNeg : Int) := fun x hx => by
      show x.toInt = ((x.toInt.toNat : Nat) : Int)
      omega
    intro T hT X
    have hc0 : H[q0]? = some (vp_cell (κ.2 1) (n0, .inr (.inl f0))) := CB_Ll hb0 H hB
    have hc1 : H[q]? = some (vp_cell (κ.2 1) (n1, .inr (.inl f1))) := CB_Ll hb1 H hB
    obtain ⟨-, k0, hk0, cm0, hkk0⟩ := (hK.2 1 _ rfl).1 n0 (fun j => .long (f0 j))
    obtain ⟨vm', X', step⟩ := X.arraycopy C.1 C.2.2.2.1 (hts _ hw) (hts _ tw_na_java_lang_Systemarraycopy) (hts _ tw_st_java_lang_Systemarraycopy) (hts _ tw_in_J10) (src := q0) (dst := q) (cs := vp_cell (κ.2 1) (n0, .inr (.inl f0))) (cd := vp_cell (κ.2 1) (n1, .inr (.inl f1))) (srcPos := sp) (destPos := dp) (n := n) (by rw [hT]; exact hc0) (by rw [hT]; exact hc1)
      (fun _ h => by cases h) (fun _ h => by cases h) (fun h => by cases h) (fun h => by cases h) hk0 hk0 hkk0 hkk0 (by simp [refKind]) (nn0 i1) (nn0 i2) (nn0 i3)
      (by rw [nn sp i1, nn n i3]; show ¬ _ > ((arrV (κ.2 1) n0 (fun j => .long (f0 j))).slots.size : Int); rw [arrV_size]; omega)
      (by rw [nn dp i2, nn n i3]; show ¬ _ > ((arrV (κ.2 1) n1 (fun j => .long (f1 j))).slots.size : Int); rw [arrV_size]; omega)
      (fun vm₁ _ i hi => by
        have e : (vp_cell (κ.2 1) (n0, .inr (.inl f0))).slots.getD (sp.toNatClampNeg + i) .null = .long (f0 (sp.toNatClampNeg + i)) := by
          show (arrV (κ.2 1) n0 (fun j => .long (f0 j))).slots.getD _ _ = _
          rw [Array.getD_eq_getD_getElem?, arrV_read _ _ (by omega)]
          rfl
        refine ⟨?_, ?_⟩
        · rw [e]; rfl
        · rw [e]; exact trivial)
      (g := F0 m pc ls (.int n :: .int dp :: .ref q :: .int sp :: .ref q0 :: st)) rfl (by rw [C.2.2.1]; exact hl.1) (rest := st) rfl (by rw [C.2.1]; exact hd) hR.1 (by show 2 * 0 + _ + _ ≤ _; omega)
    have e1 : copied (vp_cell (κ.2 1) (n0, .inr (.inl f0))) (vp_cell (κ.2 1) (n1, .inr (.inl f1))) sp dp n = vp_cell (κ.2 1) (n1, .inr (.inl (va_cpy f0 f1 sp.toNatClampNeg dp.toNatClampNeg n.toNatClampNeg))) := va_copied (fun x => .long x) (κ.2 1) (κ.2 1) f0 f1 h4
    rw [e1] at X' step
    have hl1 : q < H.size := (Array.getElem?_eq_some_iff.mp hc1).1
    have hheap : ((T.setVm vm').setCell q (vp_cell (κ.2 1) (n1, .inr (.inl (va_cpy f0 f1 sp.toNatClampNeg dp.toNatClampNeg n.toNatClampNeg))))).heap = H.setIfInBounds q (vp_cell (κ.2 1) (n1, .inr (.inl (va_cpy f0 f1 sp.toNatClampNeg dp.toNatClampNeg n.toNatClampNeg)))) := by rw [← hT]; rfl
    have oq : ∀ w : Nat, w ≠ q → (H.setIfInBounds q (vp_cell (κ.2 1) (n1, .inr (.inl (va_cpy f0 f1 sp.toNatClampNeg dp.toNatClampNeg n.toNatClampNeg)))))[w]? = H[w]? := fun w hw => by simp [Array.getElem?_setIfInBounds, Ne.symm hw]
    have hwr := CB_pwr (κ := κ) (o := o) (.inr (.inr (.inr (n1, va_cpy f0 f1 sp.toNatClampNeg dp.toNatClampNeg n.toNatClampNeg)))) (dL_s hb1) h6
    obtain ⟨t, a1, b2⟩ := kk _ _ ls hl (hwr.2 H _ hB oq (by simp) (show (H.setIfInBounds q _)[q]? = some _ by simp [Array.getElem?_setIfInBounds, hl1])) ⟨by simp; exact hS.1, fun w g1 g2 => by
        rw [oq w (fun e => g2 (by rw [e]; exact hwr.1))]
        exact hS.2.1 w g1 g2, fun w hw => by
        rcases List.mem_append.mp hw with h | h
        · exact hS.2.2 w h
        · obtain ⟨x, -, hx⟩ := List.mem_map.mp h
          rw [← hx]
          exact hwr.1⟩ _ hheap X'
    exact ⟨t, step t a1, b2⟩
  · rw [if_neg hi] at hv; cases hv
theorem alC_d {q : Nat} {u : Nat × CS} (h : alC o z q = some u) : ∃ b, dB u.2 u.1 = some b := by
  obtain ⟨b, hb, h⟩ := ob h
  split at h
  · cases h
    exact ⟨b, by simp [dB, cNw, cpl]⟩
  · cases h
theorem P_clone {q index : Nat} {u : Nat × CS} (C : Cx κ p s m args meth c cc nL own ret) (hd : decode cc pc = .ok (.invokevirtual index, 3)) (hw : Cond.methodLink own index ⟨"[B", "clone", "()Ljava/lang/Object;"⟩ ∈ gw) (hv : alC o z q = some u) (hR : (1 ≤ R.frames ∧ (st.map fun v => v.category).sum + 14 ≤ R.locals) ∧ cells + 1 ≤ R.cells ∧ slots + 256 ≤ R.slots) (hp : pc + 3 = pc') (kk : GG p l e R s m args below meth c Q (CA o) nL (cells + 1) (slots + 256) (CB κ o u.2) pc' lv (.ref u.1 :: st)) : GG p l e R s m args below meth c Q (CA o) nL cells slots (CB κ o z) pc lv (.ref q :: st) := by
  subst hp
  obtain ⟨b, hb, hv⟩ := ob hv
  by_cases hi : o + 64 ≤ cn z ∧ b.1 ≤ 256 ∧ ∀ j, j < b.1 → fits .byte (.int (b.2 j)) = true
  · rw [if_pos hi] at hv
    cases hv
    obtain ⟨n, f⟩ := b
    intro H locs ls hl hB hS
    have hK := C.2.2.2.2.2.1.1
    have hts := C.2.2.2.2.1
    have hnm : s.vm.findClass "[B" = some (κ.2 2) := (hK.2 2 _ rfl).2
    obtain ⟨c0, t0', f1, f2, f3⟩ := Cond.castable_spec (va_Nw.use (A := args) rfl C.2.2.2.2.2.1.2.2.2.1)
    cases hnm.symm.trans f1
    intro T hT X
    have hcell : H[q]? = some (vp_cell (κ.2 2) (n, .inl f)) := CB_Bb hb H hB
    have hcellT : T.heap[q]? = some (vp_cell (κ.2 2) (n, .inl f)) := by rw [hT]; exact hcell
    have hsz : (vp_cell (κ.2 2) (n, .inl f)).slots.size = n := arrV_size _ _ _
    obtain ⟨-, kA, hkA, comp, hkind⟩ := State.isArrayOf_alike X.warmed.alike ((hK.2 2 _ rfl).1 0 (fun _ => .null))
    obtain ⟨-, kS, hkS, compS, hkindS⟩ := (hK.2 2 _ rfl).1 0 (fun _ => .null)
    obtain ⟨vm', X', step⟩ := X.cloneArray C.1 C.2.2.2.1 (hts _ hw) (hts _ tw_sm_clone) (hts _ tw_na_java_lang_Objectclone) (hts _ tw_im_java_lang_Objectclone) (hts _ tw_se__B_java_lang_Objectclone) (a := q) (cell := vp_cell (κ.2 2) (n, .inl f)) hcellT (fun k h => by cases h) (fun h => by cases h) hnm f2 f3
      (fun i v hv => by
        have hk' : T.vm.classes[κ.2 2]? = some kA := hkA
        have hil : i < n := by rw [← hsz]; exact (Array.getElem?_eq_some_iff.mp hv).1
        have hv2 : v = .int (f i) := by
          have := arrV_read (κ.2 2) (fun j => Value.int (f j)) hil
          exact (Option.some.inj (this.symm.trans hv)).symm
        show T.fitsSlot (κ.2 2) .none i v = true
        simpa [State.fitsSlot, State.slotType?, hk', hkind, hv2] using hi.2.2 i hil)
      (g := F0 m pc ls (.ref q :: st)) rfl (by rw [C.2.2.1]; exact hl.1) rfl (by rw [C.2.1]; exact hd) hR.1.1 (by show 2 * 0 + _ + 14 ≤ _; omega) hR.2.1 (by rw [hsz]; have := hi.2.1; omega) (hloader := Vm.clonesLoader_of_array hkS hkindS)
    have hcellE : ({ cls := (vp_cell (κ.2 2) (n, .inl f)).cls, slots := (vp_cell (κ.2 2) (n, .inl f)).slots } : Cell) = vp_cell (κ.2 2) (n, .inl f) := rfl
    rw [hcellE, hsz] at X'
    have hn1 : H.size = cn z := hB.2.2.1
    generalize hH1 : H.push (vp_cell (κ.2 2) (n, .inl f)) = H1
    have z1 : H1.size = H.size + 1 := by rw [← hH1, Array.size_push]
    have e1 : H1[H.size]? = some (vp_cell (κ.2 2) (n, .inl f)) := by rw [← hH1, Array.getElem?_push_size]
    have o1 : ∀ w : Nat, w < H.size → H1[w]? = H[w]? := fun w hw => by rw [← hH1, Array.getElem?_push, if_neg (Nat.ne_of_lt hw)]
    have hnw := CB_new (κ := κ) (o := o) (c := z) (.inr (.inl (n, f))) hi.1
    have hsl : slots + n ≤ slots + 256 := by have := hi.2.1; omega
    obtain ⟨t, b1, b2⟩ := (G_widen (k := cells + 1) (n := slots + 256) (Nat.le_refl _) hsl kk) H1 locs ls hl (hnw.2.2 H H1 hB (fun w hw => o1 w (by rw [hn1]; exact hw)) (by rw [z1, hn1]) (by show H1[cn z]? = _; rw [← hn1]; exact e1)) (hS.nw z1 o1) ((T.setVm vm').pushCell (vp_cell (κ.2 2) (n, .inl f))) (by rw [← hH1, ← hT]; rfl) X'
    refine ⟨t, step t ?_, b2⟩
    rw [hcellE, hT, hn1]
    exact b1
  · rw [if_neg hi] at hv; cases hv
theorem P_castB {q index : Nat} (C : Cx κ p s m args meth c cc nL own ret) (hd : decode cc pc = .ok (.checkcast index, 3)) (hw : Cond.classLink own index "[B" ∈ gw) (hv : ∃ b, dB z q = some b) (hp : pc + 3 = pc') (kk : GG p l e R s m args below meth c Q (CA o) nL cells slots (CB κ o z) pc' lv (.ref q :: st)) : GG p l e R s m args below meth c Q (CA o) nL cells slots (CB κ o z) pc lv (.ref q :: st) := by
  subst hp
  obtain ⟨b, hb⟩ := hv
  exact fun H locs ls hl hB hS => va_castA (D := κ.1) (cl := vwCl) C.1 C.2.1 C.2.2.2.1 (C.2.2.2.2.1 _ hw) ((CB_Bb hb).P hB) 0 rfl (C.2.2.2.2.2.1.1.2 2 _ rfl).2 hd (kk H locs ls hl hB hS)
abbrev GC (κ : KK) (p : Program) (l : Launch) (e : Env) (s : State) (m : MethodId) (args : Array Value) (below : List Frame) (meth : Method) (c : Code) (rm : Room) (nL o : Nat) (v : Option Value) (B' : Heap → Prop) (cells slots : Nat) (z : CS) (pc : Nat) (lv : List (Nat × Value)) (st : List Value) : Prop := GG p l e rm s m args below meth c (MQ below (Qg (CA o) v B') args s rm.cells rm.slots (CA o)) (CA o) nL cells slots (CB κ o z) pc lv st
end CROWS
theorem z_out0_2 {x : Int32} (h0 : ¬ x = 0) (h1 : ¬ x = 1) (h2 : ¬ x = 2) : x.toInt < 0 ∨ (2 : Int) < x.toInt := by
  rcases Int.lt_or_le x.toInt 0 with h | h
  · exact Or.inl h
  · refine Or.inr (Int.not_le.mp fun q => ?_)
    have hx : ∀ k : Int32, k.toInt = x.toInt → x = k := fun k hk => (Int32.toInt_inj.mp hk).symm
    rcases (show x.toInt = 0 ∨ x.toInt = 1 ∨ x.toInt = 2 by omega) with e | e | e
    · exact h0 (hx 0 (by rw [e]; decide))
    · exact h1 (hx 1 (by rw [e]; decide))
    · exact h2 (hx 2 (by rw [e]; decide))
theorem z_out0_3 {x : Int32} (h0 : ¬ x = 0) (h1 : ¬ x = 1) (h2 : ¬ x = 2) (h3 : ¬ x = 3) : x.toInt < 0 ∨ (3 : Int) < x.toInt := by
  rcases Int.lt_or_le x.toInt 0 with h | h
  · exact Or.inl h
  · refine Or.inr (Int.not_le.mp fun q => ?_)
    have hx : ∀ k : Int32, k.toInt = x.toInt → x = k := fun k hk => (Int32.toInt_inj.mp hk).symm
    rcases (show x.toInt = 0 ∨ x.toInt = 1 ∨ x.toInt = 2 ∨ x.toInt = 3 by omega) with e | e | e | e
    · exact h0 (hx 0 (by rw [e]; decide))
    · exact h1 (hx 1 (by rw [e]; decide))
    · exact h2 (hx 2 (by rw [e]; decide))
    · exact h3 (hx 3 (by rw [e]; decide))
theorem z_out0_4 {x : Int32} (h0 : ¬ x = 0) (h1 : ¬ x = 1) (h2 : ¬ x = 2) (h3 : ¬ x = 3) (h4 : ¬ x = 4) : x.toInt < 0 ∨ (4 : Int) < x.toInt := by
  rcases Int.lt_or_le x.toInt 0 with h | h
  · exact Or.inl h
  · refine Or.inr (Int.not_le.mp fun q => ?_)
    have hx : ∀ k : Int32, k.toInt = x.toInt → x = k := fun k hk => (Int32.toInt_inj.mp hk).symm
    rcases (show x.toInt = 0 ∨ x.toInt = 1 ∨ x.toInt = 2 ∨ x.toInt = 3 ∨ x.toInt = 4 by omega) with e | e | e | e | e
    · exact h0 (hx 0 (by rw [e]; decide))
    · exact h1 (hx 1 (by rw [e]; decide))
    · exact h2 (hx 2 (by rw [e]; decide))
    · exact h3 (hx 3 (by rw [e]; decide))
    · exact h4 (hx 4 (by rw [e]; decide))
theorem z_out1_4 {x : Int32} (h1 : ¬ x = 1) (h2 : ¬ x = 2) (h3 : ¬ x = 3) (h4 : ¬ x = 4) : x.toInt < 1 ∨ (4 : Int) < x.toInt := by
  rcases Int.lt_or_le x.toInt 1 with h | h
  · exact Or.inl h
  · refine Or.inr (Int.not_le.mp fun q => ?_)
    have hx : ∀ k : Int32, k.toInt = x.toInt → x = k := fun k hk => (Int32.toInt_inj.mp hk).symm
    rcases (show x.toInt = 1 ∨ x.toInt = 2 ∨ x.toInt = 3 ∨ x.toInt = 4 by omega) with e | e | e | e
    · exact h1 (hx 1 (by rw [e]; decide))
    · exact h2 (hx 2 (by rw [e]; decide))
    · exact h3 (hx 3 (by rw [e]; decide))
    · exact h4 (hx 4 (by rw [e]; decide))
section MROWS
variable {κ : KK} {p : Program} {l : Launch} {e : Env} {R : Room} {s : State} {m : MethodId} {args : Array Value} {below : List Frame} {meth : Method} {c : Code} {Q : State → Prop} {A : Nat → Prop} {nL cells slots : Nat} {B : Heap → Prop} {pc pc' : Nat} {lv : List (Nat × Value)} {st : List Value} {cc : ByteArray} {own : String} {ret : Option FieldType}
theorem G_mmax {index : Nat} {x y : Int32} (C : Cx κ p s m args meth c cc nL own ret) (hd : decode cc pc = .ok (.invokestatic index, 3)) (hw : Cond.methodLink own index yJ9_max_7cf53 ∈ gw) (hR : (1 ≤ R.frames ∧ (st.map fun v => v.category).sum + 13 ≤ R.locals) ∧ cells ≤ R.cells ∧ slots ≤ R.slots) (hp : pc + 3 = pc') (kk : GG p l e R s m args below meth c Q A nL cells slots B pc' lv (.int (if x < y then y else x) :: st)) : GG p l e R s m args below meth c Q A nL cells slots B pc lv (.int y :: .int x :: st) := by
  subst hp
  exact fun H locs ls hl hB hS => va_mmax C.1 C.2.1 (by rw [C.2.2.1]; exact hl.1.symm) C.2.2.2.1 (C.2.2.2.2.1 _ hw) (C.2.2.2.2.1 _ tw_st_J9_max_7cf53) (C.2.2.2.2.1 _ tw_in_J9) (C.2.2.2.2.1 _ tw_co_J9_max_7cf53) hR.1.1 hR.1.2 hR.2.1 hR.2.2 hd (kk H locs ls hl hB hS)
theorem G_mmin {index : Nat} {x y : Int32} (C : Cx κ p s m args meth c cc nL own ret) (hd : decode cc pc = .ok (.invokestatic index, 3)) (hw : Cond.methodLink own index yJ9_min_7cf53 ∈ gw) (hR : (1 ≤ R.frames ∧ (st.map fun v => v.category).sum + 13 ≤ R.locals) ∧ cells ≤ R.cells ∧ slots ≤ R.slots) (hp : pc + 3 = pc') (kk : GG p l e R s m args below meth c Q A nL cells slots B pc' lv (.int (if y < x then y else x) :: st)) : GG p l e R s m args below meth c Q A nL cells slots B pc lv (.int y :: .int x :: st) := by
  subst hp
  exact fun H locs ls hl hB hS => va_mmin C.1 C.2.1 (by rw [C.2.2.1]; exact hl.1.symm) C.2.2.2.1 (C.2.2.2.2.1 _ hw) (C.2.2.2.2.1 _ tw_st_J9_min_7cf53) (C.2.2.2.2.1 _ tw_in_J9) (C.2.2.2.2.1 _ tw_co_J9_min_7cf53) hR.1.1 hR.1.2 hR.2.1 hR.2.2 hd (kk H locs ls hl hB hS)
end MROWS
