/-! ===== bits ===== -/
theorem nI_and (a b : Nat) : nI a &&& nI b = nI (a &&& b) := by
  apply Int32.toBitVec_inj.mp
  show BitVec.ofNat 32 a &&& BitVec.ofNat 32 b = BitVec.ofNat 32 (a &&& b)
  exact BitVec.ofNat_and.symm
theorem nI_or (a b : Nat) : nI a ||| nI b = nI (a ||| b) := by
  apply Int32.toBitVec_inj.mp
  show BitVec.ofNat 32 a ||| BitVec.ofNat 32 b = BitVec.ofNat 32 (a ||| b)
  exact BitVec.ofNat_or.symm
theorem nI_xor (a b : Nat) : nI a ^^^ nI b = nI (a ^^^ b) := by
  apply Int32.toBitVec_inj.mp
  show BitVec.ofNat 32 a ^^^ BitVec.ofNat 32 b = BitVec.ofNat 32 (a ^^^ b)
  exact BitVec.ofNat_xor.symm
theorem k31 : ∀ k, k < 32 → ((nI k &&& nI 31).toBitVec.smod 32).toNat = k := by decide
theorem k31' : ∀ k, k < 32 → ((nI k &&& 31).toBitVec.smod 32).toNat = k := by decide
/-- a shift to the right -/
theorem shrN {x k : Nat} (hx : x < 2 ^ 31) (hk : k < 32) : nI x >>> (nI k &&& nI 31) = nI (x / 2 ^ k) := pk_shrN hx _ _ (k31 k hk)
theorem shrN' {x k : Nat} (hx : x < 2 ^ 31) (hk : k < 32) : nI x >>> (nI k &&& 31) = nI (x / 2 ^ k) := pk_shrN hx _ _ (k31' k hk)
theorem and1 {x : Nat} (hx : x < 2 ^ 31) : nI x &&& nI 1 = nI (x % 2) := pk_andN (Nat.lt_trans hx (by omega)) 1 rfl
theorem dlt {x k N : Nat} (hx : x < N) : x / 2 ^ k < N := Nat.lt_of_le_of_lt (Nat.div_le_self _ _) hx
/-- the bit k of x -/
theorem bitN {x k : Nat} (hx : x < 2 ^ 31) (hk : k < 32) : (nI x >>> (nI k &&& nI 31)) &&& nI 1 = nI (x / 2 ^ k % 2) := by
  rw [shrN hx hk, and1 (dlt hx)]
theorem shlN {x k : Nat} (hk : k < 32) (h : x * 2 ^ k < 2 ^ 32) : nI x <<< (nI k &&& nI 31) = nI (x * 2 ^ k) := pk_shlN _ _ (k31 k hk) h
theorem shl1' : ∀ n, n < 9 → nI 1 <<< (nI n &&& nI 31) = nI (2 ^ n) := by decide
def pop (x : Nat) : Nat := x % 2 + x / 2 % 2 + x / 4 % 2 + x / 8 % 2 + x / 16 % 2 + x / 32 % 2 + x / 64 % 2 + x / 128 % 2
theorem pop_le (x : Nat) : pop x ≤ 8 := by unfold pop; omega
theorem bitC : ∀ x, x < 256 → fJ6_bitCount_0f7a4 (nI x) = some (nI (pop x)) := by decide +kernel
def pop9 (x : Nat) : Nat → Nat
  | 0 => 0
  | k + 1 => pop9 x k + x / 2 ^ k % 2
theorem pop9_le (x k : Nat) : pop9 x k ≤ k := by
  induction k with
  | zero => exact Nat.le_refl _
  | succ k ih => unfold pop9; omega
theorem pop9_p {x : Nat} (h : x < 256) : pop9 x 9 = pop x := by
  unfold pop
  simp only [pop9, show (2 : Nat) ^ 0 = 1 from rfl, show (2 : Nat) ^ 1 = 2 from rfl, show (2 : Nat) ^ 2 = 4 from rfl, show (2 : Nat) ^ 3 = 8 from rfl, show (2 : Nat) ^ 4 = 16 from rfl, show (2 : Nat) ^ 5 = 32 from rfl, show (2 : Nat) ^ 6 = 64 from rfl, show (2 : Nat) ^ 7 = 128 from rfl, show (2 : Nat) ^ 8 = 256 from rfl, Nat.div_one]
  omega
theorem lp_det {S E : Type} {body : S → Option (S ⊕ E)} (F : Nat → S) (N : Nat) {e : E} (hN : N < bigN) (step : ∀ i, i < N → body (F i) = some (.inl (F (i + 1)))) (last : body (F N) = some (.inr e)) : lpN body bigN (F 0) = some e := by
  obtain ⟨e', h1, h2⟩ := lp_count (fun i s => s = F i) N (fun x => x = e) hN (fun i s hi hs => ⟨F (i + 1), by rw [hs]; exact step i hi, rfl⟩) (fun s hs => ⟨e, by rw [hs]; exact last, rfl⟩) (s := F 0) rfl
  rw [h1, h2]
theorem ones_n {x : Nat} (h : x < 256) : fX10_ones (nI x) = some (nI (pop x)) := by
  have key : lpN (fun u => fX10_ones_L4 (nI x) u.1 u.2) bigN (nI 0, nI 0) = some (nI (pop9 x 9)) := by
    refine lp_det (body := fun u => fX10_ones_L4 (nI x) u.1 u.2) (fun i => (nI (pop9 x i), nI i)) 9 (e := nI (pop9 x 9)) (bigN_gt (by omega)) (fun i hi => ?_) ?_
    · unfold fX10_ones_L4
      simp (disch := omega) only [bitN (show x < 2 ^ 31 by omega) (show i < 32 by omega), Option.bind_some, aI_n, aL_n, aQ_n, sA_n, sL_n, csA_n, i_0, i_1, i_2, i_3, i_4, i_5, i_6, i_7, i_8, i_9, i_10, i_11, i_12, i_13, i_16, i_20, i_21, i_22, i_31, i_99, i_100, i_256, i_1000, nI_eq, nI_leI, nI_ltI, nI_add, pk_mul, ↓reduceIte, nt_le, nf_le, nt_lt, nf_lt, nt_eq, nf_eq, meet_N', meet_P', meet_S', meet_Z', meet_B', meet_O', n_1, n_2, n_3, n_4, n_5, n_10, n_11]
      rfl
    · unfold fX10_ones_L4
      simp (disch := omega) only [Option.bind_some, aI_n, aL_n, aQ_n, sA_n, sL_n, csA_n, i_0, i_1, i_2, i_3, i_4, i_5, i_6, i_7, i_8, i_9, i_10, i_11, i_12, i_13, i_16, i_20, i_21, i_22, i_31, i_99, i_100, i_256, i_1000, nI_eq, nI_leI, nI_ltI, nI_add, pk_mul, ↓reduceIte, nt_le, nf_le, nt_lt, nf_lt, nt_eq, nf_eq, meet_N', meet_P', meet_S', meet_Z', meet_B', meet_O', n_1, n_2, n_3, n_4, n_5, n_10, n_11]
  unfold fX10_ones
  refine (congrArg (fun u => u.bind fun e1 => some e1) key).trans ?_
  rw [pop9_p h]
  rfl
def allB (p : Nat → Bool) : Nat → Bool
  | 0 => true
  | k + 1 => p k && allB p k
theorem allB_s {p : Nat → Bool} : ∀ {n : Nat}, allB p n = true → ∀ k, k < n → p k = true
  | 0, _, k, h => by omega
  | n + 1, q, k, h => by
    have q' : (p n && allB p n) = true := q
    rw [Bool.and_eq_true] at q'
    by_cases e : k = n
    · rw [e]; exact q'.1
    · exact allB_s q'.2 k (by omega)
theorem fall_ck : allB (fun x => allB (fun y => !(Nat.beq (Nat.land x y) x) || !(Nat.beq (pop y) (pop x + 1)) || (Nat.beq y (x + 2 ^ (Nat.log2 (y - x))) && Nat.beq (x / 2 ^ (Nat.log2 (y - x)) % 2) 0 && Nat.ble (Nat.log2 (y - x)) 7)) 256) 256 = true := by decide +kernel
theorem fall {x y : Nat} (hx : x < 256) (hy : y < 256) (h : x &&& y = x) (hp : pop y = pop x + 1) : ∃ i, i < 8 ∧ x / 2 ^ i % 2 = 0 ∧ y = x + 2 ^ i := by
  have := allB_s (allB_s fall_ck x hx) y hy
  simp only [Bool.or_eq_true, Bool.and_eq_true, Bool.not_eq_true'] at this
  rcases this with (q | q) | q
  · rw [show Nat.land x y = x from h] at q; simp at q
  · rw [hp] at q; simp at q
  · exact ⟨Nat.log2 (y - x), Nat.lt_succ_of_le (Nat.le_of_ble_eq_true q.2), Nat.eq_of_beq_eq_true q.1.2, Nat.eq_of_beq_eq_true q.1.1⟩
theorem fall2 : ∀ x, x < 256 → ∀ i, i < 8 → x / 2 ^ i % 2 = 0 → x + 2 ^ i < 256 ∧ x &&& (x + 2 ^ i) = x ∧ pop (x + 2 ^ i) = pop x + 1 ∧ x ||| 2 ^ i = x + 2 ^ i := by decide +kernel
theorem fall3 : ∀ x, x < 256 → ∀ i, i < 8 → x / 2 ^ i % 2 = 1 → x ||| 2 ^ i = x := by decide +kernel
/-! rows that are filled -/
theorem fillA {body : Int32 × RS → Option ((Int32 × RS) ⊕ RS)} {r0 : RS} {k base N : Nat} {v : Nat → Int32} (hN : N ≤ 1000000) (step : ∀ i rr, i < N → rr.1 = r0.1 → rr.2.2 = r0.2.2 → (∀ j, j ≠ k → rr.2.1 j = r0.2.1 j) → (∀ j, ¬ (base ≤ j ∧ j < base + i) → rr.2.1 k j = r0.2.1 k j) → (∀ x, x < i → rr.2.1 k (base + x) = v x) → body (nI i, rr) = some (.inl (nI (i + 1), rA rr k (base + i) (v i)))) (last : ∀ rr, rr.1 = r0.1 → rr.2.2 = r0.2.2 → (∀ j, j ≠ k → rr.2.1 j = r0.2.1 j) → body (nI N, rr) = some (.inr rr)) : ∃ e, lpN body bigN (nI 0, r0) = some e ∧ (e.1 = r0.1 ∧ e.2.2 = r0.2.2 ∧ (∀ j, j ≠ k → e.2.1 j = r0.2.1 j) ∧ (∀ x, x < N → e.2.1 k (base + x) = v x) ∧ ∀ j, ¬ (base ≤ j ∧ j < base + N) → e.2.1 k j = r0.2.1 k j) := by
  refine lp_count (fun i s => s.1 = nI i ∧ s.2.1 = r0.1 ∧ s.2.2.2 = r0.2.2 ∧ (∀ j, j ≠ k → s.2.2.1 j = r0.2.1 j) ∧ (∀ x, x < i → s.2.2.1 k (base + x) = v x) ∧ ∀ j, ¬ (base ≤ j ∧ j < base + i) → s.2.2.1 k j = r0.2.1 k j) N _ (bigN_gt (by omega)) (fun i s hi hs => ?_) (fun s hs => ?_) ⟨rfl, rfl, rfl, fun _ _ => rfl, fun x hx => by omega, fun _ _ => rfl⟩
  · obtain ⟨l, rr⟩ := s
    obtain ⟨rfl, s1, s2, s3, s4, s5⟩ := hs
    refine ⟨_, step i rr hi s1 s2 s3 s5 s4, rfl, s1, s2, fun j hj => ?_, fun x hx => ?_, fun j hj => ?_⟩
    · rw [← s3 j hj]; simp only [rA_A, if_neg hj]
    · simp only [rA_A, if_true]
      by_cases hxi : x = i
      · subst hxi; rw [pk_us]
      · rw [pk_un (by omega)]; exact s4 x (by omega)
    · simp only [rA_A, if_true]
      rw [pk_un (by omega)]; exact s5 j (by omega)
  · obtain ⟨l, rr⟩ := s
    obtain ⟨rfl, s1, s2, s3, s4, s5⟩ := hs
    exact ⟨rr, last rr s1 s2 s3, s1, s2, s3, s4, s5⟩
theorem fillB {body : Int32 × CS → Option ((Int32 × CS) ⊕ CS)} {z : CS} {m : Nat} {G : Nat → Nat} (hm : m ≤ 1000000) (step : ∀ i, i < m → body (nI i, zB z m G i) = some (.inl (nI (i + 1), zB z m G (i + 1)))) (last : body (nI m, zB z m G m) = some (.inr (zB z m G m))) : lpN body bigN (nI 0, zB z m G 0) = some (zB z m G m) := lp_det (fun i => (nI i, zB z m G i)) m (bigN_gt (by omega)) step last
