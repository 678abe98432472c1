/-! ===== letters: the table ===== -/
theorem ltA_ck : allB (fun f => allB (fun g => Nat.ble (LT (Nat.land f g)) (LT f + LT g) && Nat.ble (LT (Nat.lor f g)) (LT f + LT g)) 256) 256 = true := by decide +kernel
theorem ltA {f g : Nat} (hf : f < 256) (hg : g < 256) : LT (f &&& g) ≤ LT f + LT g ∧ LT (f ||| g) ≤ LT f + LT g := by
  have := allB_s (allB_s ltA_ck f hf) g hg
  simp only [Bool.and_eq_true] at this
  exact ⟨Nat.le_of_ble_eq_true this.1, Nat.le_of_ble_eq_true this.2⟩
theorem ltB : ∀ t, t < 256 → LT (255 - t) = LT t ∧ LT t ≤ 10 ∧ (0 < t → t < 255 → 1 ≤ LT t) := by decide +kernel
def W3n : Nat := 1061937118705752833722680286001099811474972806002704967838270139391831756944362636259512294800740761692670612417806975999695785875674508542069563936601397378731130239416424983803199340214124315263294333292349959764367834087038411001324386802418141312306653172374605769218006402857098681301978620459349989063676070868925418231861169540627303482188751258833496962031126743647797278550905819957332389906714141849349472857473521880523238266407047157706056609171452160045604979470099459315633733233924255438601951228531364565264109016401230161223085652017853110702865269748457932481726299053460801741644584747176189082930039226694550032194152391155170402125551373207953935287370928488708853499240448054385821955914524317057959815083480268304937754806580806619877902074793660740562863562440856465873258442427626824797817907031167457717296059123256060394249668703014923899469226840641249394798921015766032436533032898447366729037223595306163685673424031901296893800331419862943221637295732074912011556257681176709438686325930163040765087775135794738387565442723903187074730961751284157282919908848735348933031976489037798578725643170704199409986949429262684653572784155422398672821841648648960352653475004193404942518879504286780162048
theorem ltC_ck : allB (fun t => Nat.ble (LT t) 1 || (Nat.beq (LT (W3n / 65536 ^ t % 256) + LT (W3n / 65536 ^ t / 256 % 256)) (LT t) && Nat.ble 1 (LT (W3n / 65536 ^ t % 256)) && Nat.ble (2 * LT (W3n / 65536 ^ t % 256)) (LT t) && (Nat.beq (Nat.land (W3n / 65536 ^ t % 256) (W3n / 65536 ^ t / 256 % 256)) t || Nat.beq (Nat.land (W3n / 65536 ^ t % 256) (W3n / 65536 ^ t / 256 % 256)) (255 - t)))) 256 = true := by decide +kernel
theorem ltC {t : Nat} (ht : t < 256) (h2 : 2 ≤ LT t) : ∃ f g, f < 256 ∧ g < 256 ∧ LT f + LT g = LT t ∧ 1 ≤ LT f ∧ 2 * LT f ≤ LT t ∧ (f &&& g = t ∨ f &&& g = 255 - t) := by
  have := allB_s ltC_ck t ht
  simp only [Bool.or_eq_true, Bool.and_eq_true] at this
  rcases this with q | ⟨⟨⟨q1, q2⟩, q3⟩, q4⟩
  · have := Nat.le_of_ble_eq_true q; omega
  · refine ⟨W3n / 65536 ^ t % 256, W3n / 65536 ^ t / 256 % 256, Nat.mod_lt _ (by omega), Nat.mod_lt _ (by omega), Nat.eq_of_beq_eq_true q1, Nat.le_of_ble_eq_true q2, Nat.le_of_ble_eq_true q3, ?_⟩
    rcases q4 with a | a
    · exact Or.inl (Nat.eq_of_beq_eq_true a)
    · exact Or.inr (Nat.eq_of_beq_eq_true a)
/-! the tasks of n bits among those of three -/
def mulN (n : Nat) : Nat := if n = 1 then 85 else if n = 2 then 17 else 1
def Mn (n : Nat) : Nat := 2 ^ 2 ^ n - 1
def Ln (n t : Nat) : Nat := LT (t * mulN n)
def vrF (i : Nat) : Nat → Nat
  | 0 => 0
  | x + 1 => vrF i x + bt x i * 2 ^ x
def vr (n i : Nat) : Nat := vrF i (2 ^ n)
def LeF (n : Nat) : Prop := (∀ f, f < Mn n + 1 → ∀ g, g < Mn n + 1 → Ln n (f &&& g) ≤ Ln n f + Ln n g ∧ Ln n (f ||| g) ≤ Ln n f + Ln n g) ∧ (∀ t, t < Mn n + 1 → Ln n (Mn n - t) = Ln n t ∧ (0 < t → t < Mn n → 1 ≤ Ln n t)) ∧ (∀ t, t < Mn n + 1 → Ln n t = 1 → ∃ i, i < n ∧ (t = vr n i ∨ t = Mn n - vr n i)) ∧ (∀ t, t < Mn n + 1 → 2 ≤ Ln n t → ∃ f, f < Mn n + 1 ∧ ∃ g, g < Mn n + 1 ∧ Ln n f + Ln n g = Ln n t ∧ 1 ≤ Ln n f ∧ 2 * Ln n f ≤ Ln n t ∧ (f &&& g = t ∨ f &&& g = Mn n - t)) ∧ (∀ i, i < n → Ln n (vr n i) ≤ 1 ∧ 0 < vr n i ∧ vr n i < Mn n) ∧ Ln n 0 = 0 ∧ Ln n (Mn n) = 0
theorem LeF_1 : LeF 1 := ⟨by decide +kernel, by decide +kernel, by decide +kernel, by decide +kernel, by decide +kernel, by decide +kernel, by decide +kernel⟩
theorem LeF_2 : LeF 2 := ⟨by decide +kernel, by decide +kernel, by decide +kernel, by decide +kernel, by decide +kernel, by decide +kernel, by decide +kernel⟩
theorem LeF_3 : LeF 3 := by
  have e1 : Mn 3 = 255 := by decide
  have e2 : ∀ t, Ln 3 t = LT t := fun t => by
    show LT (t * 1) = LT t
    rw [Nat.mul_one]
  refine ⟨?_, ?_, ?_, ?_, by decide +kernel, by decide +kernel, by decide +kernel⟩
  · rw [e1]
    intro f hf g hg
    rw [e2, e2, e2, e2]
    exact ltA (by omega) (by omega)
  · rw [e1]
    intro t ht
    rw [e2, e2]
    have := ltB t (by omega)
    exact ⟨this.1, this.2.2⟩
  · decide +kernel
  · rw [e1]
    intro t ht h2
    rw [e2] at h2
    obtain ⟨f, g, a1, a2, a3, a4, a5, a6⟩ := ltC (by omega) h2
    refine ⟨f, by omega, g, by omega, ?_⟩
    rw [e2, e2, e2]
    exact ⟨a3, a4, a5, a6⟩
theorem LeF_ok {n : Nat} (h1 : 1 ≤ n) (h3 : n ≤ 3) : LeF n := by
  rcases (show n = 1 ∨ n = 2 ∨ n = 3 by omega) with rfl | rfl | rfl
  · exact LeF_1
  · exact LeF_2
  · exact LeF_3
theorem Mn_b {n : Nat} (h1 : 1 ≤ n) (h3 : n ≤ 3) : 3 ≤ Mn n ∧ Mn n ≤ 255 ∧ Mn n % 2 = 1 ∧ Mn n * mulN n = 255 := by
  rcases (show n = 1 ∨ n = 2 ∨ n = 3 by omega) with rfl | rfl | rfl <;> decide
theorem Mn_op {n : Nat} (h1 : 1 ≤ n) (h3 : n ≤ 3) {f g : Nat} (hf : f ≤ Mn n) (hg : g ≤ Mn n) : f &&& g ≤ Mn n ∧ f ||| g ≤ Mn n ∧ f &&& Mn n = f := by
  have hp : 0 < 2 ^ 2 ^ n := Nat.two_pow_pos _
  unfold Mn at hf hg ⊢
  have a : f ||| g < 2 ^ 2 ^ n := Nat.or_lt_two_pow (by omega) (by omega)
  have b : f &&& g ≤ f := Nat.and_le_left
  refine ⟨by omega, by omega, ?_⟩
  rw [andm, Nat.mod_eq_of_lt (by omega)]
