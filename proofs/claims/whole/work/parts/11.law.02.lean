def SimStep (Sim : Nat → CS → RS → Prop) : Prop := St_sheet Sim ∧ St_lose Sim ∧ St_write Sim ∧ St_look Sim ∧ St_copy Sim ∧ St_task Sim ∧ St_kind Sim ∧ St_shown Sim ∧ St_say Sim ∧ St_set Sim ∧ St_of Sim ∧ St_clear Sim ∧ St_move Sim ∧ St_tell Sim ∧ St_put Sim ∧ St_read Sim ∧ St_made Sim ∧ St_same Sim ∧ St_depth Sim ∧ St_sum Sim ∧ St_tree Sim ∧ St_node Sim ∧ St_run Sim ∧ St_check Sim ∧ St_at Sim ∧ St_most Sim ∧ St_where Sim ∧ St_poly Sim ∧ St_degree Sim ∧ St_sign Sim ∧ St_energy Sim ∧ St_pull Sim ∧ St_form Sim ∧ St_cube Sim ∧ St_letters Sim ∧ St_game Sim ∧ St_ask Sim ∧ St_keep Sim ∧ St_back Sim ∧ St_count Sim
set_option maxHeartbeats 16000000 in
set_option maxRecDepth 100000 in
theorem law_step {κ : KK} {p : Program} {l : Launch} {e : Env} {s : State} {m : MethodId} {below : List Frame} {meth : Method} {c : Code} {b L : Nat} {xs : Nat → Int32} (C : Cx κ p s m #[Value.ref b] meth c cL_law 4 RL ret) (hX : va_X b L xs s s.heap) (hbl : b < s.heap.size) (hL : L ≤ 3072) {Sim : Nat → CS → RS → Prop} (hst : SimStep Sim) {i : Nat} {z : CS} {r : RS} (hsim : Sim s.heap.size z r) (hi : i + 6 ≤ L) {cells slots : Nat} (hc : cells + 2 ≤ 600000) (hs : slots + 260 ≤ 7302250) (x : Int32) (kk : ∀ (z' : CS) (r' : RS), Sim s.heap.size z' r' → GG p l e room_1 s m #[Value.ref b] below meth c (lw_Z below #[Value.ref b] s) (LA s.heap.size) 4 (cells + 2) (slots + 260) (LWB κ s.heap.size z' r') 1488 [(0, .ref b), (1, .ref s.heap.size), (2, .ref (s.heap.size + 32)), (3, .int (nI i))] []) : GG p l e room_1 s m #[Value.ref b] below meth c (lw_Z below #[Value.ref b] s) (LA s.heap.size) 4 cells slots (LWB κ s.heap.size z r) 33 [(0, .ref b), (1, .ref s.heap.size), (2, .ref (s.heap.size + 32)), (3, .int (nI i))] [.int x] := by
  by_cases hk0 : x = (0 : Int32)
  · exact G_tabIn (tgt := 208) C dL_law_33 (by rw [hk0]; decide) (by rw [hk0]; decide) (by rw [hk0]; rfl) (by decide) (lc_sheet C hX hbl hL hst.1 hsim hi hc hs kk)
  by_cases hk1 : x = (1 : Int32)
  · exact G_tabIn (tgt := 251) C dL_law_33 (by rw [hk1]; decide) (by rw [hk1]; decide) (by rw [hk1]; rfl) (by decide) (lc_lose C hX hbl hL hst.2.1 hsim hi hc hs kk)
  by_cases hk2 : x = (2 : Int32)
  · exact G_tabIn (tgt := 274) C dL_law_33 (by rw [hk2]; decide) (by rw [hk2]; decide) (by rw [hk2]; rfl) (by decide) (lc_write C hX hbl hL hst.2.2.1 hsim hi hc hs kk)
  by_cases hk3 : x = (3 : Int32)
  · exact G_tabIn (tgt := 347) C dL_law_33 (by rw [hk3]; decide) (by rw [hk3]; decide) (by rw [hk3]; rfl) (by decide) (lc_look C hX hbl hL hst.2.2.2.1 hsim hi hc hs kk)
  by_cases hk4 : x = (4 : Int32)
  · exact G_tabIn (tgt := 390) C dL_law_33 (by rw [hk4]; decide) (by rw [hk4]; decide) (by rw [hk4]; rfl) (by decide) (lc_copy C hX hbl hL hst.2.2.2.2.1 hsim hi hc hs kk)
  by_cases hk5 : x = (5 : Int32)
  · exact G_tabIn (tgt := 453) C dL_law_33 (by rw [hk5]; decide) (by rw [hk5]; decide) (by rw [hk5]; rfl) (by decide) (lc_task C hX hbl hL hst.2.2.2.2.2.1 hsim hi hc hs kk)
  by_cases hk6 : x = (6 : Int32)
  · exact G_tabIn (tgt := 496) C dL_law_33 (by rw [hk6]; decide) (by rw [hk6]; decide) (by rw [hk6]; rfl) (by decide) (lc_kind C hX hbl hL hst.2.2.2.2.2.2.1 hsim hi hc hs kk)
  by_cases hk7 : x = (7 : Int32)
  · exact G_tabIn (tgt := 529) C dL_law_33 (by rw [hk7]; decide) (by rw [hk7]; decide) (by rw [hk7]; rfl) (by decide) (lc_shown C hX hbl hL hst.2.2.2.2.2.2.2.1 hsim hi hc hs kk)
  by_cases hk8 : x = (8 : Int32)
  · exact G_tabIn (tgt := 552) C dL_law_33 (by rw [hk8]; decide) (by rw [hk8]; decide) (by rw [hk8]; rfl) (by decide) (lc_say C hX hbl hL hst.2.2.2.2.2.2.2.2.1 hsim hi hc hs kk)
  by_cases hk9 : x = (9 : Int32)
  · exact G_tabIn (tgt := 585) C dL_law_33 (by rw [hk9]; decide) (by rw [hk9]; decide) (by rw [hk9]; rfl) (by decide) (lc_set C hX hbl hL hst.2.2.2.2.2.2.2.2.2.1 hsim hi hc hs kk)
  by_cases hk10 : x = (10 : Int32)
  · exact G_tabIn (tgt := 628) C dL_law_33 (by rw [hk10]; decide) (by rw [hk10]; decide) (by rw [hk10]; rfl) (by decide) (lc_of C hX hbl hL hst.2.2.2.2.2.2.2.2.2.2.1 hsim hi hc hs kk)
  by_cases hk11 : x = (11 : Int32)
  · exact G_tabIn (tgt := 661) C dL_law_33 (by rw [hk11]; decide) (by rw [hk11]; decide) (by rw [hk11]; rfl) (by decide) (lc_clear C hX hbl hL hst.2.2.2.2.2.2.2.2.2.2.2.1 hsim hi hc hs kk)
  by_cases hk12 : x = (12 : Int32)
  · exact G_tabIn (tgt := 684) C dL_law_33 (by rw [hk12]; decide) (by rw [hk12]; decide) (by rw [hk12]; rfl) (by decide) (lc_move C hX hbl hL hst.2.2.2.2.2.2.2.2.2.2.2.2.1 hsim hi hc hs kk)
  by_cases hk13 : x = (13 : Int32)
  · exact G_tabIn (tgt := 717) C dL_law_33 (by rw [hk13]; decide) (by rw [hk13]; decide) (by rw [hk13]; rfl) (by decide) (lc_tell C hX hbl hL hst.2.2.2.2.2.2.2.2.2.2.2.2.2.1 hsim hi hc hs kk)
  by_cases hk14 : x = (14 : Int32)
  · exact G_tabIn (tgt := 740) C dL_law_33 (by rw [hk14]; decide) (by rw [hk14]; decide) (by rw [hk14]; rfl) (by decide) (lc_put C hX hbl hL hst.2.2.2.2.2.2.2.2.2.2.2.2.2.2.1 hsim hi hc hs kk)
  by_cases hk15 : x = (15 : Int32)
  · exact G_tabIn (tgt := 773) C dL_law_33 (by rw [hk15]; decide) (by rw [hk15]; decide) (by rw [hk15]; rfl) (by decide) (lc_read C hX hbl hL hst.2.2.2.2.2.2.2.2.2.2.2.2.2.2.2.1 hsim hi hc hs kk)
  by_cases hk16 : x = (16 : Int32)
  · exact G_tabIn (tgt := 796) C dL_law_33 (by rw [hk16]; decide) (by rw [hk16]; decide) (by rw [hk16]; rfl) (by decide) (lc_made C hX hbl hL hst.2.2.2.2.2.2.2.2.2.2.2.2.2.2.2.2.1 hsim hi hc hs kk)
  by_cases hk17 : x = (17 : Int32)
  · exact G_tabIn (tgt := 849) C dL_law_33 (by rw [hk17]; decide) (by rw [hk17]; decide) (by rw [hk17]; rfl) (by decide) (lc_same C hX hbl hL hst.2.2.2.2.2.2.2.2.2.2.2.2.2.2.2.2.2.1 hsim hi hc hs kk)
  by_cases hk18 : x = (18 : Int32)
  · exact G_tabIn (tgt := 882) C dL_law_33 (by rw [hk18]; decide) (by rw [hk18]; decide) (by rw [hk18]; rfl) (by decide) (lc_depth C hX hbl hL hst.2.2.2.2.2.2.2.2.2.2.2.2.2.2.2.2.2.2.1 hsim hi hc hs kk)
  by_cases hk19 : x = (19 : Int32)
  · exact G_tabIn (tgt := 905) C dL_law_33 (by rw [hk19]; decide) (by rw [hk19]; decide) (by rw [hk19]; rfl) (by decide) (lc_sum C hX hbl hL hst.2.2.2.2.2.2.2.2.2.2.2.2.2.2.2.2.2.2.2.1 hsim hi hc hs kk)
  by_cases hk20 : x = (20 : Int32)
  · exact G_tabIn (tgt := 928) C dL_law_33 (by rw [hk20]; decide) (by rw [hk20]; decide) (by rw [hk20]; rfl) (by decide) (lc_tree C hX hbl hL hst.2.2.2.2.2.2.2.2.2.2.2.2.2.2.2.2.2.2.2.2.1 hsim hi hc hs kk)
  by_cases hk21 : x = (21 : Int32)
  · exact G_tabIn (tgt := 961) C dL_law_33 (by rw [hk21]; decide) (by rw [hk21]; decide) (by rw [hk21]; rfl) (by decide) (lc_node C hX hbl hL hst.2.2.2.2.2.2.2.2.2.2.2.2.2.2.2.2.2.2.2.2.2.1 hsim hi hc hs kk)
  by_cases hk22 : x = (22 : Int32)
  · exact G_tabIn (tgt := 994) C dL_law_33 (by rw [hk22]; decide) (by rw [hk22]; decide) (by rw [hk22]; rfl) (by decide) (lc_run C hX hbl hL hst.2.2.2.2.2.2.2.2.2.2.2.2.2.2.2.2.2.2.2.2.2.2.1 hsim hi hc hs kk)
  by_cases hk23 : x = (23 : Int32)
  · exact G_tabIn (tgt := 1017) C dL_law_33 (by rw [hk23]; decide) (by rw [hk23]; decide) (by rw [hk23]; rfl) (by decide) (lc_check C hX hbl hL hst.2.2.2.2.2.2.2.2.2.2.2.2.2.2.2.2.2.2.2.2.2.2.2.1 hsim hi hc hs kk)
  by_cases hk24 : x = (24 : Int32)
  · exact G_tabIn (tgt := 1040) C dL_law_33 (by rw [hk24]; decide) (by rw [hk24]; decide) (by rw [hk24]; rfl) (by decide) (lc_at C hX hbl hL hst.2.2.2.2.2.2.2.2.2.2.2.2.2.2.2.2.2.2.2.2.2.2.2.2.1 hsim hi hc hs kk)
  by_cases hk25 : x = (25 : Int32)
  · exact G_tabIn (tgt := 1083) C dL_law_33 (by rw [hk25]; decide) (by rw [hk25]; decide) (by rw [hk25]; rfl) (by decide) (lc_most C hX hbl hL hst.2.2.2.2.2.2.2.2.2.2.2.2.2.2.2.2.2.2.2.2.2.2.2.2.2.1 hsim hi hc hs kk)
  by_cases hk26 : x = (26 : Int32)
  · exact G_tabIn (tgt := 1126) C dL_law_33 (by rw [hk26]; decide) (by rw [hk26]; decide) (by rw [hk26]; rfl) (by decide) (lc_where C hX hbl hL hst.2.2.2.2.2.2.2.2.2.2.2.2.2.2.2.2.2.2.2.2.2.2.2.2.2.2.1 hsim hi hc hs kk)
  by_cases hk27 : x = (27 : Int32)
  · exact G_tabIn (tgt := 1169) C dL_law_33 (by rw [hk27]; decide) (by rw [hk27]; decide) (by rw [hk27]; rfl) (by decide) (lc_poly C hX hbl hL hst.2.2.2.2.2.2.2.2.2.2.2.2.2.2.2.2.2.2.2.2.2.2.2.2.2.2.2.1 hsim hi hc hs kk)
  by_cases hk28 : x = (28 : Int32)
  · exact G_tabIn (tgt := 1202) C dL_law_33 (by rw [hk28]; decide) (by rw [hk28]; decide) (by rw [hk28]; rfl) (by decide) (lc_degree C hX hbl hL hst.2.2.2.2.2.2.2.2.2.2.2.2.2.2.2.2.2.2.2.2.2.2.2.2.2.2.2.2.1 hsim hi hc hs kk)
  by_cases hk29 : x = (29 : Int32)
  · exact G_tabIn (tgt := 1225) C dL_law_33 (by rw [hk29]; decide) (by rw [hk29]; decide) (by rw [hk29]; rfl) (by decide) (lc_sign C hX hbl hL hst.2.2.2.2.2.2.2.2.2.2.2.2.2.2.2.2.2.2.2.2.2.2.2.2.2.2.2.2.2.1 hsim hi hc hs kk)
  by_cases hk30 : x = (30 : Int32)
  · exact G_tabIn (tgt := 1258) C dL_law_33 (by rw [hk30]; decide) (by rw [hk30]; decide) (by rw [hk30]; rfl) (by decide) (lc_energy C hX hbl hL hst.2.2.2.2.2.2.2.2.2.2.2.2.2.2.2.2.2.2.2.2.2.2.2.2.2.2.2.2.2.2.1 hsim hi hc hs kk)
  by_cases hk31 : x = (31 : Int32)
  · exact G_tabIn (tgt := 1291) C dL_law_33 (by rw [hk31]; decide) (by rw [hk31]; decide) (by rw [hk31]; rfl) (by decide) (lc_pull C hX hbl hL hst.2.2.2.2.2.2.2.2.2.2.2.2.2.2.2.2.2.2.2.2.2.2.2.2.2.2.2.2.2.2.2.1 hsim hi hc hs kk)
  by_cases hk32 : x = (32 : Int32)
  · exact G_tabIn (tgt := 1324) C dL_law_33 (by rw [hk32]; decide) (by rw [hk32]; decide) (by rw [hk32]; rfl) (by decide) (lc_form C hX hbl hL hst.2.2.2.2.2.2.2.2.2.2.2.2.2.2.2.2.2.2.2.2.2.2.2.2.2.2.2.2.2.2.2.2.1 hsim hi hc hs kk)
  by_cases hk33 : x = (33 : Int32)
  · exact G_tabIn (tgt := 1347) C dL_law_33 (by rw [hk33]; decide) (by rw [hk33]; decide) (by rw [hk33]; rfl) (by decide) (lc_cube C hX hbl hL hst.2.2.2.2.2.2.2.2.2.2.2.2.2.2.2.2.2.2.2.2.2.2.2.2.2.2.2.2.2.2.2.2.2.1 hsim hi hc hs kk)
  by_cases hk34 : x = (34 : Int32)
  · exact G_tabIn (tgt := 1370) C dL_law_33 (by rw [hk34]; decide) (by rw [hk34]; decide) (by rw [hk34]; rfl) (by decide) (lc_letters C hX hbl hL hst.2.2.2.2.2.2.2.2.2.2.2.2.2.2.2.2.2.2.2.2.2.2.2.2.2.2.2.2.2.2.2.2.2.2.1 hsim hi hc hs kk)
  by_cases hk35 : x = (35 : Int32)
  · exact G_tabIn (tgt := 1393) C dL_law_33 (by rw [hk35]; decide) (by rw [hk35]; decide) (by rw [hk35]; rfl) (by decide) (lc_game C hX hbl hL hst.2.2.2.2.2.2.2.2.2.2.2.2.2.2.2.2.2.2.2.2.2.2.2.2.2.2.2.2.2.2.2.2.2.2.2.1 hsim hi hc hs kk)
  by_cases hk36 : x = (36 : Int32)
  · exact G_tabIn (tgt := 1416) C dL_law_33 (by rw [hk36]; decide) (by rw [hk36]; decide) (by rw [hk36]; rfl) (by decide) (lc_ask C hX hbl hL hst.2.2.2.2.2.2.2.2.2.2.2.2.2.2.2.2.2.2.2.2.2.2.2.2.2.2.2.2.2.2.2.2.2.2.2.2.1 hsim hi hc hs kk)
  by_cases hk37 : x = (37 : Int32)
  · exact G_tabIn (tgt := 1439) C dL_law_33 (by rw [hk37]; decide) (by rw [hk37]; decide) (by rw [hk37]; rfl) (by decide) (lc_keep C hX hbl hL hst.2.2.2.2.2.2.2.2.2.2.2.2.2.2.2.2.2.2.2.2.2.2.2.2.2.2.2.2.2.2.2.2.2.2.2.2.2.1 hsim hi hc hs kk)
  by_cases hk38 : x = (38 : Int32)
  · exact G_tabIn (tgt := 1452) C dL_law_33 (by rw [hk38]; decide) (by rw [hk38]; decide) (by rw [hk38]; rfl) (by decide) (lc_back C hX hbl hL hst.2.2.2.2.2.2.2.2.2.2.2.2.2.2.2.2.2.2.2.2.2.2.2.2.2.2.2.2.2.2.2.2.2.2.2.2.2.2.1 hsim hi hc hs kk)
  by_cases hk39 : x = (39 : Int32)
  · exact G_tabIn (tgt := 1465) C dL_law_33 (by rw [hk39]; decide) (by rw [hk39]; decide) (by rw [hk39]; rfl) (by decide) (lc_count C hX hbl hL hst.2.2.2.2.2.2.2.2.2.2.2.2.2.2.2.2.2.2.2.2.2.2.2.2.2.2.2.2.2.2.2.2.2.2.2.2.2.2.2 hsim hi hc hs kk)
  refine G_tabOut (tgt := 1488) C dL_law_33 ?_ (by decide) (G_widen (Nat.le_add_right _ _) (Nat.le_add_right _ _) (kk _ _ hsim))
  rcases Int.lt_or_le x.toInt 0 with h | h
  · exact Or.inl h
  · refine Or.inr (Int.not_le.mp fun q => ?_)
    have hx : ∀ k : Int32, k.toInt = x.toInt → x = k := fun k hk => (Int32.toInt_inj.mp hk).symm
    have hx2 : ∃ k : Nat, k < 40 ∧ x.toInt = (k : Int) := ⟨x.toInt.toNat, by omega, by omega⟩
    obtain ⟨k, hk, e⟩ := hx2
    match k, hk, e with
    | 0, _, e => exact hk0 (hx (0 : Int32) (by rw [e]; decide))
    | 1, _, e => exact hk1 (hx (1 : Int32) (by rw [e]; decide))
    | 2, _, e => exact hk2 (hx (2 : Int32) (by rw [e]; decide))
    | 3, _, e => exact hk3 (hx (3 : Int32) (by rw [e]; decide))
    | 4, _, e => exact hk4 (hx (4 : Int32) (by rw [e]; decide))
    | 5, _, e => exact hk5 (hx (5 : Int32) (by rw [e]; decide))
    | 6, _, e => exact hk6 (hx (6 : Int32) (by rw [e]; decide))
    | 7, _, e => exact hk7 (hx (7 : Int32) (by rw [e]; decide))
    | 8, _, e => exact hk8 (hx (8 : Int32) (by rw [e]; decide))
    | 9, _, e => exact hk9 (hx (9 : Int32) (by rw [e]; decide))
    | 10, _, e => exact hk10 (hx (10 : Int32) (by rw [e]; decide))
    | 11, _, e => exact hk11 (hx (11 : Int32) (by rw [e]; decide))
    | 12, _, e => exact hk12 (hx (12 : Int32) (by rw [e]; decide))
    | 13, _, e => exact hk13 (hx (13 : Int32) (by rw [e]; decide))
    | 14, _, e => exact hk14 (hx (14 : Int32) (by rw [e]; decide))
    | 15, _, e => exact hk15 (hx (15 : Int32) (by rw [e]; decide))
    | 16, _, e => exact hk16 (hx (16 : Int32) (by rw [e]; decide))
    | 17, _, e => exact hk17 (hx (17 : Int32) (by rw [e]; decide))
    | 18, _, e => exact hk18 (hx (18 : Int32) (by rw [e]; decide))
    | 19, _, e => exact hk19 (hx (19 : Int32) (by rw [e]; decide))
    | 20, _, e => exact hk20 (hx (20 : Int32) (by rw [e]; decide))
    | 21, _, e => exact hk21 (hx (21 : Int32) (by rw [e]; decide))
    | 22, _, e => exact hk22 (hx (22 : Int32) (by rw [e]; decide))
    | 23, _, e => exact hk23 (hx (23 : Int32) (by rw [e]; decide))
    | 24, _, e => exact hk24 (hx (24 : Int32) (by rw [e]; decide))
    | 25, _, e => exact hk25 (hx (25 : Int32) (by rw [e]; decide))
    | 26, _, e => exact hk26 (hx (26 : Int32) (by rw [e]; decide))
    | 27, _, e => exact hk27 (hx (27 : Int32) (by rw [e]; decide))
    | 28, _, e => exact hk28 (hx (28 : Int32) (by rw [e]; decide))
    | 29, _, e => exact hk29 (hx (29 : Int32) (by rw [e]; decide))
    | 30, _, e => exact hk30 (hx (30 : Int32) (by rw [e]; decide))
    | 31, _, e => exact hk31 (hx (31 : Int32) (by rw [e]; decide))
    | 32, _, e => exact hk32 (hx (32 : Int32) (by rw [e]; decide))
    | 33, _, e => exact hk33 (hx (33 : Int32) (by rw [e]; decide))
    | 34, _, e => exact hk34 (hx (34 : Int32) (by rw [e]; decide))
    | 35, _, e => exact hk35 (hx (35 : Int32) (by rw [e]; decide))
    | 36, _, e => exact hk36 (hx (36 : Int32) (by rw [e]; decide))
    | 37, _, e => exact hk37 (hx (37 : Int32) (by rw [e]; decide))
    | 38, _, e => exact hk38 (hx (38 : Int32) (by rw [e]; decide))
    | 39, _, e => exact hk39 (hx (39 : Int32) (by rw [e]; decide))
    | k + 40, hk, _ => omega
set_option maxHeartbeats 4000000 in
set_option maxRecDepth 100000 in
theorem law_loop {κ : KK} {p : Program} {l : Launch} {e : Env} {s : State} {m : MethodId} {below : List Frame} {meth : Method} {c : Code} {b L : Nat} {xs : Nat → Int32} (C : Cx κ p s m #[Value.ref b] meth c cL_law 4 RL ret) (hX : va_X b L xs s s.heap) (hbl : b < s.heap.size) (hL : L ≤ 3072) {Sim : Nat → CS → RS → Prop} (hst : SimStep Sim) : ∀ (n i : Nat) (z : CS) (r : RS), L < i + 6 * n → i % 6 = 0 → i ≤ L → Sim s.heap.size z r → GG p l e room_1 s m #[Value.ref b] below meth c (lw_Z below #[Value.ref b] s) (LA s.heap.size) 4 (64 + 2 * (i / 6)) (143881 + 260 * (i / 6)) (LWB κ s.heap.size z r) 18 [(0, .ref b), (1, .ref s.heap.size), (2, .ref (s.heap.size + 32)), (3, .int (nI i))] [] := by
  intro n
  induction n with
  | zero => intro i z r h1 h2 h3 hsim; omega
  | succ n ih =>
    intro i z r h1 h2 h3 hsim
    refine G_iload_n (pc' := 19) C dL_law_18 3 rfl rfl ?_
    refine G_aload_n (pc' := 20) C dL_law_19 0 rfl rfl ?_
    refine G_slen (pc' := 21) C hX hbl (Nat.not_le.mpr hbl) dL_law_20 rfl ?_
    refine G_bipush (pc' := 23) (v := (6 : Int32)) C dL_law_21 (by decide) rfl ?_
    refine G_isub (pc' := 24) C dL_law_23 rfl ?_
    have hsub : (nI L - (6 : Int32)).toInt = (L : Int) - 6 := pk_sub_toInt (a := L) (b := 6) (by omega) (by decide)
    refine G_icmp_gt (tgt := 1494) (pc' := 27) C dL_law_24 (by decide) rfl (fun hc => ?_) (fun hc => ?_)
    · refine G_iconst (pc' := 1495) (v := (1 : Int32)) C dL_law_1494 (by decide) rfl ?_
      intro H locs ls hl hB hS
      refine W.widen (k := 600000) (n := 7302250) (by omega) (by omega) ?_
      exact va_forget hS.2.2 (lw_ret C.1 C.2.1 C.2.2.2.2.2.2.1 C.2.2.2.2.2.2.2 dL_law_1495)
    · have hi : i + 6 ≤ L := by
        have h5 : ¬ ((nI L - (6 : Int32)).toInt < (nI i).toInt) := fun q => hc (Int32.lt_iff_toInt_lt.mpr q)
        rw [hsub, nI_toInt (by omega)] at h5
        omega
      obtain ⟨w0, hw0⟩ : ∃ w, xs (nI i).toNatClampNeg = w := ⟨_, rfl⟩
      refine G_aload_n (pc' := 28) C dL_law_27 0 rfl rfl ?_
      refine G_iload_n (pc' := 29) C dL_law_28 3 rfl rfl ?_
      refine G_sldV (pc' := 30) C hX hbl (Nat.not_le.mpr hbl) dL_law_29 (vp_in_nI (by omega) (by omega)) hw0 rfl ?_
      refine G_bipush (pc' := 32) (v := (63 : Int32)) C dL_law_30 (by decide) rfl ?_
      refine G_iand (pc' := 33) C dL_law_32 rfl ?_
      refine law_step C hX hbl hL hst hsim hi (by omega) (by omega) _ (fun z' r' hsim' => ?_)
      refine G_iinc (pc' := 1491) C dL_law_1488 3 rfl (v := nI (i + 6)) (nI_add i 6) [(3, .int (nI (i + 6))), (0, .ref b), (1, .ref s.heap.size), (2, .ref (s.heap.size + 32))] (by decide) rfl rfl ?_
      refine G_goto (tgt := 18) C dL_law_1491 (by decide) ?_
      refine G_sub (lv' := [(0, .ref b), (1, .ref s.heap.size), (2, .ref (s.heap.size + 32)), (3, .int (nI (i + 6)))]) [1, 2, 3, 0] rfl ?_
      have hq := ih (i + 6) z' r' (by omega) (by omega) hi hsim'
      rw [show 64 + 2 * ((i + 6) / 6) = 64 + 2 * (i / 6) + 2 by omega, show 143881 + 260 * ((i + 6) / 6) = 143881 + 260 * (i / 6) + 260 by omega] at hq
      exact hq
set_option maxHeartbeats 16000000 in
set_option maxRecDepth 100000 in
theorem whole_of_sim {Sim : Nat → CS → RS → Prop} (hst : SimStep Sim) (h0 : ∀ o, Sim o (cs0 o) rs0) {p : Program} {e : Env} {s : State} {m : MethodId} {below : List Frame} {meth : Method} {c : Code} (l : Launch) {b L : Nat} {xs : Nat → Int32} (hL : L ≤ 3072) (C0 : lw_At p s m meth c b L xs) : W p l e room_1 s m #[Value.ref b] below meth c s.heap [] 0 0 (lw_Z below #[Value.ref b] s) (entryFrame m ([Value.ref b] : List Value).toArray 4) := by
  obtain ⟨hx, hb, hr, hml, hown, hts, hX, hbl, hlocks, hgv⟩ := id C0
  obtain ⟨κ, hK⟩ := kc_start hts
  have C : Cx κ p s m #[Value.ref b] meth c cL_law 4 RL ret := ⟨hx, hb, hml, hown, fun w h => hts w (gw_sub w h), hK, hr, hlocks⟩
  rw [lg_entry_eq]
  suffices hg : GG p l e room_1 s m #[Value.ref b] below meth c (lw_Z below #[Value.ref b] s) (LA s.heap.size) 4 0 0 (LB κ s.heap.size []) 0 [(0, .ref b)] [] from hg s.heap [] _ (lv_entry ([.ref b]) (n := 4) (Nat.le_of_ble_eq_true rfl)) ⟨rfl, fun k x h => by cases h⟩ va_S.rf
  refine G_sub (lv' := [(0, .ref b)]) [0] rfl ?_
  refine G_new (n := s.heap.size + 0) (pc' := 3) (fs := [.null, .null, .null, .null, .null, .null, .null, .null, .null, .null, .null, .null, .int 0, .int 0, .int 0, .int 0]) C fi_X9 dL_law_0 tw_cl_L_7 tw_is_X9 tw_in_X9 (fun j hj => by rcases (show j = 0 ∨ j = 1 ∨ j = 2 ∨ j = 3 ∨ j = 4 ∨ j = 5 ∨ j = 6 ∨ j = 7 ∨ j = 8 ∨ j = 9 ∨ j = 10 ∨ j = 11 ∨ j = 12 ∨ j = 13 ∨ j = 14 ∨ j = 15 by omega) with rfl | rfl | rfl | rfl | rfl | rfl | rfl | rfl | rfl | rfl | rfl | rfl | rfl | rfl | rfl | rfl <;> rfl) (by decide) (by decide) (LB_nw [.inr (9, [.null, .null, .null, .null, .null, .null, .null, .null, .null, .null, .null, .null, .int 0, .int 0, .int 0, .int 0])] 0 rfl rfl) rfl ?_
  refine G_dup (pc' := 4) C dL_law_3 rfl rfl ?_
  refine G_callI (F := fun _ => True) (pc' := 7) C dL_law_4 (tX9_init κ l s.heap.size) ⟨tw_ml_L_9, tw_im_X9_init, tw_co_X9_init, tw_in_X9⟩ rfl yi_X9_init rfl (by decide) (fun _ h => h) (fun _ h => ⟨h, trivial⟩) (fun _ _ _ _ _ _ => trivial) rfl (Nat.le_of_ble_eq_true rfl) rfl ?_
  refine G_world (B' := LB κ s.heap.size (les9 κ s.heap.size)) (fun _ h => h.1) ?_
  refine G_astore_n (pc' := 8) C dL_law_7 [(1, .ref s.heap.size), (0, .ref b)] (by decide) rfl rfl ?_
  refine G_new (n := s.heap.size + 32) (pc' := 11) (fs := [.null, .null, .null, .null, .int 0, .null, .null, .null, .int 0, .null, .int 0, .int 0, .int 0, .null, .null, .null, .null, .null, .null, .null, .null, .int 0, .null, .null, .null, .null, .null, .null, .null, .null, .null, .int 0, .null, .int 0, .null, .null, .null, .int 0, .int 0, .null, .null]) C fi_X10 dL_law_8 tw_cl_L_10 tw_is_X10 tw_in_X10 (fun j hj => by rcases (show j = 0 ∨ j = 1 ∨ j = 2 ∨ j = 3 ∨ j = 4 ∨ j = 5 ∨ j = 6 ∨ j = 7 ∨ j = 8 ∨ j = 9 ∨ j = 10 ∨ j = 11 ∨ j = 12 ∨ j = 13 ∨ j = 14 ∨ j = 15 ∨ j = 16 ∨ j = 17 ∨ j = 18 ∨ j = 19 ∨ j = 20 ∨ j = 21 ∨ j = 22 ∨ j = 23 ∨ j = 24 ∨ j = 25 ∨ j = 26 ∨ j = 27 ∨ j = 28 ∨ j = 29 ∨ j = 30 ∨ j = 31 ∨ j = 32 ∨ j = 33 ∨ j = 34 ∨ j = 35 ∨ j = 36 ∨ j = 37 ∨ j = 38 ∨ j = 39 ∨ j = 40 by omega) with rfl | rfl | rfl | rfl | rfl | rfl | rfl | rfl | rfl | rfl | rfl | rfl | rfl | rfl | rfl | rfl | rfl | rfl | rfl | rfl | rfl | rfl | rfl | rfl | rfl | rfl | rfl | rfl | rfl | rfl | rfl | rfl | rfl | rfl | rfl | rfl | rfl | rfl | rfl | rfl | rfl <;> rfl) (by decide) (by decide) (LB_nw (les9 κ s.heap.size ++ [.inr (10, [.null, .null, .null, .null, .int 0, .null, .null, .null, .int 0, .null, .int 0, .int 0, .int 0, .null, .null, .null, .null, .null, .null, .null, .null, .int 0, .null, .null, .null, .null, .null, .null, .null, .null, .null, .int 0, .null, .int 0, .null, .null, .null, .int 0, .int 0, .null, .null])]) 32 rfl rfl) rfl ?_
  refine G_dup (pc' := 12) C dL_law_11 rfl rfl ?_
  refine G_callI (F := LF κ s.heap.size (les9 κ s.heap.size)) (pc' := 15) C dL_law_12 (tX10_init κ l (s.heap.size + 32)) ⟨tw_ml_L_12, tw_im_X10_init, tw_co_X10_init, tw_in_X10⟩ rfl yi_X10_init rfl (by decide) (fun w (h : s.heap.size + 32 ≤ w) => show s.heap.size ≤ w from Nat.le_trans (Nat.le_add_right _ _) h) (fun H h => LB_cut 32 (les9 κ s.heap.size) [.inr (10, [.null, .null, .null, .null, .int 0, .null, .null, .null, .int 0, .null, .int 0, .int 0, .int 0, .null, .null, .null, .null, .null, .null, .null, .null, .int 0, .null, .null, .null, .null, .null, .null, .null, .null, .null, .int 0, .null, .int 0, .null, .null, .null, .int 0, .int 0, .null, .null])] rfl rfl h) (fun H H1 _ hs hk hf => LF_kept (n := 32) rfl hs hk hf) rfl (Nat.le_of_ble_eq_true rfl) rfl ?_
  refine G_world (B' := LB κ s.heap.size (les9 κ s.heap.size ++ les10 κ s.heap.size)) (fun H h => LB_glue _ 32 (les9 κ s.heap.size) (les10 κ s.heap.size) rfl rfl h) ?_
  refine G_world (fun H h => LW_start h) ?_
  refine G_astore_n (pc' := 16) C dL_law_15 [(2, .ref (s.heap.size + 32)), (1, .ref s.heap.size), (0, .ref b)] (by decide) rfl rfl ?_
  refine G_iconst (pc' := 17) (v := nI 0) C dL_law_16 (by decide) rfl ?_
  refine G_istore_n (pc' := 18) C dL_law_17 [(3, .int (nI 0)), (2, .ref (s.heap.size + 32)), (1, .ref s.heap.size), (0, .ref b)] (by decide) rfl rfl ?_
  refine G_sub (lv' := [(0, .ref b), (1, .ref s.heap.size), (2, .ref (s.heap.size + 32)), (3, .int (nI 0))]) [3, 2, 1, 0] rfl ?_
  exact law_loop C hX hbl hL hst (L + 1) 0 _ _ (by omega) rfl (Nat.zero_le L) (h0 s.heap.size)
