/-! what the class tells, out of the picture's own row -/
def IB (v w : gV) (c : Nat) : Prop := OKs (w 84) c ∧ CW v 9 (w 84) c ∧ v 8 2 = w 84 50 ∧ v 8 3 = w 84 51 ∧ v 8 4 = w 84 52 ∧ v 8 5 = w 84 53 ∧ v 8 6 = w 84 54 ∧ v 8 7 = w 84 57 ∧ (v 13 5 = 0 ∨ v 13 5 = 1)
section
variable {v w : gV} {c : Nat}
theorem q_objects (h : IB v w c) : sX5_objects v = some (nI c) := by
  show some (v 9 3) = _
  rw [h.2.1.1]
theorem q_room (h : IB v w c) : sX5_room v = some (w 84 49) := by
  show some (v 9 4) = _
  rw [h.2.1.2.1]
theorem q_it (h : IB v w c) : sX5_it v = some (w 84 50) := by
  show some (v 8 2) = _
  rw [h.2.2.1]
theorem q_them (h : IB v w c) : sX5_them v = some (w 84 51) := by
  show some (v 8 3) = _
  rw [h.2.2.2.1]
theorem q_executed (h : IB v w c) : sX5_executed v = some (w 84 52) := by
  show some (v 8 4) = _
  rw [h.2.2.2.2.1]
theorem q_failed (h : IB v w c) : sX5_failed v = some (w 84 53) := by
  show some (v 8 5) = _
  rw [h.2.2.2.2.2.1]
theorem q_asked (h : IB v w c) : sX5_asked v = some (w 84 54) := by
  show some (v 8 6) = _
  rw [h.2.2.2.2.2.2.1]
theorem q_candidates (h : IB v w c) : sX5_candidates v = some (w 84 57) := by
  show some (v 8 7) = _
  rw [h.2.2.2.2.2.2.2.1]
theorem q_exists (h : IB v w c) {k : Nat} (hk : k < c) : sX4_exists v 9 (nI k) = some 1 := by
  have hc := h.1.1
  unfold sX4_exists
  rw [h.2.1.1, if_neg (nI_pos (by omega)), if_neg (nI_ge hk (by omega)), if_neg (ge_12 (by omega))]
theorem q_noun (h : IB v w c) {k : Nat} (hk : k < c) : sX5_noun v (nI k) = some (w 84 (4 * k + 1)) := by
  have hc := h.1.1
  unfold sX5_noun
  rw [q_exists h hk, ob, if_neg one_ne, if_pos (in_12 (by omega)), cl_12 (by omega), (h.2.1.2.2.2 k hk).1]
theorem q_adjective (h : IB v w c) {k : Nat} (hk : k < c) : sX5_adjective v (nI k) = some (w 84 (4 * k + 2)) := by
  have hc := h.1.1
  unfold sX5_adjective
  rw [q_exists h hk, ob, if_neg one_ne, if_pos (in_12 (by omega)), cl_12 (by omega), (h.2.1.2.2.2 k hk).2.1]
theorem q_place (h : IB v w c) {k : Nat} (hk : k < c) : sX5_place v (nI k) = some (w 84 (4 * k + 3)) := by
  have hc := h.1.1
  unfold sX5_place
  rw [q_exists h hk, ob, if_neg one_ne, if_pos (in_12 (by omega)), cl_12 (by omega), (h.2.1.2.2.2 k hk).2.2]
theorem q_isOpen (h : IB v w c) {k : Nat} (hk : k < c) : sX5_isOpen v (nI k) = some (bI (opB (w 84) k)) := by
  have hc := h.1.1
  unfold sX5_isOpen
  rw [q_exists h hk, ob, if_neg one_ne, h.2.1.2.2.1, pw_e]
  cases z : opB (w 84) k
  · rw [if_pos ((mk_tst (by omega) hk _).mpr z)]
    rfl
  · rw [if_neg (fun q => by have := (mk_tst (by omega) hk _).mp q; rw [z] at this; exact absurd this (by decide))]
    rfl
theorem q_objectsAt (h : IB v w c) {p : Nat} (hp : p < 17) : sX5_objectsAt 1000 v (nI p) = some (nI (cn c (inB (w 84) (nI p)))) := by
  have hc := h.1.1
  unfold sX5_objectsAt
  rw [if_neg (nI_pos (by omega)), if_pos (show nI p < 17 from nI_lt (b := 17) hp (by decide)), k_setAt h.2.1 hc, ob, bitC hc, ob]
theorem q_visible (h : IB v w c) : sX5_visible 1000 v = some (mk c (visB (w 84))) := by
  unfold sX5_visible
  rw [k_vis h.2.1 h.1, ob]
theorem q_suitable (h : IB v w c) {x : Nat} (hx : x < 5) : sX5_suitable 1000 v (nI x) = some (mk c (suitB (w 84) x)) := by
  unfold sX5_suitable
  rw [if_neg (nI_pos (by omega)), if_pos (show nI x ≤ 4 from nI_le (b := 4) (by omega) (by decide)), k_suit h.2.1 h.1 hx, ob]
theorem q_isNoun {a : Nat} (ha : a < 6) : sX5_isNoun (nI a) = some 1 := by
  unfold sX5_isNoun
  rw [if_neg (nI_pos (by omega)), if_neg (show ¬ (6 : Int32) ≤ nI a from nI_ge (b := 6) ha (by decide))]
theorem q_isAdjective {b : Nat} (hb : b < 4) : sX5_isAdjective (nI b) = some 1 := by
  unfold sX5_isAdjective
  rw [if_neg (nI_pos (by omega)), if_neg (show ¬ (4 : Int32) ≤ nI b from nI_ge (b := 4) hb (by decide))]
theorem q_fitting (h : IB v w c) {a b : Nat} (ha : a < 6) (hb : b < 4) : sX5_fitting 1000 v (nI a) (nI b) = some (mk c (fitB (w 84) (nI a) (nI b))) := by
  unfold sX5_fitting sX5_fitting_27
  rw [q_isNoun ha, ob, if_neg one_ne, if_neg (nI_m1 (by omega)), q_isAdjective hb, ob, if_neg one_ne, k_fit h.2.1 h.1.1, ob]
theorem q_fittingN (h : IB v w c) {a : Nat} (ha : a < 6) : sX5_fitting 1000 v (nI a) (-1) = some (mk c (fitB (w 84) (nI a) (-1))) := by
  unfold sX5_fitting sX5_fitting_27
  rw [q_isNoun ha, ob, if_neg one_ne, if_pos rfl, k_fit h.2.1 h.1.1, ob]
theorem q_isBox (h : IB v w c) {k : Nat} (hk : k < c) : sL_isBox v (nI k) = some (bI (cntB (w 84) k)) := by
  unfold sL_isBox
  rw [q_noun h hk, ob, ob]
  unfold cntB
  by_cases z : w 84 (4 * k + 1) = 1
  · rw [if_pos z]; simp [z, bI]
  · rw [if_neg z]
    by_cases z2 : w 84 (4 * k + 1) = 5
    · rw [if_pos z2]; simp [z2, bI]
    · rw [if_neg z2]; simp [z, z2, bI]
end
theorem lsize_tab : ∀ x, x < 4096 → sL_size 1000 (nI x) = some (nI (popN x)) := fun x hx => co_dec (N := 4096) (P := fun x => sL_size 1000 (nI x) = some (nI (popN x))) (by decide +kernel) hx
theorem l_size {n : Nat} (hn : n ≤ 12) (P : Nat → Bool) : sL_size 1000 (mk n P) = some (nI (cn n P)) := by
  rw [mk_nI (by omega), lsize_tab _ (mkN_12 hn P), popN_mk hn]
theorem l_low (x : Int32) {n : Nat} (hn : 0 < n) (hn2 : n < 2 ^ 31) : ∃ j, j < n ∧ sL_low x (nI n) = some (nI j) := by
  obtain ⟨y, hy, e⟩ := pk_andE x (m := 2147483647) 31 (by decide)
  refine ⟨y % n, Nat.mod_lt _ hn, ?_⟩
  unfold sL_low
  rw [if_pos (show ¬ nI n = 0 from fun q => by have := (nI_eq (b := 0) hn2 (by decide)).mp q; omega), e]
  congr 1
  exact pk_rem hy hn hn2
