/-! the moves that save, both sides -/
theorem SR_ask {v : gV} {a : Nat} {s : Nat → Int32} (h : SR v a s) : ∃ ask, ask < 2 ∧ s 55 = nI ask ∧ sX3_isAsking v a = some (nI ask) := by
  obtain ⟨c, _, hq⟩ := h
  unfold sX3_isAsking
  rcases hq with ⟨q1, q2, q3⟩ | ⟨q0, m, P, vb, L, j, q1, q2, q3, q4, q5, q6, q7, q8, q9, q10, q11⟩
  · exact ⟨0, by decide, q1, by rw [if_pos q2]; rfl⟩
  · have hL := q3.2.2.2.1
    exact ⟨1, by decide, q0, by rw [q8, if_neg (nI_m1 (by omega))]; rfl⟩
theorem t_firstError {v w : gV} (h : INV v w) : ∃ r v' w', sX5_firstError 1000 v = some (r, v') ∧ sX6_firstError 1000 w = some (r, w') ∧ CF v v' ∧ RF w w' ∧ INV v' w' := by
  have h1 : INV v (up w 81 8 0) := INV_81 h (by decide) (by decide) _
  obtain ⟨⟨l, hB⟩, ht, hS, _⟩ := id h1
  obtain ⟨ask, ha, h55, hq⟩ := SR_ask hS
  obtain ⟨r, v', w', g1, g2, g3, g4⟩ := b_firstE hB ht ha h55 hq
  refine ⟨r, v', w', g1, ?_, fun k q => g3 k (by omega), RF_trans (RF_81 w 8 0) (fun k q => g4.1 k (by omega) (by omega)), INV_congr h1 (fun k q => g3 k (by omega)) (fun k q => g4.1 k (by omega) (by omega)) (g4.2 5 (by decide) (by decide)) (g4.2 7 (by decide) (by decide))⟩
  unfold sX6_firstError
  rw [ob, g2, ob]
theorem b_close {v w : gV} (hS : SR v 8 (w 84)) : ∃ v' w', sX3_closeQuestion v 8 = some v' ∧ sX6_closeQuestion 1000 w = some w' ∧ (∃ c, OKs (w' 84) c ∧ CW v' 9 (w' 84) c ∧ v' 8 2 = w' 84 50 ∧ v' 8 3 = w' 84 51 ∧ v' 8 4 = w' 84 52 ∧ v' 8 5 = w' 84 53 ∧ v' 8 6 = w' 84 54 ∧ v' 8 7 = w' 84 57 ∧ (v' 13 5 = 0 ∨ v' 13 5 = 1)) ∧ (∀ k, k ≠ 8 → v' k = v k) ∧ (∀ k, k ≠ 84 → w' k = w k) ∧ w' 84 55 = 0 ∧ v' 8 8 = -1 ∧ w' 84 57 = 0 ∧ ∀ j, j < 55 → w' 84 j = w 84 j := by
  obtain ⟨c, ⟨y1, y2, y3, y4, y5, y6, y7, y8, y9⟩, _⟩ := hS
  have y2 : CW v 9 (w 84) c := y2
  have y9 : v 13 5 = 0 ∨ v 13 5 = 1 := y9
  obtain ⟨w', g1, g2, g3, g4⟩ := m_close (v := w)
  have e : ∀ j, j < 55 → w' 84 j = w 84 j := fun j q => g3 j (Or.inl q)
  refine ⟨up (up v 8 8 (-1)) 8 7 0, w', rfl, g1, ⟨c, OKs_congr y1 (fun j q => e j (by omega)), CW_congr (CW_s y2 y1.1 (fun j q => e j (by omega))) (fun k q1 q2 => by rw [up_r _ _ _ _ (by omega), up_r _ _ _ _ (by omega)]), ?_, ?_, ?_, ?_, ?_, ?_, ?_⟩, fun k q => by rw [up_r _ _ _ _ q, up_r _ _ _ _ q], g2, g4 55 (by decide) (by decide), ?_, g4 57 (by decide) (by decide), e⟩
  · rw [e 50 (by decide)]; exact y3
  · rw [e 51 (by decide)]; exact y4
  · rw [e 52 (by decide)]; exact y5
  · rw [e 53 (by decide)]; exact y6
  · rw [e 54 (by decide)]; exact y7
  · rw [g4 57 (by decide) (by decide), up_s]
  · exact y9
  · rw [up_c _ _ _ _ (by decide), up_s]
theorem BR_of {v v' w w' : gV} {l : Nat} (h : BR v w l) (h1 : v' 1 = v 1) (h2 : v' 2 = v 2) (h7 : w' 81 7 = w 81 7) (h87 : w' 87 = w 87) : BR v' w' l := by
  unfold BR
  rw [h1, h2, h7, h87]
  exact h
theorem TB_of {w w' : gV} (h : TB w) (h82 : w' 82 = w 82) (h83 : w' 83 = w 83) : TB w' := by
  unfold TB
  rw [h82, h83]
  exact h
theorem RG_of {v v' w w' : gV} (h : RG v w) (h0 : v' 0 = v 0) (h1 : ∀ k, 26 < k ∧ k < 81 → v' k = v k) (h86 : w' 86 = w 86) (h5 : w' 81 5 = w 81 5) : RG v' w' := by
  obtain ⟨n, x, hn, hx, r5, r6, r7, hr⟩ := h
  refine ⟨n, x, hn, hx, by rw [h0]; exact r5, by rw [h0]; exact r6, by rw [h5]; exact r7, fun t q => ?_⟩
  refine SR_congr (hr t q) (fun k q1 q2 => h1 k (by omega)) (fun j _ => ?_)
  show w' 86 _ = w 86 _
  rw [h86]
theorem t_moveTo {v w : gV} (h : INV v w) (x : Int32) : MS v w 2 2 (tX5_moveTo 1000 v x) (sX6_moveTo 1000 w x) := by
  have h0 := h
  have h1 : INV v (up w 81 8 0) := INV_81 h (by decide) (by decide) _
  obtain ⟨⟨l, hB⟩, ht, hS, hR⟩ := id h1
  unfold tX5_moveTo sX6_moveTo sX5_isRoom
  rcases pk_ix x (n := 4) (by decide) with q | q | ⟨r, hr, e⟩
  · refine MS_1 h0 ?_ ?_
    · rw [if_pos q, ob, if_pos rfl]
    · rw [ob, in_no (Or.inl q), ob, if_pos rfl, m_thr, ob]
  · refine MS_1 h0 ?_ ?_
    · have : (if x < 0 then some (0 : Int32) else if 4 ≤ x then some 0 else some 1) = some 0 := by
        rw [if_pos (show (4 : Int32) ≤ x from q)]
        split <;> rfl
      rw [this, ob, if_pos rfl]
    · rw [ob, in_no (Or.inr (show (3 : Int32) < x from lt_of_le (n := 3) (by decide) q)), ob, if_pos rfl, m_thr, ob]
  · obtain ⟨v1, w1, s1, s2, s3, s4, s5, s6⟩ := b_save hS hR
    have e84 : w1 84 = up w 81 8 0 84 := s5 84 (by decide) (by decide)
    have hS1 : SR v1 8 (w1 84) := by
      rw [e84]
      exact SR_congr hS (fun k q1 q2 => s4 k (by omega) (by omega)) (fun _ _ => rfl)
    obtain ⟨v2, w2, c1, c2, ⟨c, y1, y2, y3, y4, y5, y6, y7, y8, y9⟩, c4, c5, c6, c7, c8, c9⟩ := b_close hS1
    subst e
    rw [if_neg (nI_pos (by omega)), if_neg (show ¬ (4 : Int32) ≤ nI r from nI_ge (b := 4) hr (by decide)), ob, if_neg one_ne, s1, ob, c1, ob, ob, ob, in_yes (nI_pos (by omega)) (show ¬ (3 : Int32) < nI r from nI_nlt (a := 3) (by omega) (by decide)), ob, if_neg one_ne, s2, ob, c2, ob, ob]
    refine MS_0 (y := v2 9 4) (v' := up v2 9 4 (nI r)) (w' := up w2 84 49 (nI r)) rfl ?_ (fun k q => ?_) (RF_trans (RF_81 w 8 0) (fun k q => ?_)) ⟨⟨l, BR_of hB ?_ ?_ ?_ ?_⟩, TB_of ht ?_ ?_, ⟨c, ⟨?_, ?_, ?_, ?_, ?_, ?_, ?_, ?_, ?_⟩, Or.inl ⟨?_, ?_, ?_⟩⟩, RG_of s3 ?_ (fun k q => ?_) ?_ ?_⟩ ?_
    · rw [y2.2.1]
    · rw [up_r _ _ _ _ (by omega), c4 k (by omega), s4 k (by omega) (by omega)]
    · rw [up_r _ _ _ _ (by omega), c5 k (by omega), s5 k (by omega) (by omega)]
    · rw [up_r _ _ _ _ (by decide), c4 _ (by decide), s4 _ (by decide) (by decide)]
    · rw [up_r _ _ _ _ (by decide), c4 _ (by decide), s4 _ (by decide) (by decide)]
    · rw [up_r _ _ _ _ (by decide), c5 _ (by decide), s6 _ (by decide)]
    · rw [up_r _ _ _ _ (by decide), c5 _ (by decide), s5 _ (by decide) (by decide)]
    · rw [up_r _ _ _ _ (by decide), c5 _ (by decide), s5 _ (by decide) (by decide)]
    · rw [up_r _ _ _ _ (by decide), c5 _ (by decide), s5 _ (by decide) (by decide)]
    · rw [s84]
      obtain ⟨z1, z2, z3, z4, z5⟩ := y1
      refine ⟨z1, by rw [pk_un (by decide)]; exact z2, ⟨r, hr, pk_us⟩, fun k hk => ?_, by rw [pk_un (by decide)]; exact z5.1, LIM_congr z5.2.1 (fun k hk => pk_un (by omega)), XO_cong z5.2.2.1 z1 (OK_in z4 z1) (fun k hk => ⟨pk_un (by omega), pk_un (by omega), pk_un (by omega), pk_un (by omega)⟩), XM_cong z5.2.2.2 (pk_un (by decide))⟩
      have := z4 k hk
      unfold OKo at this ⊢
      rw [pk_un (by omega), pk_un (by omega), pk_un (by omega), pk_un (by omega)]
      exact this
    · rw [s84]
      obtain ⟨z1, z2, z3, z4⟩ := y2
      have hc := y1.1
      refine ⟨?_, ?_, ?_, fun k hk => ?_⟩
      · rw [up_c _ _ _ _ (by decide)]; exact z1
      · rw [up_s, pk_us]
      · rw [up_c _ _ _ _ (by decide), z3]
        refine mk_congr fun k _ => ?_
        unfold opB
        rw [pk_un (by omega)]
      · rw [up_r _ _ _ _ (by decide), up_r _ _ _ _ (by decide), up_r _ _ _ _ (by decide), pk_un (by omega), pk_un (by omega), pk_un (by omega)]
        exact z4 k hk
    · rw [up_r _ _ _ _ (by decide), s84, pk_un (by decide)]; exact y3
    · rw [up_r _ _ _ _ (by decide), s84, pk_un (by decide)]; exact y4
    · rw [up_r _ _ _ _ (by decide), s84, pk_un (by decide)]; exact y5
    · rw [up_r _ _ _ _ (by decide), s84, pk_un (by decide)]; exact y6
    · rw [up_r _ _ _ _ (by decide), s84, pk_un (by decide)]; exact y7
    · rw [up_r _ _ _ _ (by decide), s84, pk_un (by decide)]; exact y8
    · rw [up_r _ _ _ _ (by decide)]; exact y9
    · rw [s84, pk_un (by decide)]; exact c6
    · rw [up_r _ _ _ _ (by decide)]; exact c7
    · rw [s84, pk_un (by decide)]; exact c8
    · rw [up_r _ _ _ _ (by decide), c4 _ (by decide)]
    · rw [up_r _ _ _ _ (by omega), c4 _ (by omega)]
    · rw [up_r _ _ _ _ (by decide), c5 _ (by decide)]
    · rw [up_r _ _ _ _ (by decide), c5 _ (by decide)]
    · rw [up_r _ _ _ _ (by decide), c5 _ (by decide), s6 _ (by decide), up_s]
theorem m_undoL {n : Nat} (hn : n ≤ 5) : ∀ d i w N, i + d = 122 → w 81 5 = nI n → ∃ w', sX6_undo_30 1000 (N + 1 + d) w (nI i) = some (nI n, w') ∧ (∀ k, k ≠ 84 → w' k = w k) ∧ (∀ j, j < i → w' 84 j = w 84 j) ∧ ∀ j, i ≤ j → j < 122 → w' 84 j = w 86 (122 * n + j) := by
  intro d
  induction d with
  | zero =>
    intro i w N hi h5
    have : i = 122 := by omega
    subst this
    unfold sX6_undo_30
    rw [if_pos (show (122 : Int32) ≤ nI 122 by decide), h5]
    exact ⟨_, rfl, fun k _ => rfl, fun j _ => rfl, fun j q r => by omega⟩
  | succ d ih =>
    intro i w N hi h5
    have e : (122 : Int32) * nI n + nI i = nI (122 * n + i) := by rw [show (122 : Int32) = nI 122 from rfl, pk_mul, nI_add]
    obtain ⟨w', g1, g2, g3, g4⟩ := ih (i + 1) (up w 84 i (w 86 (122 * n + i))) N (by omega) (by rw [up_r _ _ _ _ (by decide)]; exact h5)
    refine ⟨w', ?_, fun k q => (g2 k q).trans (up_r _ _ _ _ q), fun j q => ?_, fun j q r => ?_⟩
    · rw [← Nat.add_assoc]
      unfold sX6_undo_30
      rw [if_neg (show ¬ (122 : Int32) ≤ nI i from nI_ge (b := 122) (by omega) (by decide)), h5, e, if_pos (nI_in (c := 122 * n + i) (N := 732) (by omega) (by decide)), if_pos (nI_in (c := i) (N := 122) (by omega) (by decide)), nI_clamp (n := i) (by omega), nI_clamp (n := 122 * n + i) (by omega), ob, nI_1]
      exact g1
    · rw [g3 j (by omega), up_c _ _ _ _ (by omega)]
    · by_cases e : j = i
      · rw [g3 j (by omega), e, up_s]
      · rw [g4 j (by omega) r, up_r _ _ _ _ (by decide)]
theorem t_undo {v w : gV} (h : INV v w) : MS v w 1 1 (tX5_undo 1000 v) (sX6_undo 1000 w) := by
  have h0 := h
  obtain ⟨⟨l, hB⟩, ht, hS, n, x, hn, hx, r5, r6, r7, hr⟩ := h
  have e5 : up w 81 8 0 81 5 = nI n := by rw [up_c _ _ _ _ (by decide)]; exact r7
  by_cases z : n = 0
  · subst z
    refine MS_1 h0 ?_ ?_
    · unfold tX5_undo
      rw [r5, if_neg (by decide)]
    · unfold sX6_undo
      rw [ob, e5, if_pos (show nI 0 = 0 from rfl), m_thr, ob]
  · have hx' : ∃ x', x' < 6 ∧ (x' = (x + 5) % 6) ∧ tX5_undo 1000 v = tX5_undo_33 1000 v (nI x') := by
      unfold tX5_undo
      rw [r5, if_pos (show 0 < nI n from nI_lt (a := 0) (by omega) (by omega)), r6]
      by_cases y : x = 0
      · subst y
        exact ⟨5, by decide, by decide, by rw [if_pos (by decide)]; rfl⟩
      · exact ⟨x - 1, by omega, by omega, by rw [if_neg (nI_nle (by omega) (by omega)), show nI x - 1 = nI (x - 1) from pk_sub (b := 1) (by omega)]⟩
    obtain ⟨x', hx6, hxe, e1⟩ := hx'
    have hsl : (x + 6 - n + (n - 1)) % 6 = x' := by omega
    have hrow := hr (n - 1) (by omega)
    rw [hsl] at hrow
    generalize hV : up (up v 0 6 (nI x')) 0 5 (nI (n - 1)) = V
    have hVk : ∀ k, k ≠ 0 → V k = v k := fun k q => by rw [← hV, up_r _ _ _ _ q, up_r _ _ _ _ q]
    have hV5 : V 0 5 = nI (n - 1) := by rw [← hV, up_s]
    have hV6 : V 0 6 = nI x' := by rw [← hV, up_c _ _ _ _ (by decide), up_s]
    have hrow' : SR V (27 + 9 * x') (fun j => w 86 (122 * (n - 1) + j)) := SR_congr hrow (fun k q1 q2 => hVk k (by omega)) (fun _ _ => rfl)
    obtain ⟨u, g1, g2, g3⟩ := k_cpyS (a := 8) (b := 27 + 9 * x') (by omega) V (SR_5 hrow')
    have hS' := SR_cpy hrow' g3
    obtain ⟨w', i1, i2, i3, i4⟩ := m_undoL (n := n - 1) (by omega) 122 0 (up (up w 81 8 0) 81 5 (nI (n - 1))) 877 (by omega) (up_s _ _ _ _)
    have e86 : up (up w 81 8 0) 81 5 (nI (n - 1)) 86 = w 86 := by rw [up_r _ _ _ _ (by decide), up_r _ _ _ _ (by decide)]
    have ew : ∀ k, k ≠ 84 → k ≠ 81 → w' k = w k := fun k q1 q2 => by rw [i2 k q1, up_r _ _ _ _ q2, up_r _ _ _ _ q2]
    refine MS_0 (y := nI (n - 1)) (v' := u) (w' := w') ?_ ?_ (fun k q => ?_) (fun k q => ?_) ⟨⟨l, BR_of hB ?_ ?_ ?_ ?_⟩, TB_of ht ?_ ?_, ?_, ⟨n - 1, x', by omega, hx6, ?_, ?_, ?_, fun t q => ?_⟩⟩ ?_
    · rw [e1]
      unfold tX5_undo_33
      rw [ob, ob, up_c _ _ _ _ (by decide), r5, show nI n - 1 = nI (n - 1) from pk_sub (b := 1) (by omega), hV, hV6, k_row hx6, ob, if_neg one_ne, if_pos (nI_in (by omega) (by decide)), nI_clamp (by omega), g1, ob, g2 0 (by omega), hV5]
    · unfold sX6_undo
      rw [ob, e5, if_neg (nI_ne0 (by omega) (by omega)), ob, show nI n - 1 = nI (n - 1) from pk_sub (b := 1) (by omega)]
      exact i1
    · rw [g2 k (by omega), hVk k (by omega)]
    · exact ew k (by omega) (by omega)
    · rw [g2 _ (by omega), hVk _ (by omega)]
    · rw [g2 _ (by omega), hVk _ (by omega)]
    · rw [i2 81 (by decide), up_c _ _ _ _ (by decide), up_c _ _ _ _ (by decide)]
    · exact ew _ (by decide) (by decide)
    · exact ew _ (by decide) (by decide)
    · exact ew _ (by decide) (by decide)
    · refine SR_congr hS' (fun _ _ _ => rfl) (fun j q => ?_)
      rw [i4 j (by omega) q, e86]
    · rw [g2 0 (by omega)]; exact hV5
    · rw [g2 0 (by omega)]; exact hV6
    · rw [i2 81 (by decide), up_s]
    · have e2 : (x' + 6 - (n - 1) + t) % 6 = (x + 6 - n + t) % 6 := by omega
      rw [e2]
      refine SR_congr (hr t (by omega)) (fun k q1 q2 => ?_) (fun j _ => ?_)
      · rw [g2 k (by omega), hVk k (by omega)]
      · show w' 86 _ = w 86 _
        rw [ew 86 (by decide) (by decide)]
    · rw [i2 81 (by decide), up_c _ _ _ _ (by decide), up_s]
