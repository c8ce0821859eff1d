/-! digest on both sides -/
theorem d68 {v : gV} {h : Int64} {k j : Nat} (hj : j ≤ 54) : sX6_digest_68 1000 (k + 1) v h (nI j) = sX6_digest_68 1000 k v (31 * h + (v 84 j).toInt64) (nI (j + 1)) := by
  conv => lhs; unfold sX6_digest_68
  rw [if_neg (show ¬ (54 : Int32) < nI j from nI_nlt (a := 54) hj (by decide)), if_pos (nI_in (by omega) (by decide)), nI_clamp (by omega), nI_1]
theorem d68e {v : gV} {h : Int64} {k : Nat} : sX6_digest_68 1000 (k + 1) v h (nI 55) = sX6_digest_96 1000 1000 v h 0 := by
  conv => lhs; unfold sX6_digest_68
  rw [if_pos (by decide)]
theorem d96 {v : gV} {h : Int64} {k j c : Nat} (hc : c ≤ 12) (h0 : v 84 0 = nI c) (hj : j < 4 * c) : sX6_digest_96 1000 (k + 1) v h (nI j) = sX6_digest_96 1000 k v (31 * h + (v 84 (1 + j)).toInt64) (nI (j + 1)) := by
  conv => lhs; unfold sX6_digest_96
  have e : (1 : Int32) + nI j = nI (1 + j) := nI_add 1 j
  have e4 : (4 : Int32) * nI c = nI (4 * c) := pk_mul 4 c
  rw [h0, e4, if_neg (nI_ge hj (by omega)), e, if_pos (nI_in (by omega) (by decide)), nI_clamp (by omega), nI_1]
theorem b_dig132 {v w : gV} {c : Nat} (y1 : OKs (w 84) c) (y2 : CW v 9 (w 84) c) : ∀ d i h kc km, i + d = 5 → ∃ H, sX5_digest_171 1000 (kc + 1 + d) v h (nI i) = some H ∧ sX6_digest_132 1000 (km + 1 + d) w h (nI i) = some (H, w) := by
  intro d
  induction d with
  | zero =>
    intro i h kc km hi
    have : i = 5 := by omega
    subst this
    unfold sX5_digest_171 sX6_digest_132
    rw [if_pos (by decide), if_pos (by decide)]
    exact ⟨h, rfl, rfl⟩
  | succ d ih =>
    intro i h kc km hi
    obtain ⟨H, g1, g2⟩ := ih (i + 1) (31 * h + (mk c (suitB (w 84) i)).toInt64) kc km (by omega)
    refine ⟨H, ?_, ?_⟩
    · rw [← Nat.add_assoc]
      unfold sX5_digest_171 sX5_mixed
      rw [if_neg (show ¬ (4 : Int32) < nI i from nI_nlt (a := 4) (by omega) (by decide)), k_suit y2 y1 (by omega), ob, ob, nI_1]
      exact g1
    · rw [← Nat.add_assoc]
      unfold sX6_digest_132
      rw [if_neg (show ¬ (5 : Int32) ≤ nI i from nI_ge (b := 5) (by omega) (by decide)), m_suitOnes y1 (by omega), ob, nI_1]
      exact g2
theorem b_dig96 {v w : gV} {c : Nat} (y1 : OKs (w 84) c) (y2 : CW v 9 (w 84) c) : ∀ d i h kc km, i + d = c → ∃ H, sX5_digest_96 1000 (kc + 1 + d) v h (nI i) = sX5_digest_171 1000 1000 v H 0 ∧ sX6_digest_96 1000 (km + 1 + 4 * d) w h (nI (4 * i)) = sX6_digest_132 1000 1000 w H 0 := by
  have hc := y1.1
  intro d
  induction d with
  | zero =>
    intro i h kc km hi
    have : i = c := by omega
    subst this
    unfold sX5_digest_96 sX6_digest_96
    have e4 : (4 : Int32) * nI i = nI (4 * i) := pk_mul 4 i
    rw [y2.1, y1.2.1, e4, if_pos (nI_le (Nat.le_refl _) (by omega)), if_pos (nI_le (Nat.le_refl _) (by omega))]
    exact ⟨h, rfl, rfl⟩
  | succ d ih =>
    intro i h kc km hi
    have ho4 : ((v 9 5) >>> (nI i &&& 31)) &&& 1 = w 84 (4 * i + 4) := by
      rw [y2.2.2.1, shr1 hc _ (by omega), decide_eq_true (show i < c by omega), Bool.true_and]
      obtain ⟨_, _, _, q⟩ := y1.2.2.2.1 i (by omega)
      unfold opB
      rcases q with q | q <;> rw [q] <;> decide
    obtain ⟨e1, e2, e3⟩ := y2.2.2.2 i (by omega)
    obtain ⟨H, g1, g2⟩ := ih (i + 1) (31 * (31 * (31 * (31 * h + (w 84 (4 * i + 1)).toInt64) + (w 84 (4 * i + 2)).toInt64) + (w 84 (4 * i + 3)).toInt64) + (w 84 (4 * i + 4)).toInt64) kc km (by omega)
    refine ⟨H, ?_, ?_⟩
    · rw [← Nat.add_assoc]
      unfold sX5_digest_96 sX5_mixed
      rw [y2.1, if_neg (nI_ge (by omega) (by omega)), if_neg (ge_12 (by omega)), if_pos (in_12 (by omega)), cl_12 (by omega)]
      have hin : ¬ (nI i < 0 ∨ 12 ≤ i) := fun q => q.elim (nI_pos (by omega)) (by omega)
      simp only [if_pos hin, ob]
      rw [ho4, nI_1]
      rw [show v 10 i = w 84 (4 * i + 1) from e1, show v 11 i = w 84 (4 * i + 2) from e2, show v 12 i = w 84 (4 * i + 3) from e3]
      exact g1
    · rw [show km + 1 + 4 * (d + 1) = km + 1 + 4 * d + 1 + 1 + 1 + 1 by omega, d96 hc y1.2.1 (by omega), d96 hc y1.2.1 (by omega), d96 hc y1.2.1 (by omega), d96 hc y1.2.1 (by omega)]
      rw [show 1 + 4 * i = 4 * i + 1 by omega, show 1 + (4 * i + 1) = 4 * i + 2 by omega, show 1 + (4 * i + 1 + 1) = 4 * i + 3 by omega, show 1 + (4 * i + 1 + 1 + 1) = 4 * i + 4 by omega, show 4 * i + 1 + 1 + 1 + 1 = 4 * (i + 1) by omega]
      exact g2
theorem t_digest {v w : gV} (h : INV v w) : ∃ r, sX5_digest 1000 v = some r ∧ sX6_digest 1000 w = some (r, up w 81 8 0) := by
  obtain ⟨c, y1, y2, y3, y4, y5, y6, y7, y8, y9⟩ := INV_b h
  have hc := y1.1
  have e84 : up w 81 8 0 84 = w 84 := u84 _ _ _
  generalize hW : up w 81 8 0 = W at *
  have z1 : OKs (W 84) c := by rw [e84]; exact y1
  have z2 : CW v 9 (W 84) c := by rw [e84]; exact y2
  have eM : ∃ h0 : Int64, sX6_digest 1000 w = sX6_digest_96 1000 1000 W h0 0 ∧ sX5_digest 1000 v = sX5_digest_96 1000 1000 v h0 0 := by
    refine ⟨31 * (31 * (31 * (31 * (31 * (31 * (31 * (31 * (31 * 8144 + (v 9 3).toInt64) + (v 9 4).toInt64) + (mk c (visB (w 84))).toInt64) + (v 8 7).toInt64) + (v 8 2).toInt64) + (v 8 3).toInt64) + (v 8 4).toInt64) + (v 8 5).toInt64) + (v 8 6).toInt64, ?_, ?_⟩
    rotate_left
    · unfold sX5_digest sX5_objects sX5_room sX5_visible sX5_candidates sX5_it sX5_them sX5_executed sX5_failed sX5_asked sX5_mixed
      rw [k_vis y2 y1]
      simp only [ob] <;> rfl
    · unfold sX6_digest
      rw [ob, ob, hW, m_visOnes z1, ob, show (1000 : Nat) = 994 + 1 + 1 + 1 + 1 + 1 + 1 from rfl, show (50 : Int32) = nI 50 from rfl]
      rw [show sX6_digest_68 (994 + 1 + 1 + 1 + 1 + 1 + 1) = sX6_digest_68 1000 from rfl, d68 (by decide), d68 (by decide), d68 (by decide), d68 (by decide), d68 (by decide), d68e, e84, y1.2.1, y2.1, y2.2.1, y3, y4, y5, y6, y7, y8]
  obtain ⟨h0, e1, e2⟩ := eM
  obtain ⟨H, g1, g2⟩ := b_dig96 z1 z2 c 0 h0 (999 - c) (999 - 4 * c) (by omega)
  obtain ⟨r, i1, i2⟩ := b_dig132 z1 z2 5 0 H 994 994 (by omega)
  rw [show 999 - c + 1 + c = 1000 by omega] at g1
  rw [show 999 - 4 * c + 1 + 4 * c = 1000 by omega] at g2
  refine ⟨r, ?_, ?_⟩
  · rw [e2]
    exact Eq.trans g1 i1
  · rw [e1]
    exact Eq.trans g2 i2
