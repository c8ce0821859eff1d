/-! undo; what was entered is as was told -/
theorem p_undo {v w : gV} {n : Nat} (h : INV v w) (hn1 : 1 ≤ n) (hn6 : n ≤ 6) (h5 : w 81 5 = nI n) : ∃ v' w', sX5_undo 1000 v = some (nI (n - 1), v') ∧ INV v' w' ∧ v' 1 = v 1 ∧ w' 81 7 = w 81 7 ∧ w' 81 5 = nI (n - 1) ∧ (∀ j, j < 122 → w' 84 j = w 86 (122 * (n - 1) + j)) ∧ (∀ x, x < 6 → v' (27 + 9 * x) = v (27 + 9 * x)) ∧ ∃ x, x < 6 ∧ v' 8 6 = v (27 + 9 * x) 6 ∧ v' 8 7 = v (27 + 9 * x) 7 := by
  obtain ⟨⟨l, hB⟩, ht, hS, n', x, hn, hx, r5, r6, r7, hr⟩ := h
  have en : n' = n := (nI_eq (by omega) (by omega)).mp (r7.symm.trans h5)
  subst en
  have hx' : ∃ x', x' < 6 ∧ (x' = (x + 5) % 6) ∧ sX5_undo 1000 v = sX5_undo_33 1000 v (nI x') := by
    unfold sX5_undo
    rw [r5, if_pos (show 0 < nI n' from nI_lt (a := 0) (by omega) (by omega)), r6]
    by_cases y : x = 0
    · subst y
      exact ⟨5, by decide, by decide, by rw [if_pos (by decide)]; rfl⟩
    · exact ⟨x - 1, by omega, by omega, by rw [if_neg (nI_nle (by omega) (by omega)), show nI x - 1 = nI (x - 1) from pk_sub (b := 1) (by omega)]⟩
  obtain ⟨x', hx6, hxe, e1⟩ := hx'
  have hsl : (x + 6 - n' + (n' - 1)) % 6 = x' := by omega
  have hrow := hr (n' - 1) (by omega)
  rw [hsl] at hrow
  generalize hV : up (up v 0 6 (nI x')) 0 5 (nI (n' - 1)) = V
  have hVk : ∀ k, k ≠ 0 → V k = v k := fun k q => by rw [← hV, up_r _ _ _ _ q, up_r _ _ _ _ q]
  have hV5 : V 0 5 = nI (n' - 1) := by rw [← hV, up_s]
  have hV6 : V 0 6 = nI x' := by rw [← hV, up_c _ _ _ _ (by decide), up_s]
  have hrow' : SR V (27 + 9 * x') (fun j => w 86 (122 * (n' - 1) + j)) := SR_congr hrow (fun k q1 q2 => hVk k (by omega)) (fun _ _ => rfl)
  obtain ⟨u, g1, g2, g3⟩ := k_cpyS (a := 8) (b := 27 + 9 * x') (by omega) V (SR_5 hrow')
  have hS' := SR_cpy hrow' g3
  obtain ⟨w', i1, i2, i3, i4⟩ := m_undoL (n := n' - 1) (by omega) 122 0 (up (up w 81 8 0) 81 5 (nI (n' - 1))) 877 (by omega) (up_s _ _ _ _)
  have e86 : up (up w 81 8 0) 81 5 (nI (n' - 1)) 86 = w 86 := by rw [up_r _ _ _ _ (by decide), up_r _ _ _ _ (by decide)]
  have ew : ∀ k, k ≠ 84 → k ≠ 81 → w' k = w k := fun k q1 q2 => by rw [i2 k q1, up_r _ _ _ _ q2, up_r _ _ _ _ q2]
  refine ⟨u, w', ?_, ⟨⟨l, BR_of hB ?_ ?_ ?_ ?_⟩, TB_of ht ?_ ?_, ?_, ⟨n' - 1, x', by omega, hx6, ?_, ?_, ?_, fun t q => ?_⟩⟩, ?_, ?_, ?_, fun j hj => ?_, fun y hy => ?_, x', hx6, ?_⟩
  · rw [e1]
    unfold sX5_undo_33
    rw [ob, ob, up_c _ _ _ _ (by decide), r5, show nI n' - 1 = nI (n' - 1) from pk_sub (b := 1) (by omega), hV, hV6, k_row hx6, ob, if_neg one_ne, if_pos (nI_in (by omega) (by decide)), nI_clamp (by omega), g1, ob, g2 0 (by omega), hV5]
  · rw [g2 _ (by omega), hVk _ (by omega)]
  · rw [g2 _ (by omega), hVk _ (by omega)]
  · rw [i2 81 (by decide), up_c _ _ _ _ (by decide), up_c _ _ _ _ (by decide)]
  · exact ew _ (by decide) (by decide)
  · exact ew _ (by decide) (by decide)
  · exact ew _ (by decide) (by decide)
  · refine SR_congr hS' (fun _ _ _ => rfl) (fun j q => ?_)
    rw [i4 j (by omega) q, e86]
  · rw [g2 0 (by omega)]; exact hV5
  · rw [g2 0 (by omega)]; exact hV6
  · rw [i2 81 (by decide), up_s]
  · have e2 : (x' + 6 - (n' - 1) + t) % 6 = (x + 6 - n' + t) % 6 := by omega
    rw [e2]
    refine SR_congr (hr t (by omega)) (fun k q1 q2 => ?_) (fun j _ => ?_)
    · rw [g2 k (by omega), hVk k (by omega)]
    · show w' 86 _ = w 86 _
      rw [ew 86 (by decide) (by decide)]
  · rw [g2 1 (by omega), hVk 1 (by omega)]
  · rw [i2 81 (by decide), up_c _ _ _ _ (by decide), up_c _ _ _ _ (by decide)]
  · rw [i2 81 (by decide), up_s]
  · rw [i4 j (by omega) hj, e86]
  · rw [g2 _ (by omega), hVk _ (by omega)]
  · obtain ⟨c, ⟨_, _, _, _, _, _, a6, a7, _⟩, _⟩ := hrow
    obtain ⟨c2, ⟨_, _, _, _, _, _, b6, b7, _⟩, _⟩ := hS'
    exact ⟨b6.trans a6.symm, b7.trans a7.symm⟩
theorem cmp_self (x : Int64) : lg_cmp x x = 0 := by
  unfold lg_cmp
  rw [if_neg (show ¬ x > x from Int64.lt_irrefl), if_pos rfl]
def EQ (R : Int32) (s s' : Nat → Int32) : Prop := (R = -1 ∧ s' 55 = 1 ∧ s' 54 = s 54 + 1 ∧ s' 53 = s 53 ∧ s' 52 = s 52 ∧ ∀ j, j < 50 → s' j = s j) ∨ ((R = -2 ∨ R = -3 ∨ R = -4) ∧ s' 55 = 0 ∧ s' 54 = s 54 ∧ s' 53 = s 53 + 1 ∧ s' 52 = s 52 ∧ ∀ j, j < 50 → s' j = s j) ∨ (R = -5 ∧ s' = s ∧ s 55 = 1) ∨ ∃ n, n ≤ 12 ∧ R = nI n ∧ s' 55 = 0 ∧ s' 54 = s 54 ∧ s' 53 = s 53 ∧ s' 52 = s 52 + 1 ∧ (n = 0 → ∀ j, j < 50 → s' j = s j)
theorem EQ_P {R : Int32} {s s' : Nat → Int32} (h : PO R s s') : EQ R s s' := by
  rcases h with ⟨h1, h2, h3, h4, h5, h6⟩ | ⟨h1, h2, h3, h4, h5, h6⟩ | ⟨n, h0, h1, h2, h3, h4, h5, h6⟩
  · exact Or.inl ⟨h1, h2, h3, h5, h4, fun j hj => h6 j (by omega)⟩
  · exact Or.inr (Or.inl ⟨h1, h2, h5, h3, h4, fun j hj => h6 j (by omega)⟩)
  · exact Or.inr (Or.inr (Or.inr ⟨n, h0, h1, h2, h5, h4, h3, h6⟩))
theorem EQ_E {R : Int32} {s s' B : Nat → Int32} {m : Nat} (h : EP R s s' B m) (ha : s 55 = 1 ∨ ∃ vb, vb ≤ 6 ∧ B 0 = nI (10 + vb)) : EQ R s s' := by
  rcases h with ⟨h, _⟩ | ⟨a0, b, X, h1, h2, h3, _, ⟨h5, h6, _⟩ | ⟨h5, _⟩⟩
  · exact EQ_P h
  · refine Or.inr (Or.inr (Or.inl ⟨h5, h6, ?_⟩))
    rcases ha with e | ⟨vb, hv, e⟩
    · exact e
    · exfalso
      rcases h1 with ⟨q, _⟩ | ⟨_, q⟩
      · have := (nI_eq (a := 21) (by decide) (by omega)).mp (q.symm.trans e)
        omega
      · rw [q] at h3
        have := (nI_eq (by omega) (by omega)).mp (h3.symm.trans e)
        omega
  · exact EQ_P h5
theorem EQ_r {R : Int32} {s s' : Nat → Int32} (h : EQ R s s') : ¬ R < -5 ∧ ¬ (12 : Int32) < R := by
  rcases h with ⟨e, _⟩ | ⟨e | e | e, _⟩ | ⟨e, _⟩ | ⟨n, hn, e, _⟩
  · rw [e]; decide
  · rw [e]; decide
  · rw [e]; decide
  · rw [e]; decide
  · rw [e]; decide
  · rw [e]; exact ((show ∀ n, n < 13 → ¬ nI n < -5 ∧ ¬ (12 : Int32) < nI n by decide +kernel) n (by omega))
theorem IB_c {v v' w w' : gV} {c c' : Nat} (h : IB v w c) (h' : IB v' w' c') (e : w' 84 0 = w 84 0) : c' = c := by
  have h1 := h.1.2.1
  have h2 := h'.1.2.1
  have h3 := h.1.1
  have h4 := h'.1.1
  rw [e, h1] at h2
  exact ((nI_eq (by omega) (by omega)).mp h2).symm
theorem e_world {v v' w w' : gV} {c c' : Nat} (h : IB v w c) (h' : IB v' w' c') (e : ∀ j, j < 50 → w' 84 j = w 84 j) : sL_world 1000 v' = some (wdA (w 84) c) := by
  have := IB_c h h' (e 0 (by decide))
  subst this
  rw [q_world h', wdA_cong h.1.1 e]
theorem e_188 {v w : gV} {R w1 w9 : Int32} {w2 : Int64} (hS : SR v 8 (w 84)) (hR : ((R = -1 ∨ R = -5) ∧ w 84 55 = 1) ∨ (R ≠ -1 ∧ R ≠ -5 ∧ w 84 55 = 0)) : sL_isEnterSo_188 1000 v w1 w2 w9 R = sL_isEnterSo_222 1000 v w1 w2 w9 := by
  obtain ⟨c, hb, h2⟩ := hS
  have hb : IB v w c := hb
  have h12 := hb.1.1
  unfold sL_isEnterSo_188
  rcases hR with ⟨hR, e⟩ | ⟨n1, n5, e⟩
  · rcases h2 with ⟨q, _⟩ | ⟨_, m, P, vb, L, j, _, _, _, _, _, _, _, _, _, e7, hc⟩
    · rw [q] at e; exact absurd e (by decide)
    · have go : sL_isEnterSo_201 1000 v w1 w2 w9 = sL_isEnterSo_222 1000 v w1 w2 w9 := by
        unfold sL_isEnterSo_201
        rw [q_candidates hb, ob, e7, l_size h12, ob, if_neg (show ¬ nI _ ≤ 1 from nI_ge (a := 1) hc (by have := cn_le c (GG v (8 + 5) (w 84) vb j); omega))]
      rcases hR with q | q
      · rw [if_pos q, go]
      · rw [if_neg (show ¬ R = -1 by rw [q]; decide), if_pos q, go]
  · rcases h2 with ⟨_, _, e7⟩ | ⟨q, _⟩
    · rw [if_neg n1, if_neg n5, q_candidates hb, ob, if_pos e7]
    · rw [q] at e; exact absurd e (by decide)
def CTc (v : gV) (k e : Nat) : Prop := ∃ a, a ≤ e ∧ v k 6 = nI a ∧ (v k 7 ≠ 0 → 1 ≤ a)
def CTA (v : gV) (e : Nat) : Prop := CTc v 8 e ∧ ∀ x, x < 6 → CTc v (27 + 9 * x) e
theorem CTc_mono {v : gV} {k e e' : Nat} (h : CTc v k e) (he : e ≤ e') : CTc v k e' := by
  obtain ⟨a, h1, h2, h3⟩ := h
  exact ⟨a, by omega, h2, h3⟩
theorem CTA_mono {v : gV} {e e' : Nat} (h : CTA v e) (he : e ≤ e') : CTA v e' := ⟨CTc_mono h.1 he, fun x hx => CTc_mono (h.2 x hx) he⟩
theorem CTA_cell {v v' : gV} {e : Nat} (h : CTA v e) (hc : ∀ k, k = 8 ∨ (26 < k ∧ k < 81) → v' k = v k) : CTA v' e := by
  obtain ⟨h1, h2⟩ := h
  refine ⟨?_, fun x hx => ?_⟩
  · unfold CTc
    rw [hc 8 (by omega)]
    exact h1
  · unfold CTc
    rw [hc _ (by omega)]
    exact h2 x hx
theorem up_same (v : gV) (a b : Nat) : up v a b (v a b) = v := by
  funext x y
  by_cases e : x = a
  · subst e
    by_cases e2 : y = b
    · subst e2; rw [up_s]
    · rw [up_c _ _ _ _ e2]
  · rw [up_r _ _ _ _ e]
