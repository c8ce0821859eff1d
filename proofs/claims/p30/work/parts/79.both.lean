/-! what was typed, told ahead and entered: one answer -/
theorem bI_inj {b : Bool} (h : bI b = 1) : b = true := (bI_1 b).mp h
theorem p_read {v w : gV} {ws : List Nat} {ask q j : Nat} (h : INV v w) (hT : TYW w ws) (hne : ws ≠ []) (ha : ask < 2) (h55 : w 84 55 = nI ask) (hs : rn ask 0 0 ws = some (q, j)) (hc : compB q j = true) : ∃ w1, sX6_isPossible 1000 w = some (1, w1) ∧ frm w w1 ∧ w1 81 10 = nI ws.length ∧ ∀ p, p < ws.length → w1 88 p = nI (ws.getD p 0) := by
  obtain ⟨⟨l0, hB⟩, ht, hS, hR⟩ := h
  obtain ⟨l, hl60, h7, hTy⟩ := hT
  have f0 := frm_0 w
  cases ws with
  | nil => exact absurd rfl hne
  | cons wd ws =>
    rcases hTy with ⟨e, _⟩ | ⟨_, hTP, hsum⟩
    · cases e
    · obtain ⟨w1, j1, j2, j3, j4, j5, j6⟩ := m_path ha hl60 ws wd (up (up w 81 10 0) 81 11 0) 0 0 0 0 1000 q j (TB_congr ht f0) (by rw [f0.1 84 (by decide) (by decide)]; exact h55) (by rw [f0.2 7 (by decide) (by decide)]; exact h7) (by rw [up_c _ _ _ _ (by decide), up_s]; rfl) (Nat.le_refl _) (by decide) (by decide) (fun _ => rfl) (by rw [f0.1 87 (by decide) (by decide)]; exact hTP) hs hc (by omega)
      have F := frm_trans f0 j2
      refine ⟨w1, ?_, F, ?_, fun p hp => ?_⟩
      · unfold sX6_isPossible
        rw [m_read0, show sX6_read_19 1000 1000 (up (up w 81 10 0) 81 11 0) (nI (stN 0)) (nI 0) (putI 0) (nI 0) = some (nI l, w1) from j1, ob]
        show (if nI l = w1 81 7 then (if w1 81 11 = 0 then some ((0 : Int32), w1) else some (1, w1)) else some (0, w1)) = some (1, w1)
        rw [if_pos (show nI l = w1 81 7 by rw [F.2 7 (by decide) (by decide), h7]), if_neg (show ¬ w1 81 11 = 0 by rw [j3]; exact one_ne)]
      · rw [j4, List.length_cons]
        exact congrArg nI (by omega)
      · have := j6 p (by rw [List.length_cons] at hp; omega)
        rw [show 0 + p = p by omega] at this
        exact this
/-- what an entered text leaves: which answer, which row, which words it was -/
def EP (R : Int32) (s s' B : Nat → Int32) (m : Nat) : Prop := (PO R s s' ∧ ∃ vb, vb ≤ 6 ∧ B 0 = nI (10 + vb)) ∨ ∃ a0 b X, ((B 0 = 21 ∧ a0 = 1) ∨ (B 0 ≠ 21 ∧ a0 = 0)) ∧ b < 4 ∧ B a0 = nI (b + 6) ∧ ((X = -1 ∧ (m ≤ a0 + 1 ∨ 6 ≤ B (a0 + 1))) ∨ ∃ x, x < 6 ∧ a0 + 1 < m ∧ X = nI x ∧ B (a0 + 1) = nI x) ∧ ((R = -5 ∧ s' = s ∧ ∀ c, OKs s c → cn c (fun k => bt (s 57) k && fitB s X (nI b) k) ≠ 1) ∨ (PO R s s' ∧ ∀ c, OKs s c → cn c (fun k => bt (s 57) k && fitB s X (nI b) k) = 1))
/-- the row that was saved last -/
def RW (w w' : gV) : Prop := ∀ n, n ≤ 6 → w 81 5 = nI n → w' 81 5 = nI (nn6 n) ∧ ∀ j, j < 122 → w' 86 (122 * (nn6 n - 1) + j) = w 84 j
theorem p_both {v w w1 : gV} (h : INV v w) (hP : sX6_isPossible 1000 w = some (1, w1)) (F : frm w w1) : ∃ R V W m, w1 81 10 = nI m ∧ m ≤ 21 ∧ (V 84 = w 84 ∧ V 88 = w1 88 ∧ V 81 10 = nI m) ∧ EP R (w 84) (W 84) (w1 88) m ∧ RW w W ∧ (∃ v', sX5_ifEntered 1000 v = some (R, v') ∧ INV v' w ∧ ∀ k, k < 3 ∨ (7 < k ∧ k < 17) ∨ (26 < k ∧ k < 81) → v' k = v k) ∧ sX6_entered 1000 V = some (R, W) ∧ ∀ v0, INV v0 w → ∃ v', sX5_enter 1000 v0 = some (R, v') ∧ INV v' W ∧ v' 1 1 = 0 ∧ W 81 7 = 0 ∧ ∀ x, x < 6 → v' (27 + 9 * x) = v0 (27 + 9 * x) ∨ (v' (27 + 9 * x) 6 = w 84 54 ∧ v' (27 + 9 * x) 7 = w 84 57) := by
  have h0 := h
  obtain ⟨⟨l, hB⟩, ht, hS, n, x, hn, hx, r5, r6, r7, hr⟩ := h
  obtain ⟨ask, ha, h55, hq⟩ := SR_ask hS
  obtain ⟨w2, i1, i2, i3, i4, i5, i6⟩ := m_save (w := w1) hn (by rw [F.2 5 (by decide) (by decide)]; exact r7)
  generalize hV : up w2 81 7 0 = V
  have hVk : ∀ k, k ≠ 81 → V k = w2 k := fun k q => by rw [← hV, up_r _ _ _ _ q]
  have hVj : ∀ j, j ≠ 7 → V 81 j = w2 81 j := fun j q => by rw [← hV, up_c _ _ _ _ q]
  have e84 : V 84 = w 84 := by rw [hVk 84 (by decide), i2 84 (by decide) (by decide), F.1 84 (by decide) (by decide)]
  have e88 : V 88 = w1 88 := by rw [hVk 88 (by decide), i2 88 (by decide) (by decide)]
  have eW : ∀ m, Wm V m = Wm w1 m := fun m => by funext p; unfold Wm; rw [e88]
  have bot : ∀ v0, INV v0 w → ∃ v1 m, sX5_readBuffer 1000 v0 = some (1, v1) ∧ (∀ k, k < 3 ∨ 7 < k → v1 k = v0 k) ∧ (∀ j, j < 8 → v1 7 j = 0) ∧ m ≤ 21 ∧ w1 81 10 = nI m ∧ Fin v1 (Wm w1 m) m ∧ (v1 4 3 = -1 → w 84 55 = 1) := by
    intro v0 hv0
    obtain ⟨⟨l', hB'⟩, ht', hS', _⟩ := hv0
    obtain ⟨ask', ha', h55', hq'⟩ := SR_ask hS'
    obtain ⟨b, v1, w1', g1, g2, g3, g4, g5, g6⟩ := b_read hB' ht' ha' h55' hq'
    rw [hP] at g2
    have e := Option.some.inj g2
    have eb : b = true := bI_inj (congrArg Prod.fst e).symm
    have ew : w1 = w1' := congrArg Prod.snd e
    subst ew
    subst eb
    obtain ⟨m, hm, h10, hF, hask⟩ := g6 rfl
    exact ⟨v1, m, g1, g3, g4, hm, h10, hF, fun q => by rw [h55', hask q]; rfl⟩
  obtain ⟨v1, m, g1, g3, g4, hm, h10, hF, hask⟩ := bot v h0
  have hS1 : SR v1 8 (w 84) := SR_congr hS (fun k q1 q2 => g3 k (by omega)) (fun _ _ => rfl)
  obtain ⟨U, s1, s2, s3⟩ := k_cpyS (a := 17) (b := 8) (by omega) v1 (SR_5 hS1)
  obtain ⟨R, v', W, n1, n2, n3, n4, n5, n6⟩ := b_entered (v := U) (w := V) (a := 17) (m := m) (by decide) (by
    rw [e84]
    exact SR_cpy hS1 s3) hm (by rw [hVj 10 (by decide), i3 10 (by decide)]; exact h10) (by
    rw [eW]
    exact Fin_congr hF (s2 4 (by decide)) (s2 5 (by decide)) (s2 6 (by decide))) (fun j q => by rw [s2 7 (by decide)]; exact g4 j q) (fun q => by
    rw [s2 4 (by decide)] at q
    rw [e84]
    exact hask q)
  have hcell : ∀ k, k < 3 ∨ (7 < k ∧ k < 17) ∨ (26 < k ∧ k < 81) → v' k = v k := fun k q => by rw [n4 k (by omega), s2 k (by omega), g3 k (by omega)]
  refine ⟨R, V, W, m, h10, hm, ⟨e84, e88, (by rw [hVj 10 (by decide), i3 10 (by decide)]; exact h10)⟩, ?_, ?_, ⟨v', ?_, INV_congr h0 hcell (fun _ _ => rfl) rfl rfl, hcell⟩, n2, fun v0 hv0 => ?_⟩
  · unfold EP
    rw [← e88, ← e84]
    rcases n6 with q | ⟨a0, b, X, q1, q2, q3, q4, q5⟩
    · exact Or.inl q
    · refine Or.inr ⟨a0, b, X, q1, q2, q3, q4, ?_⟩
      rcases q5 with ⟨z1, z2, z3⟩ | z
      · exact Or.inl ⟨z1, by rw [z2], z3⟩
      · exact Or.inr z
  · intro n' hn' e5
    have : n' = n := (nI_eq (by omega) (by omega)).mp (e5.symm.trans r7)
    subst this
    refine ⟨?_, fun j hj => ?_⟩
    · rw [n5.2 5 (by decide), hVj 5 (by decide), i4]
    · rw [n5.1 86 (by decide) (by decide), hVk 86 (by decide), i6 j hj, F.1 84 (by decide) (by decide)]
  · unfold sX5_ifEntered
    rw [g1, ob, if_neg one_ne, s1, ob, n1, ob]
  · obtain ⟨y1, m', p1, p3, p4, hm', h10', pF, pask⟩ := bot v0 hv0
    have em : m' = m := (nI_eq (by omega) (by omega)).mp (h10'.symm.trans h10)
    subst em
    obtain ⟨⟨l', hB'⟩, ht', hS', hR'⟩ := hv0
    have pS1 : SR y1 8 (w1 84) := by
      rw [F.1 84 (by decide) (by decide)]
      exact SR_congr hS' (fun k q1 q2 => p3 k (by omega)) (fun _ _ => rfl)
    have hR1 : RG y1 w1 := RG_of hR' (p3 0 (by decide)) (fun k q => p3 k (by omega)) (F.1 86 (by decide) (by decide)) (F.2 5 (by decide) (by decide))
    obtain ⟨v2, w2', t1, t2, t3, t4, t5, t6⟩ := b_save pS1 hR1
    rw [i1] at t2
    have ew := Option.some.inj t2
    subst ew
    obtain ⟨n', x', hn', hx', y5, y6, y7, _⟩ := hR1
    obtain ⟨v2', z1, z2, z3, z4, z5⟩ := k_save hn' hx' y5 y6 pS1
    rw [t1] at z1
    have ev := Option.some.inj z1
    subst ev
    generalize hU : up v2 1 1 0 = U
    have hUk : ∀ k, k ≠ 1 → U k = v2 k := fun k q => by rw [← hU, up_r _ _ _ _ q]
    have hU4 : ∀ k, 3 < k → k < 27 → U k = y1 k := fun k q r => by rw [hUk k (by omega), t4 k (by omega) (by omega)]
    obtain ⟨R', v', W', n1, n2', n3, n4, n5, _⟩ := b_entered (v := U) (w := V) (a := 8) (m := m') (by decide) (by
      rw [e84, ← F.1 84 (by decide) (by decide)]
      exact SR_congr pS1 (fun k q1 q2 => hU4 k (by omega) (by omega)) (fun _ _ => rfl)) hm (by rw [hVj 10 (by decide), i3 10 (by decide)]; exact h10) (by
      rw [eW]
      exact Fin_congr pF (hU4 4 (by decide) (by decide)) (hU4 5 (by decide) (by decide)) (hU4 6 (by decide) (by decide))) (fun j q => by rw [hU4 7 (by decide) (by decide)]; exact p4 j q) (fun q => by
      rw [hU4 4 (by decide) (by decide)] at q
      rw [e84]
      exact pask q)
    rw [n2] at n2'
    have e := Option.some.inj n2'
    have eR : R = R' := congrArg Prod.fst e
    have eWW : W = W' := congrArg Prod.snd e
    subst eR
    subst eWW
    refine ⟨v', ?_, ⟨⟨0, by omega, ?_, ?_, fun i q => by omega⟩, TB_of ht' ?_ ?_, n3, RG_of t3 ?_ (fun k q => ?_) ?_ ?_⟩, ?_, ?_, fun x'' hx'' => ?_⟩
    · unfold sX5_enter
      rw [p1, ob, if_neg one_ne, t1, ob, ob, hU, n1, ob]
    · rw [n4 1 (by decide), ← hU, up_s]; rfl
    · rw [n5.2 7 (by decide), ← hV, up_s]; rfl
    · rw [n5.1 _ (by decide) (by decide), hVk _ (by decide), i2 _ (by decide) (by decide), F.1 _ (by decide) (by decide)]
    · rw [n5.1 _ (by decide) (by decide), hVk _ (by decide), i2 _ (by decide) (by decide), F.1 _ (by decide) (by decide)]
    · rw [n4 _ (by decide), hUk _ (by decide)]
    · rw [n4 _ (by omega), hUk _ (by omega)]
    · rw [n5.1 _ (by decide) (by decide), hVk _ (by decide)]
    · rw [n5.2 _ (by decide), hVj _ (by decide)]
    · rw [n4 1 (by decide), ← hU, up_s]
    · rw [n5.2 7 (by decide), ← hV, up_s]
    · rw [n4 _ (by omega), hUk _ (by omega)]
      by_cases e : x'' = x'
      · right
        rw [e]
        obtain ⟨c, ⟨_, _, _, _, _, _, a6, a7, _⟩, _⟩ := z5
        rw [F.1 84 (by decide) (by decide)] at a6 a7
        exact ⟨a6, a7⟩
      · left
        rw [z2 _ (by omega) (by omega), p3 _ (by omega)]
