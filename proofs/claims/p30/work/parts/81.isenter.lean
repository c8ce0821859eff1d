/-! isEnterSo says yes -/
theorem f222 {v w v2 W : gV} {c n e : Nat} {u : Int32} (hb : IB v w c) (h2 : INV v2 W) (h11 : v2 1 1 = 0) (h7 : W 81 7 = 0) (hRW : RW w W) (hn : n ≤ 6) (e0 : v 0 5 = nI n) (e5 : w 81 5 = nI n) (hC : CTA v2 e) : ∃ v' w', sL_isEnterSo_222 1000 v2 u (dgF (w 84) c) (v 0 5) = some (1, v') ∧ INV v' w' ∧ v' 1 1 = 0 ∧ w' 81 7 = 0 ∧ CTA v' e := by
  obtain ⟨k5, krow⟩ := hRW n hn e5
  have hnn : 1 ≤ nn6 n ∧ nn6 n ≤ 6 := by unfold nn6; split <;> omega
  have ecl : sX5_clearBuffer v2 = some (0, v2) := by
    unfold sX5_clearBuffer
    rw [ob, h11]
    have := up_same v2 1 1
    rw [h11] at this
    rw [this]
  have esv : sX5_savedStates v2 = some (nI (nn6 n)) := by
    obtain ⟨_, _, _, n2, x2, _, _, r5, _, r7, _⟩ := h2
    show some (v2 0 5) = _
    rw [r5, ← r7, k5]
  have go : ∃ v' w', sL_isEnterSo_257 1000 v2 u (dgF (w 84) c) 1 = some (1, v') ∧ INV v' w' ∧ v' 1 1 = 0 ∧ w' 81 7 = 0 ∧ CTA v' e := by
    unfold sL_isEnterSo_257
    by_cases z : u = 0
    · rw [if_pos z, if_pos (by decide)]
      exact ⟨v2, W, rfl, h2, h11, h7, hC⟩
    · obtain ⟨v4, w4, g1, g2, g3, g4, g5, g6, g7, x, hx, g8, g9⟩ := p_undo h2 hnn.1 hnn.2 k5
      obtain ⟨c4, hb4⟩ := INV_b g2
      have hb4 : IB v4 w4 c4 := hb4
      have erow : ∀ j, j < 122 → w4 84 j = w 84 j := fun j hj => (g6 j hj).trans (krow j hj)
      have ec := IB_c hb hb4 (erow 0 (by decide))
      subst ec
      rw [if_neg z, g1, ob, if_neg one_ne, if_neg (nI_pos (by omega)), q_digest hb4, ob, dgF_cong hb.1.1 (fun j hj => erow j (by omega)), if_pos (cmp_self _)]
      refine ⟨v4, w4, rfl, g2, by rw [g3]; exact h11, by rw [g4]; exact h7, ?_, fun y hy => ?_⟩
      · obtain ⟨a, a1, a2, a3⟩ := hC.2 x hx
        exact ⟨a, a1, by rw [g8]; exact a2, by rw [g9]; exact a3⟩
      · obtain ⟨a, a1, a2, a3⟩ := hC.2 y hy
        exact ⟨a, a1, by rw [g7 y hy]; exact a2, by rw [g7 y hy]; exact a3⟩
  unfold sL_isEnterSo_222 sL_isEnterSo_249
  rw [ecl, ob, if_pos rfl, esv, ob, e0]
  by_cases z : n < 6
  · rw [if_neg (show ¬ (6 : Int32) ≤ nI n from nI_ge (b := 6) z (by decide)), if_pos (show nI (nn6 n) = nI n + 1 by unfold nn6; rw [if_pos z, nI_1])]
    exact go
  · rw [if_pos (show (6 : Int32) ≤ nI n from nI_le (a := 6) (by omega) (by omega)), if_pos (show nI (nn6 n) = 6 by unfold nn6; rw [if_neg z]; rfl)]
    exact go
theorem e_chain {v w v2 W : gV} {c c2 : Nat} {R w1 w9 : Int32} {w2 : Int64} (hb : IB v w c) (h2 : INV v2 W) (hb2 : IB v2 W c2) (hE : EQ R (w 84) (W 84)) : (if R = -1 then (sL_isEnterSo_106 1000 v2 w1 w2 (wdA (w 84) c) (w 84 52) (w 84 53) w9 R (W 84 54) (w 84 54) 1) else (sL_isEnterSo_106 1000 v2 w1 w2 (wdA (w 84) c) (w 84 52) (w 84 53) w9 R (W 84 54) (w 84 54) 0)) = sL_isEnterSo_222 1000 v2 w1 w2 w9 := by
  have z0 : ∀ x : Int32, x = x + 0 := fun x => (Int32.add_zero x).symm
  have hS := h2.2.2.1
  have ew : (∀ j, j < 50 → W 84 j = w 84 j) → sL_world 1000 v2 = some (wdA (w 84) c) := fun e => e_world hb hb2 e
  unfold sL_isEnterSo_106 sL_isEnterSo_134 sL_isEnterSo_154 sL_isEnterSo_173
  rcases hE with ⟨e, h55, h54, h53, h52, hs⟩ | ⟨e, h55, h54, h53, h52, hs⟩ | ⟨e, hs, h55⟩ | ⟨n, hn, e, h55, h54, h53, h52, hs⟩
  · subst e
    rw [if_pos rfl, if_pos h54, q_failed hb2, ob, if_pos (by decide), if_pos (h53.trans (z0 _)), q_executed hb2, ob, if_pos (by decide), if_pos (h52.trans (z0 _)), if_neg (by decide), ew hs, ob, if_pos (cmp_self _), if_neg (by decide), e_188 hS (Or.inl ⟨Or.inl rfl, h55⟩)]
  · have hR : R ≠ -1 ∧ ¬ (-1 : Int32) ≤ R ∧ ¬ R ≤ -5 ∧ R < 0 ∧ ¬ (0 : Int32) ≤ R ∧ R ≠ 0 ∧ R ≠ -5 := by
      rcases e with e | e | e <;> rw [e] <;> decide
    obtain ⟨r1, r2, r3, r4, r5, r6, r7⟩ := hR
    rw [if_neg r1, if_pos (h54.trans (z0 _)), q_failed hb2, ob, if_neg r2, if_neg r3, if_pos h53, q_executed hb2, ob, if_pos r4, if_pos (h52.trans (z0 _)), if_neg r5, ew hs, ob, if_pos (cmp_self _), if_neg r6, e_188 hS (Or.inr ⟨r1, r7, h55⟩)]
  · subst e
    have hx : ∀ j, W 84 j = w 84 j := fun j => by rw [hs]
    rw [if_neg (by decide), if_pos ((hx 54).trans (z0 _)), q_failed hb2, ob, if_neg (by decide), if_pos (by decide), if_pos ((hx 53).trans (z0 _)), q_executed hb2, ob, if_pos (by decide), if_pos ((hx 52).trans (z0 _)), if_neg (by decide), ew (fun j _ => hx j), ob, if_pos (cmp_self _), if_neg (by decide), e_188 hS (Or.inl ⟨Or.inr rfl, (hx 55).trans h55⟩)]
  · have hR : R ≠ -1 ∧ (-1 : Int32) ≤ R ∧ ¬ R < 0 ∧ (0 : Int32) ≤ R ∧ R ≠ -5 := by
      rw [e]
      exact (show ∀ n, n < 13 → nI n ≠ -1 ∧ (-1 : Int32) ≤ nI n ∧ ¬ nI n < 0 ∧ (0 : Int32) ≤ nI n ∧ nI n ≠ -5 by decide +kernel) n (by omega)
    obtain ⟨r1, r2, r3, r4, r5⟩ := hR
    rw [if_neg r1, if_pos (h54.trans (z0 _)), q_failed hb2, ob, if_pos r2, if_pos (h53.trans (z0 _)), q_executed hb2, ob, if_neg r3, if_pos h52, if_pos r4]
    by_cases z : n = 0
    · rw [if_pos (show R = 0 by rw [e, z]; rfl), ew (hs z), ob, if_pos (cmp_self _), e_188 hS (Or.inr ⟨r1, r5, h55⟩)]
    · rw [if_neg (show ¬ R = 0 by rw [e]; exact fun q => z ((nI_eq (b := 0) (by omega) (by decide)).mp q)), e_188 hS (Or.inr ⟨r1, r5, h55⟩)]
theorem CT_en {v1 w v2 W : gV} {c2 e : Nat} {R : Int32} (hC : CTA v1 e) (he : e < 1000) (hb1 : SR v1 8 (w 84)) (h2 : SR v2 8 (W 84)) (hE : EQ R (w 84) (W 84)) (hsl : ∀ x, x < 6 → v2 (27 + 9 * x) = v1 (27 + 9 * x) ∨ (v2 (27 + 9 * x) 6 = w 84 54 ∧ v2 (27 + 9 * x) 7 = w 84 57)) : CTA v2 (e + 1) := by
  obtain ⟨c1, ⟨_, _, _, _, _, _, a6, a7, _⟩, _⟩ := hb1
  obtain ⟨c2', ⟨_, _, _, _, _, _, b6, b7, _⟩, hq⟩ := h2
  obtain ⟨a, ha, ea, ea7⟩ := hC.1
  rw [a6] at ea
  rw [a7] at ea7
  have hz : W 84 55 = 0 → W 84 57 = 0 := by
    intro q
    rcases hq with ⟨_, _, q7⟩ | ⟨q5, _⟩
    · exact q7
    · rw [q] at q5; exact absurd q5 (by decide)
  refine ⟨?_, fun x hx => ?_⟩
  · unfold CTc
    rw [b6, b7]
    rcases hE with ⟨_, h55, h54, _⟩ | ⟨_, h55, h54, _⟩ | ⟨_, hs, _⟩ | ⟨_, _, _, h55, h54, _⟩
    · exact ⟨a + 1, by omega, by rw [h54, ea, nI_1], fun _ => by omega⟩
    · exact ⟨a, by omega, by rw [h54, ea], fun q => absurd (hz h55) q⟩
    · rw [hs]
      exact ⟨a, by omega, ea, ea7⟩
    · exact ⟨a, by omega, by rw [h54, ea], fun q => absurd (hz h55) q⟩
  · rcases hsl x hx with q | ⟨q1, q2⟩
    · unfold CTc
      rw [q]
      exact CTc_mono (hC.2 x hx) (by omega)
    · exact ⟨a, by omega, q1.trans ea, by rw [q2]; exact ea7⟩
def ACC (w : gV) (ws : List Nat) : Prop := ∀ ask, ask < 2 → w 84 55 = nI ask → ∃ q j, rn ask 0 0 ws = some (q, j) ∧ compB q j = true
theorem p_isEnterSo {v w : gV} {ws : List Nat} {e : Nat} {u : Int32} (h : INV v w) (hT : TYW w ws) (hne : ws ≠ []) (hacc : ACC w ws) (hA : w 84 55 = 1 ∨ ∃ vb, vb ≤ 6 ∧ ws.getD 0 0 = 10 + vb) (hC : CTA v e) (he : e < 1000) : ∃ v' w', sL_isEnterSo 1000 v u = some (1, v') ∧ INV v' w' ∧ v' 1 1 = 0 ∧ w' 81 7 = 0 ∧ CTA v' (e + 1) := by
  obtain ⟨ask, ha, h55, _⟩ := SR_ask h.2.2.1
  obtain ⟨q, j, hr, hc⟩ := hacc ask ha h55
  obtain ⟨w1, r1, r2, r3, r4⟩ := p_read h hT hne ha h55 hr hc
  obtain ⟨R, V, W, m, _, _, _, b4, b5, ⟨v1, i1, i2, i3⟩, _, ben⟩ := p_both h r1 r2
  obtain ⟨v2, n1, n2, n3, n4, n5⟩ := ben v1 i2
  obtain ⟨c, hb⟩ := INV_b h
  have hb : IB v w c := hb
  obtain ⟨c1, hb1⟩ := INV_b i2
  have hb1 : IB v1 w c1 := hb1
  have ec := IB_c hb hb1 rfl
  subst ec
  obtain ⟨c2, hb2⟩ := INV_b n2
  have hb2 : IB v2 W c2 := hb2
  have hE : EQ R (w 84) (W 84) := by
    refine EQ_E b4 ?_
    rcases hA with q | ⟨vb, hv, q⟩
    · exact Or.inl q
    · refine Or.inr ⟨vb, hv, ?_⟩
      have hl : 0 < ws.length := by
        cases ws with
        | nil => exact absurd rfl hne
        | cons a b => exact Nat.succ_pos _
      rw [r4 0 hl, q]
  have hC1 : CTA v1 e := CTA_cell hC (fun k q => i3 k (by omega))
  have hC2 : CTA v2 (e + 1) := CT_en (c2 := c2) hC1 he i2.2.2.1 n2.2.2.1 hE n5
  obtain ⟨_, _, _, n, x, hn, _, y5, _, y7, _⟩ := id h
  obtain ⟨v', w', f1, f2, f3, f4, f5⟩ := f222 (u := u) hb n2 n3 n4 b5 hn y5 y7 hC2
  refine ⟨v', w', ?_, f2, f3, f4, f5⟩
  obtain ⟨q5, q12⟩ := EQ_r hE
  unfold sL_isEnterSo
  rw [q_digest hb, ob, q_world hb, ob, q_asked hb, ob, q_executed hb, ob, q_failed hb, ob, show sX5_savedStates v = some (v 0 5) from rfl, ob, i1, ob]
  dsimp only
  rw [q_digest hb1, ob, if_pos (cmp_self _)]
  unfold sL_isEnterSo_55
  rw [n1, ob, if_neg one_ne]
  dsimp only
  rw [if_pos rfl, if_neg q5, if_neg q12, q_asked hb2, ob, e_chain hb n2 hb2 hE]
  exact f1
