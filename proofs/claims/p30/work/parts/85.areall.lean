/-! all but a noun's is so -/
set_option maxRecDepth 100000 in
theorem ab_tab : ∀ vb, vb < 2 → ∀ a, a < 6 → ∀ ask, ask < 2 → rnC (rn ask 0 0 [10 + vb, 17, 18, a]) = true := by decide +kernel
theorem p_289 {v w v2 W : gV} {c n e : Nat} (hb : IB v w c) (h2 : INV v2 W) (h11 : v2 1 1 = 0) (hRW : RW w W) (hn : n ≤ 6) (e5 : w 81 5 = nI n) (hC : CTA v2 e) : ∃ v' w', sL_areAllButSo_289 1000 v2 (dgF (w 84) c) 1 = some (1, v') ∧ INV v' w' ∧ v' 1 1 = 0 ∧ CTA v' e := by
  obtain ⟨k5, krow⟩ := hRW n hn e5
  have hnn : 1 ≤ nn6 n ∧ nn6 n ≤ 6 := by unfold nn6; split <;> omega
  obtain ⟨v4, w4, g1, g2, g3, g4, g5, g6, g7, x, hx, g8, g9⟩ := p_undo h2 hnn.1 hnn.2 k5
  obtain ⟨c4, hb4⟩ := INV_b g2
  have hb4 : IB v4 w4 c4 := hb4
  have erow : ∀ j, j < 122 → w4 84 j = w 84 j := fun j hj => (g6 j hj).trans (krow j hj)
  have ec := IB_c hb hb4 (erow 0 (by decide))
  subst ec
  unfold sL_areAllButSo_289
  rw [g1, ob, if_neg one_ne, if_neg (nI_pos (by omega)), q_digest hb4, ob, dgF_cong hb.1.1 (fun j hj => erow j (by omega)), if_pos (cmp_self _)]
  refine ⟨v4, w4, rfl, g2, by rw [g3]; exact h11, ?_, fun y hy => ?_⟩
  · obtain ⟨a, a1, a2, a3⟩ := hC.2 x hx
    exact ⟨a, a1, by rw [g8]; exact a2, by rw [g9]; exact a3⟩
  · obtain ⟨a, a1, a2, a3⟩ := hC.2 y hy
    exact ⟨a, a1, by rw [g7 y hy]; exact a2, by rw [g7 y hy]; exact a3⟩
theorem p_191 {v w : gV} {c vb fr : Nat} {D : Nat → Bool} {dg : Int64} (hb : IB v w c) (hvb : vb < 2) (hz : cn c D ≠ 0) (hfr : fr ≤ 12) (hp : ∀ k, k < c → D k = true → cn (k + 1) D ≤ fr → w 84 (4 * k + 3) = if vb = 0 then 4 else w 84 49) : sL_areAllButSo_191 1000 1000 v (nI vb) (mk c D) (nI (min (cn c D) fr)) dg 1 0 0 = sL_areAllButSo_289 1000 v dg 1 := by
  have h12 := hb.1.1
  have hcl := cn_le c D
  have go : ∀ d i K, i + d = c → sL_areAllButSo_191 1000 (K + 1 + d) v (nI vb) (mk c D) (nI (min (cn c D) fr)) dg 1 (nI (cn i D)) (nI i) = sL_areAllButSo_289 1000 v dg 1 := by
    intro d
    induction d with
    | zero =>
      intro i K hi
      have : i = c := by omega
      subst this
      show sL_areAllButSo_191 1000 (K + 1) v (nI vb) (mk i D) (nI (min (cn i D) fr)) dg 1 (nI (cn i D)) (nI i) = _
      unfold sL_areAllButSo_191
      rw [q_objects hb, ob, if_pos (s_ge (c := i) rfl rfl h12)]
    | succ d ih =>
      intro i K hi
      have e := ih (i + 1) K (by omega)
      have hci := cn_le i D
      show sL_areAllButSo_191 1000 ((K + 1 + d) + 1) v (nI vb) (mk c D) (nI (min (cn c D) fr)) dg 1 (nI (cn i D)) (nI i) = _
      rw [← e]
      conv => lhs; unfold sL_areAllButSo_191
      rw [q_objects hb, ob, if_neg (s_le (c := c) rfl (by omega) h12), if_neg (fun q => hz ((mk_ne h12).mp q)), shr1 h12 D (by omega), decide_eq_true (show i < c by omega), Bool.true_and]
      unfold sL_areAllButSo_221 sL_areAllButSo_235
      by_cases z : D i = true
      · rw [z, if_pos bI_t, if_neg one_ne, if_neg one_ne, if_neg one_ne, nI_1, nI_1, ← cn_s1 z]
        by_cases y : min (cn c D) fr < cn (i + 1) D
        · rw [if_pos (nI_lt y (by have := cn_le (i + 1) D; omega))]
        · have hpl := hp i (by omega) z (by omega)
          rw [if_neg (nI_nlt (Nat.le_of_not_lt y) (by omega)), q_place hb (by omega), ob, hpl]
          unfold sL_areAllButSo_273
          by_cases q : vb = 0
          · rw [if_pos (show nI vb = 0 by rw [q]; rfl), if_pos q, if_pos rfl, nI_1]
          · rw [if_neg (show ¬ nI vb = 0 from fun y => q ((nI_eq (b := 0) (by omega) (by decide)).mp y)), if_neg q, q_room hb, ob, if_pos rfl, nI_1]
      · have z' : D i = false := by simpa using z
        rw [z', if_neg (by decide), if_pos rfl, if_neg one_ne, if_pos rfl, add_0, nI_1, ← cn_s0 z]
  have e := go c 0 (999 - c) (by omega)
  rw [show (999 - c) + 1 + c = 1000 by omega] at e
  exact e
theorem p_areAllButSo {v w : gV} {e : Nat} (h : INV v w) (h11 : v 1 1 = 0) (hC : CTA v e) (he : e < 1000) (x : Int32) : ∃ v' w', sL_areAllButSo 1000 v x = some (1, v') ∧ INV v' w' ∧ v' 1 1 = 0 ∧ CTA v' (e + 1) := by
  obtain ⟨c, hb⟩ := INV_b h
  have hb : IB v w c := hb
  have h12 := hb.1.1
  obtain ⟨a, ha, ea⟩ := l_low (x >>> (4 &&& 31)) (n := 6) (by decide) (by decide)
  obtain ⟨vb, hvb, eb⟩ := l_low (x >>> (7 &&& 31)) (n := 2) (by decide) (by decide)
  have hL4 := hb.1.2.2.2.2.2.1 4 (by decide) (by decide)
  rw [if_pos rfl] at hL4
  have hL4 : cn c (inB (w 84) 4) ≤ 6 := hL4
  have hcl := cn_le c (DN (w 84) vb a)
  have hD : mk c (suitB (w 84) vb) &&& (mk c (fitB (w 84) (nI a) (-1)) ^^^ (-1)) = mk c (DN (w 84) vb a) := mk_andn (by omega) _ _
  have hfr : frN (w 84) c vb ≤ 12 := by unfold frN; split <;> omega
  have hl0 := len_tab (10 + vb) (by omega)
  have hl3 := len_tab a (by omega)
  have l17 : lenW 17 = 3 := rfl
  have l18 : lenW 18 = 3 := rfl
  obtain ⟨r1, v1, w1, g1, g2, g3, g4⟩ := p_append h (TY0 h h11) (show 10 + vb < 25 by omega) (by show 0 + lenW (10 + vb) ≤ 60; omega)
  obtain ⟨r2, v2, w2, j1, j2, j3, j4⟩ := p_append g2 g4 (show 17 < 25 by omega) (by show (lenW (10 + vb) + 1 + 0) + lenW 17 ≤ 60; omega)
  obtain ⟨r3, v3, w3, k1, k2, k3, k4⟩ := p_append j2 j4 (show 18 < 25 by omega) (by show (lenW (10 + vb) + 1 + (lenW 17 + 1 + 0)) + lenW 18 ≤ 60; omega)
  obtain ⟨r4, v4, w4, n1, n2, n3, n4⟩ := p_append k2 k4 (show a < 25 by omega) (by show (lenW (10 + vb) + 1 + (lenW 17 + 1 + (lenW 18 + 1 + 0))) + lenW a ≤ 60; omega)
  have hK : KP v v4 w w4 := KP_trans (KP_trans (KP_trans g3 j3) k3) n3
  have e84 : w4 84 = w 84 := hK.2.1 84 (by decide) (by decide)
  have hb4 : IB v4 w4 c := KP_IB hK hb
  have hC4 : CTA v4 e := CTA_cell hC (fun k q => hK.1 k (by omega) (by omega))
  have hT : TYW w4 [10 + vb, 17, 18, a] := n4
  obtain ⟨ask, hask, h55, _⟩ := SR_ask n2.2.2.1
  obtain ⟨q, j, hr, hc⟩ := rnC_of (ab_tab vb hvb a ha ask hask)
  obtain ⟨wr, p1, p2, p3, p4⟩ := p_read n2 hT (by simp) hask h55 hr hc
  obtain ⟨R, V, W, m, m1, m2, ⟨mV, m88, m10⟩, b4, b5, _, bE, ben⟩ := p_both n2 p1 p2
  have em : m = 4 := (nI_eq (b := 4) (by omega) (by decide)).mp (m1.symm.trans p3)
  subst em
  obtain ⟨R', W', x1, x2⟩ := m_allbut (V := V) (c := c) (vb := vb) (a := a) (by rw [mV, e84]; exact hb.1) m10 hvb ha (by rw [m88]; exact p4 0 (show 0 < 4 by decide)) (by rw [m88]; exact p4 1 (show 1 < 4 by decide)) (by rw [m88]; exact p4 2 (show 2 < 4 by decide)) (by rw [m88]; exact p4 3 (show 3 < 4 by decide))
  rw [bE] at x1
  have eo := Option.some.inj x1
  have eR : R = R' := congrArg Prod.fst eo
  have eW : W = W' := congrArg Prod.snd eo
  subst eR
  subst eW
  rw [mV, e84] at x2
  obtain ⟨x3, x4⟩ := x2
  obtain ⟨v5, y1, y2, y3, y4, y5⟩ := ben v4 n2
  have hE : EQ R (w4 84) (W 84) := EQ_E b4 (Or.inr ⟨vb, by omega, p4 0 (show 0 < 4 by decide)⟩)
  have hC5 : CTA v5 (e + 1) := CT_en (c2 := c) hC4 he n2.2.2.1 y2.2.2.1 hE y5
  obtain ⟨_, _, _, n, xx, hn, _, z5, _, z7, _⟩ := id n2
  obtain ⟨v6, w6, f1, f2, f3, f4⟩ := p_289 hb4 y2 y3 b5 hn z7 hC5
  rw [e84] at f1
  have fin : sL_areAllButSo_191 1000 1000 v5 (nI vb) (mk c (DN (w 84) vb a)) (nI (min (cn c (DN (w 84) vb a)) (frN (w 84) c vb))) (dgF (w 84) c) 1 0 0 = some (1, v6) := by
    rw [← f1]
    by_cases z : cn c (DN (w 84) vb a) = 0
    · obtain ⟨c5, hb5⟩ := INV_b y2
      have hb5 : IB v5 W c5 := hb5
      have e0 : mk c (DN (w 84) vb a) = 0 := (mk_ne h12).mpr z
      have key : ∀ K, sL_areAllButSo_191 1000 (K + 1) v5 (nI vb) (mk c (DN (w 84) vb a)) (nI (min (cn c (DN (w 84) vb a)) (frN (w 84) c vb))) (dgF (w 84) c) 1 0 0 = sL_areAllButSo_289 1000 v5 (dgF (w 84) c) 1 := by
        intro K
        conv => lhs; unfold sL_areAllButSo_191
        rw [q_objects hb5, ob, if_pos e0]
        split <;> rfl
      exact key 999
    · obtain ⟨t1, t2, t3, t4, t5, t6⟩ := x4 z
      obtain ⟨c5, hb5⟩ := INV_b y2
      have hb5 : IB v5 W c5 := hb5
      have ec := IB_c hb hb5 t2
      subst ec
      exact p_191 hb5 hvb z hfr (fun k q1 q2 q3 => by rw [t3]; exact t6 k q1 q2 q3)
  have e138 : (if mk c (DN (w 84) vb a) = 0 then sL_areAllButSo_138 1000 v5 (nI vb) (mk c (DN (w 84) vb a)) (nI (min (cn c (DN (w 84) vb a)) (frN (w 84) c vb))) (dgF (w 84) c) R (-3) else sL_areAllButSo_138 1000 v5 (nI vb) (mk c (DN (w 84) vb a)) (nI (min (cn c (DN (w 84) vb a)) (frN (w 84) c vb))) (dgF (w 84) c) R (nI (min (cn c (DN (w 84) vb a)) (frN (w 84) c vb)))) = some (1, v6) := by
    rw [← fin]
    unfold sL_areAllButSo_138
    by_cases z : cn c (DN (w 84) vb a) = 0
    · have e0 : mk c (DN (w 84) vb a) = 0 := (mk_ne h12).mpr z
      rw [if_pos e0, if_pos (x3 z), if_pos e0]
    · obtain ⟨t1, t2, t3, t4, t5, t6⟩ := x4 z
      obtain ⟨c5, hb5⟩ := INV_b y2
      have hb5 : IB v5 W c5 := hb5
      have e0 : ¬ mk c (DN (w 84) vb a) = 0 := fun q => z ((mk_ne h12).mp q)
      rw [if_neg e0, if_pos t1, if_neg e0, l_size h12, ob]
      by_cases y : cn c (DN (w 84) vb a) = 1
      · obtain ⟨jj, u1, u2⟩ := t4 y
        rw [if_pos (show nI (cn c (DN (w 84) vb a)) = 1 by rw [y]; rfl), q_it hb5, ob, u1, pw_e, if_pos u2.symm]
      · rw [if_neg (show ¬ nI (cn c (DN (w 84) vb a)) = 1 from fun q => y ((nI_eq (b := 1) (by omega) (by decide)).mp q)), q_them hb5, ob, if_pos (t5 y)]
  have e81 : sL_areAllButSo_81 1000 v (nI a) (nI vb) (mk c (DN (w 84) vb a)) (nI (min (cn c (DN (w 84) vb a)) (frN (w 84) c vb))) = some (1, v6) := by
    unfold sL_areAllButSo_81
    rw [q_digest hb, ob, show (10 : Int32) + nI vb = nI (10 + vb) from nI_add 10 vb, g1, ob]
    dsimp only
    rw [show sX5_appendWord 1000 v1 17 = some (r2, v2) from j1, ob]
    dsimp only
    rw [show sX5_appendWord 1000 v2 18 = some (r3, v3) from k1, ob]
    dsimp only
    rw [n1, ob]
    dsimp only
    rw [y1, ob]
    exact e138
  have e59 : sL_areAllButSo_59 1000 v (nI a) (nI vb) (mk c (DN (w 84) vb a)) (nI (frN (w 84) c vb)) = some (1, v6) := by
    unfold sL_areAllButSo_59
    rw [l_size h12, ob, ob]
    by_cases z : frN (w 84) c vb ≤ cn c (DN (w 84) vb a)
    · rw [if_pos (nI_le z (by omega))]
      rw [show min (cn c (DN (w 84) vb a)) (frN (w 84) c vb) = frN (w 84) c vb by omega] at e81
      exact e81
    · rw [if_neg (nI_ge (Nat.lt_of_not_le z) (by omega))]
      rw [show min (cn c (DN (w 84) vb a)) (frN (w 84) c vb) = cn c (DN (w 84) vb a) by omega] at e81
      exact e81
  refine ⟨v6, w6, ?_, f2, f3, f4⟩
  unfold sL_areAllButSo
  rw [show sL_low (x >>> (4 &&& 31)) 6 = some (nI a) from ea, ob, show sL_low (x >>> (7 &&& 31)) 2 = some (nI vb) from eb, ob, q_fittingN hb ha, ob, q_suitable hb (by omega), ob, show sX5_objectsAt 1000 v 4 = some (nI (cn c (inB (w 84) 4))) from q_objectsAt (p := 4) hb (by decide), ob, hD]
  by_cases z : vb = 0
  · rw [if_pos (show nI vb = 0 by rw [z]; rfl), show (6 : Int32) - nI (cn c (inB (w 84) 4)) = nI (frN (w 84) c vb) by unfold frN; rw [if_pos z]; exact pk_sub (a := 6) hL4]
    exact e59
  · rw [if_neg (show ¬ nI vb = 0 from fun y => z ((nI_eq (b := 0) (by omega) (by decide)).mp y)), show (12 : Int32) = nI (frN (w 84) c vb) by unfold frN; rw [if_neg z]; rfl]
    exact e59
