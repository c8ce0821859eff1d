/-! verb all but noun, walked in the picture's own rows -/
def DN (s : Nat → Int32) (vb a : Nat) (k : Nat) : Bool := suitB s vb k && !fitB s (nI a) (-1) k
def frN (s : Nat → Int32) (c vb : Nat) : Nat := if vb = 0 then 6 - cn c (inB s 4) else 12
theorem cn_plus {n i : Nat} {P Q : Nat → Bool} (hi : i < n) (h0 : P i = false) (h1 : Q i = true) (h : ∀ k, k < n → k ≠ i → Q k = P k) : cn n Q = cn n P + 1 := by
  induction n with
  | zero => omega
  | succ n ih =>
    show cn n Q + (if Q n = true then 1 else 0) = cn n P + (if P n = true then 1 else 0) + 1
    by_cases e : i = n
    · subst e
      have ec : cn i Q = cn i P := cn_congr fun k hk => h k (by omega) (by omega)
      rw [h0, h1, ec]
      simp
    · have ec := ih (by omega) (fun k hk q => h k (by omega) q)
      rw [ec, h n (by omega) (fun q => e q.symm)]
      omega
theorem cn_ins {s : Nat → Int32} {c i : Nat} {p : Int32} (hi : i < c) (h0 : inB s p i = false) : cn c (inB (upd s (4 * i + 3) p) p) = cn c (inB s p) + 1 := cn_plus hi h0 (by unfold inB; rw [pk_us]; exact decide_eq_true rfl) (fun k _ q => by unfold inB; rw [pk_un (by omega)])
theorem cn_s1 {i : Nat} {D : Nat → Bool} (h : D i = true) : cn (i + 1) D = cn i D + 1 := by
  show cn i D + (if D i = true then 1 else 0) = _
  rw [if_pos h]
theorem cn_s0 {i : Nat} {D : Nat → Bool} (h : ¬ D i = true) : cn (i + 1) D = cn i D := by
  show cn i D + (if D i = true then 1 else 0) = _
  rw [if_neg h]
  rfl
theorem m_dz {V : gV} {c vb free tg i m : Nat} {s : Nat → Int32} (ho : OKs (V 84) c) (hi : i < c) (hvb : vb < 2) (ht1 : vb = 0 → tg = 4) (ht2 : vb = 1 → V 84 49 = nI tg) (hm1 : vb = 0 → cn c (inB (V 84) 4) + free = 6 + m ∧ m ≤ free) (hm2 : vb = 1 → m < free) : sX6_does 1000 V (nI vb) (nI i) 0 = some (bI (decide (m < free)), if decide (m < free) = true then up V 84 (4 * i + 3) (nI tg) else V) := by
  have hc := ho.1
  have e : vb = 0 ∨ vb = 1 := by omega
  rcases e with e | e
  · subst e
    obtain ⟨h1, h2⟩ := hm1 rfl
    have hcl := cn_le c (inB (V 84) 4)
    have ht := ht1 rfl
    subst ht
    unfold sX6_does sX6_does_26
    rw [if_pos (show nI 0 = 0 from rfl), if_pos (show nI 0 = 0 from rfl), m_at ho, ob]
    by_cases z : m < free
    · rw [if_neg (show ¬ (6 : Int32) ≤ nI (cn c (inB (V 84) 4)) from nI_ge (b := 6) (by omega) (by decide)), decide_eq_true z]
      exact m_does70 (vb := 0) (by omega) (by decide) _ true
    · rw [if_pos (show (6 : Int32) ≤ nI (cn c (inB (V 84) 4)) from nI_le (a := 6) (by omega) (by omega)), decide_eq_false z]
      exact m_does70 (vb := 0) (by omega) (by decide) _ false
  · subst e
    have z := hm2 rfl
    have ht := ht2 rfl
    unfold sX6_does sX6_does_26
    rw [if_neg (show ¬ nI 1 = 0 by decide), if_pos (show nI 1 = 1 from rfl), if_neg (show ¬ nI 1 = 0 by decide), if_neg (show ¬ nI 1 = 2 by decide), ht, decide_eq_true z]
    exact m_does70 (vb := 1) (by omega) (by decide) _ true
theorem m_exL {c vb free tg c0 : Nat} {D : Nat → Bool} {s : Nat → Int32} (hvb : vb < 2) (htg : tg < 5) (ht1 : vb = 0 → tg = 4) (ht2 : vb = 1 → tg < 4 ∧ s 49 = nI tg) (hf0 : vb = 0 → c0 + free = 6) (hf1 : vb = 1 → free = 12) (hD0 : vb = 0 → ∀ k, k < c → D k = true → inB s 4 k = false) :
    ∀ d i V km, i + d = c → OKs (V 84) c → V 84 49 = s 49 → (vb = 0 → cn c (inB (V 84) 4) = c0 + min (cn i D) free) → (∀ k, i ≤ k → k < c → V 84 (4 * k + 3) = s (4 * k + 3)) → (∀ k, k < i → D k = true → cn (k + 1) D ≤ free → V 84 (4 * k + 3) = nI tg) →
     ∃ V', sX6_execute_6 1000 (km + d) V (nI vb) (mk c D) 0 (nI (min (cn i D) free)) (nI i) = sX6_execute_6 1000 km V' (nI vb) (mk c D) 0 (nI (min (cn c D) free)) (nI c) ∧ OKs (V' 84) c ∧ (∀ j, 49 ≤ j → V' 84 j = V 84 j) ∧ (∀ k, k < c → D k = true → cn (k + 1) D ≤ free → V' 84 (4 * k + 3) = nI tg) := by
  intro d
  induction d with
  | zero =>
    intro i V km hi ho _ _ _ hp
    have : i = c := by omega
    subst this
    exact ⟨V, rfl, ho, fun _ _ => rfl, hp⟩
  | succ d ih =>
    intro i V km hi ho h49 hcn hr hp
    have hc := ho.1
    have hci := cn_le i D
    have eM : sX6_execute_6 1000 (km + (d + 1)) V (nI vb) (mk c D) 0 (nI (min (cn i D) free)) (nI i) = if D i = true then ((sX6_does 1000 V (nI vb) (nI i) 0).bind fun q_7 => if q_7.1 = 0 then (sX6_execute_6 1000 (km + d) q_7.2 (nI vb) (mk c D) 0 (nI (min (cn i D) free)) (nI (i + 1))) else (sX6_execute_6 1000 (km + d) q_7.2 (nI vb) (mk c D) 0 (nI (min (cn i D) free + 1)) (nI (i + 1)))) else (sX6_execute_6 1000 (km + d) V (nI vb) (mk c D) 0 (nI (min (cn i D) free)) (nI (i + 1))) := by
      rw [← Nat.add_assoc]
      conv => lhs; unfold sX6_execute_6
      rw [if_neg (s_le ho.2.1 (by omega) hc), nI_1, nI_1, add_0]
      by_cases z : D i = true
      · rw [if_pos ((m_tst1 hc (by omega) D).mpr z), if_pos z]
      · rw [if_neg (fun q => z ((m_tst1 hc (by omega) D).mp q)), if_neg z]
    rw [eM]
    by_cases z : D i = true
    · have es := cn_s1 z
      rw [if_pos z, m_dz (free := free) (tg := tg) (m := min (cn i D) free) (s := s) ho (by omega) hvb ht1 (fun q => h49.trans (ht2 q).2) (fun q => by
        have := hcn q
        have := hf0 q
        omega) (fun q => by
        have := hf1 q
        omega), ob]
      dsimp only
      by_cases y : min (cn i D) free < free
      · rw [decide_eq_true y, if_neg bIt_ne, if_pos rfl]
        have em : min (cn i D) free + 1 = min (cn (i + 1) D) free := by omega
        rw [em]
        have e84 : up V 84 (4 * i + 3) (nI tg) 84 = upd (V 84) (4 * i + 3) (nI tg) := s84 _ _ _
        have hi0 : vb = 0 → inB (V 84) 4 i = false := fun q => by
          have h1 := hD0 q i (by omega) z
          unfold inB at h1 ⊢
          rw [hr i (Nat.le_refl _) (by omega)]
          exact h1
        obtain ⟨V', g1, g2, g3, g4⟩ := ih (i + 1) (up V 84 (4 * i + 3) (nI tg)) km (by omega) (by
          rw [e84]
          refine OK_pl ho (by omega) (by omega) ?_ (Or.inl htg)
          by_cases q : vb = 0
          · have h1 := hcn q
            have h2 := hf0 q
            have h3 := ht1 q
            subst h3
            refine Or.inr ?_
            rw [if_pos rfl]
            show cn c (inB (V 84) 4) < 6
            omega
          · exact Or.inl (ht2 (by omega)).1) (by rw [e84, pk_un (by omega)]; exact h49) (fun q => by
          have h1 := hcn q
          have h3 := ht1 q
          subst h3
          rw [e84]
          have h4 : cn c (inB (upd (V 84) (4 * i + 3) (nI 4)) (nI 4)) = cn c (inB (V 84) (nI 4)) + 1 := cn_ins (by omega) (hi0 q)
          have h5 : cn c (inB (upd (V 84) (4 * i + 3) (nI 4)) 4) = cn c (inB (V 84) 4) + 1 := h4
          rw [h5]
          omega) (fun k q1 q2 => by rw [e84, pk_un (by omega)]; exact hr k (by omega) q2) (fun k q1 q2 q3 => by
          rw [e84]
          by_cases w : k = i
          · rw [w, pk_us]
          · rw [pk_un (by omega)]
            exact hp k (by omega) q2 q3)
        exact ⟨V', g1, g2, fun j q => by rw [g3 j q, e84, pk_un (by omega)], g4⟩
      · rw [decide_eq_false y, if_pos bIf_eq, if_neg (by decide)]
        have em : min (cn i D) free = min (cn (i + 1) D) free := by omega
        rw [em]
        exact ih (i + 1) V km (by omega) ho h49 (fun q => by rw [← em]; exact hcn q) (fun k q1 q2 => hr k (by omega) q2) (fun k q1 q2 q3 => by
          by_cases w : k = i
          · exfalso
            rw [w] at q3
            omega
          · exact hp k (by omega) q2 q3)
    · have es := cn_s0 z
      rw [if_neg z, ← es]
      exact ih (i + 1) V km (by omega) ho h49 (fun q => by rw [es]; exact hcn q) (fun k q1 q2 => hr k (by omega) q2) (fun k q1 q2 q3 => by
        by_cases w : k = i
        · exact absurd (by rw [← w]; exact q2) z
        · exact hp k (by omega) q2 q3)
theorem m_exe {V : gV} {c vb free tg : Nat} {D : Nat → Bool} (ho : OKs (V 84) c) (hvb : vb < 2) (htg : tg < 5) (ht1 : vb = 0 → tg = 4) (ht2 : vb = 1 → tg < 4 ∧ V 84 49 = nI tg) (hf0 : vb = 0 → cn c (inB (V 84) 4) + free = 6) (hf1 : vb = 1 → free = 12) (hD0 : vb = 0 → ∀ k, k < c → D k = true → inB (V 84) 4 k = false) :
    ∃ V', sX6_execute 1000 V (nI vb) (mk c D) 0 = some (nI (min (cn c D) free), V') ∧ V' 84 0 = nI c ∧ V' 84 49 = V 84 49 ∧ (cn c D = 1 → ∃ j, V' 84 50 = nI j ∧ mk c D = pw j) ∧ (cn c D ≠ 1 → cn c D ≠ 0 → V' 84 51 = mk c D) ∧ ∀ k, k < c → D k = true → cn (k + 1) D ≤ free → V' 84 (4 * k + 3) = nI tg := by
  have hc := ho.1
  obtain ⟨V', g1, g2, g3, g4⟩ := m_exL (D := D) (c0 := cn c (inB (V 84) 4)) (s := V 84) hvb htg ht1 ht2 hf0 hf1 hD0 c 0 V ((999 - c) + 1) (by omega) ho rfl (fun _ => by
    show _ = _ + min 0 free
    omega) (fun _ _ _ => rfl) (fun k q => absurd q (Nat.not_lt_zero k))
  rw [show 999 - c + 1 + c = 1000 by omega] at g1
  have e0 : nI (min (cn 0 D) free) = 0 := by
    show nI (min 0 free) = 0
    rw [show min 0 free = 0 by omega]
    rfl
  rw [e0] at g1
  have g1' : sX6_execute 1000 V (nI vb) (mk c D) 0 = sX6_execute_6 1000 (999 - c + 1) V' (nI vb) (mk c D) 0 (nI (min (cn c D) free)) (nI c) := g1
  have hp50 : ¬ ((50 : Int32) < 0 ∨ 122 ≤ (50 : Int32).toNatClampNeg) := by decide
  have h50 : (50 : Int32).toNatClampNeg = 50 := by decide
  have hcl := cn_le c D
  rw [g1']
  unfold sX6_execute_6 sX6_execute_82
  rw [if_pos (s_ge g2.2.1 rfl hc), m_size hc, ob]
  simp only [if_pos hp50, h50, ob]
  by_cases z : cn c D = 1
  · obtain ⟨j, hj, ej⟩ := cn_one hc z
    have hn : nI (cn c D) = 1 := by rw [z]; rfl
    rw [if_pos hn, m_low hc hj, ob, if_pos (show nI (cn c D) ≤ 1 by rw [z]; decide)]
    refine ⟨_, rfl, ?_, ?_, fun _ => ⟨j, ?_, ej⟩, fun q => absurd z q, fun k q1 q2 q3 => ?_⟩
    · rw [s84, s84, pk_un (by decide), pk_un (by decide)]; exact g2.2.1
    · rw [s84, s84, pk_un (by decide), pk_un (by decide)]; exact g3 49 (by decide)
    · rw [s84, s84, pk_un (by decide), pk_us]
    · rw [s84, s84, pk_un (by omega), pk_un (by omega)]; exact g4 k q1 q2 q3
  · have hn : ¬ nI (cn c D) = 1 := fun q => z ((nI_eq (b := 1) (by omega) (by decide)).mp q)
    rw [if_neg hn]
    by_cases z0 : cn c D = 0
    · rw [if_pos (show nI (cn c D) ≤ 1 by rw [z0]; decide)]
      refine ⟨_, rfl, ?_, ?_, fun q => absurd q z, fun _ q => absurd z0 q, fun k q1 q2 q3 => ?_⟩
      · rw [s84, s84, pk_un (by decide), pk_un (by decide)]; exact g2.2.1
      · rw [s84, s84, pk_un (by decide), pk_un (by decide)]; exact g3 49 (by decide)
      · rw [s84, s84, pk_un (by omega), pk_un (by omega)]; exact g4 k q1 q2 q3
    · rw [if_neg (show ¬ nI (cn c D) ≤ 1 from nI_ge (a := 1) (by omega) (by omega))]
      refine ⟨_, rfl, ?_, ?_, fun q => absurd q z, fun _ _ => ?_, fun k q1 q2 q3 => ?_⟩
      · rw [s84, s84, pk_un (by decide), pk_un (by decide)]; exact g2.2.1
      · rw [s84, s84, pk_un (by decide), pk_un (by decide)]; exact g3 49 (by decide)
      · rw [s84, pk_us]
      · rw [s84, s84, pk_un (by omega), pk_un (by omega)]; exact g4 k q1 q2 q3
theorem m_96 {V : gV} {R : Int32} (hR : R ≠ -1) : ∃ W, sX6_run_96 1000 V R = some (R, W) ∧ ∀ j, j < 52 → W 84 j = V 84 j := by
  have hp52 : ¬ ((52 : Int32) < 0 ∨ 122 ≤ (52 : Int32).toNatClampNeg) := by decide
  have h52 : (52 : Int32).toNatClampNeg = 52 := by decide
  have hp53 : ¬ ((53 : Int32) < 0 ∨ 122 ≤ (53 : Int32).toNatClampNeg) := by decide
  have h53 : (53 : Int32).toNatClampNeg = 53 := by decide
  have fin : ∀ w : gV, (∀ j, j < 52 → w 84 j = V 84 j) → ∃ W, ((sX6_closeQuestion 1000 w).bind fun q_6 => some (R, q_6)) = some (R, W) ∧ ∀ j, j < 52 → W 84 j = V 84 j := by
    intro w hw
    obtain ⟨u, g1, _, g3, _⟩ := m_close (v := w)
    rw [g1, ob]
    exact ⟨u, rfl, fun j q => by rw [g3 j (by omega)]; exact hw j q⟩
  unfold sX6_run_96 sX6_run_139 sX6_run_158
  simp only [if_pos hp52, h52, if_pos hp53, h53, ob, if_neg hR]
  by_cases z : 0 ≤ R
  · rw [if_pos z, if_pos z]
    exact fin _ fun j q => by rw [s84, s84, pk_un (by omega), pk_un (by omega)]
  · rw [if_neg z, if_neg z]
    exact fin _ fun j q => by rw [s84, s84, pk_un (by omega), pk_un (by omega)]
theorem m_28e {V : gV} {c km : Nat} {D : Nat → Bool} (hc : c ≤ 12) (h12 : V 81 12 = nI 4) (w4 : Wv (V 84) 4 = -1) : ∃ V', sX6_resolveObjects_28 1000 (km + 1) V (mk c D) = some (mk c D, V') ∧ V' 84 = V 84 ∧ V' 81 13 = if cn c D = 0 then -3 else 0 := by
  unfold sX6_resolveObjects_28
  rw [h12, m_word (by decide), ob, w4, if_neg (by decide), ob, if_neg (by decide)]
  by_cases z : cn c D = 0
  · rw [if_pos ((mk_ne hc).mpr z), ob]
    exact ⟨_, rfl, u84 _ _ _, by rw [u81, if_pos rfl, if_pos z]⟩
  · rw [if_neg (fun q => z ((mk_ne hc).mp q)), ob]
    exact ⟨_, rfl, u84 _ _ _, by rw [u81, if_pos rfl, if_neg z]⟩
theorem m_28b {V : gV} {c km a : Nat} {S : Nat → Bool} (ho : OKs (V 84) c) (ha : a < 6) (h12 : V 81 12 = nI 2) (w2 : Wv (V 84) 2 = 18) (w3 : Wv (V 84) 3 = nI a) (w4 : Wv (V 84) 4 = -1) : ∃ V', sX6_resolveObjects_28 1000 (km + 1 + 1) V (mk c S) = some (mk c (fun k => S k && !fitB (V 84) (nI a) (-1) k), V') ∧ V' 84 = V 84 ∧ V' 81 13 = if cn c (fun k => S k && !fitB (V 84) (nI a) (-1) k) = 0 then -3 else 0 := by
  have hc := ho.1
  have dA3 : dA (Wv (V 84)) 3 = 3 := by
    unfold dA
    rw [w3, if_neg (fun q => by have := (nI_eq (b := 21) (by omega) (by decide)).mp q; omega)]
  have aj : adjW (Wv (V 84) 3) = false := by
    unfold adjW
    rw [w3, decide_eq_true (show nI a < 6 from nI_lt (b := 6) ha (by decide))]
    rfl
  have dN3 : dN (Wv (V 84)) 3 = 3 := by
    unfold dN
    rw [dA3, aj, if_neg (by decide)]
  have dX3 : dX (Wv (V 84)) 3 = -1 := by
    unfold dX
    rw [dA3, aj, if_neg (by decide)]
  have dE3 : dE (Wv (V 84)) 3 = 4 := by
    unfold dE
    rw [dN3]
  have e0 : sX6_resolveObjects_28 1000 (km + 1 + 1) V (mk c S) = sX6_resolveObjects_54 1000 (sX6_resolveObjects_28 1000 (km + 1)) V (mk c S) := by
    conv => lhs; unfold sX6_resolveObjects_28
    rw [h12, m_word (by decide), ob, w2, if_pos rfl]
  rw [e0]
  unfold sX6_resolveObjects_54
  have h84' : up V 81 12 (V 81 12 + 1) 84 = V 84 := u84 _ _ _
  have h12' : up V 81 12 (V 81 12 + 1) 81 12 = nI 3 := by rw [u81, if_pos rfl, h12, nI_1]
  rw [ob, m_rd h12' (by decide), ob, h84']
  obtain ⟨U, hU⟩ : ∃ U, U = up (up (up (up (up (up V 81 12 (V 81 12 + 1)) 81 12 (nI (dA (Wv (V 84)) 3))) 81 16 (dX (Wv (V 84)) 3)) 81 12 (nI (dN (Wv (V 84)) 3))) 81 15 (Wv (V 84) (dN (Wv (V 84)) 3))) 81 12 (nI (dE (Wv (V 84)) 3)) := ⟨_, rfl⟩
  rw [← hU]
  have g84 : U 84 = V 84 := by rw [hU]; simp only [u84]
  have g12 : U 81 12 = nI 4 := by rw [hU, u81, if_pos rfl, dE3]
  have g15 : U 81 15 = nI a := by rw [hU]; simp [u81, dN3, w3]
  have g16 : U 81 16 = -1 := by rw [hU]; simp [u81, dX3]
  clear hU
  have hmf := m_fit (v := U) (c := c) (a := nI a) (b := -1) (by rw [g84]; exact ho) (nI_m1 (by omega)) (Or.inl rfl)
  rw [g15, g16, hmf, ob, g84, mk_andn (by omega)]
  obtain ⟨V', i1, i2, i3⟩ := m_28e (V := U) (c := c) (km := km) (D := fun k => S k && !fitB (V 84) (nI a) (-1) k) hc g12 (by rw [g84]; exact w4)
  exact ⟨V', i1, i2.trans g84, i3⟩
theorem m_resAB {V : gV} {c vb a : Nat} (ho : OKs (V 84) c) (hvb : vb < 2) (ha : a < 6) (w1 : Wv (V 84) 1 = 17) (w2 : Wv (V 84) 2 = 18) (w3 : Wv (V 84) 3 = nI a) (w4 : Wv (V 84) 4 = -1) : ∃ V', sX6_resolveObjects 1000 V (nI vb) = some (mk c (DN (V 84) vb a), V') ∧ V' 84 = V 84 ∧ V' 81 13 = if cn c (DN (V 84) vb a) = 0 then -3 else 0 := by
  have hw1 : sX6_word (up V 81 12 1) 1 = some (Wv (V 84) 1) := by
    have := m_word (v := up V 81 12 1) (p := 1) (by decide)
    rw [u84] at this
    exact this
  have hSx : sX6_suitableOnes 1000 (up V 81 12 1) (nI vb) = some (mk c (suitB (V 84) vb)) := by
    have := m_suitOnes (v := up V 81 12 1) (c := c) (w := vb) (by rw [u84]; exact ho) (by omega)
    rw [u84] at this
    exact this
  obtain ⟨V', i1, i2, i3⟩ := m_28b (V := up (up V 81 12 1) 81 12 2) (c := c) (km := 998) (a := a) (S := suitB (V 84) vb) (by rw [u84, u84]; exact ho) ha (by rw [u81, if_pos rfl]; rfl) (by rw [u84, u84]; exact w2) (by rw [u84, u84]; exact w3) (by rw [u84, u84]; exact w4)
  rw [u84, u84] at i1 i2 i3
  unfold sX6_resolveObjects
  rw [ob, hw1, ob, w1, if_pos rfl, hSx, ob, ob]
  exact ⟨V', i1, i2, i3⟩
/-- what verb all but noun leaves -/
def AB (s : Nat → Int32) (c vb a : Nat) (R : Int32) (s' : Nat → Int32) : Prop := (cn c (DN s vb a) = 0 → R = -3) ∧ (cn c (DN s vb a) ≠ 0 → R = nI (min (cn c (DN s vb a)) (frN s c vb)) ∧ s' 0 = s 0 ∧ s' 49 = s 49 ∧ (cn c (DN s vb a) = 1 → ∃ j, s' 50 = nI j ∧ mk c (DN s vb a) = pw j) ∧ (cn c (DN s vb a) ≠ 1 → s' 51 = mk c (DN s vb a)) ∧ ∀ k, k < c → DN s vb a k = true → cn (k + 1) (DN s vb a) ≤ frN s c vb → s' (4 * k + 3) = if vb = 0 then 4 else s 49)
theorem m_allbut {V : gV} {c vb a : Nat} (ho : OKs (V 84) c) (h10 : V 81 10 = nI 4) (hvb : vb < 2) (ha : a < 6) (b0 : V 88 0 = nI (10 + vb)) (b1 : V 88 1 = nI 17) (b2 : V 88 2 = nI 18) (b3 : V 88 3 = nI a) : ∃ R W, sX6_entered 1000 V = some (R, W) ∧ AB (V 84) c vb a R (W 84) := by
  have hc := ho.1
  obtain ⟨V1, e1, f1, s1, s55, s57, s58, sW, s90⟩ := m_cmd (v := V) (m := 4) (by decide) h10
  have hW : ∀ p, p < 4 → Wv (V1 84) p = V 88 p := fun p hp => by
    rw [sW]
    unfold Wm
    rw [if_neg (by omega)]
  have hW4 : Wv (V1 84) 4 = -1 := by
    rw [sW]
    unfold Wm
    rw [if_pos (by decide)]
  have e59 : V1 84 59 = nI (10 + vb) := by
    have := hW 0 (by decide)
    unfold Wv at this
    rw [if_neg (by decide), s58, if_neg (by decide), b0] at this
    exact this
  have e50 : ∀ j, j < 50 → V1 84 j = V 84 j := fun j q => s1 j (by omega)
  have ho1 : OKs (V1 84) c := OKs_congr ho (fun j q => s1 j (by omega))
  have eD : ∀ k, k < 12 → DN (V1 84) vb a k = DN (V 84) vb a k := fun k hk => by
    unfold DN fitB
    rw [suit_congr e50 hk, e50 (4 * k + 1) (by omega), e50 (4 * k + 2) (by omega)]
  have eDc : ∀ n, n ≤ 12 → cn n (DN (V1 84) vb a) = cn n (DN (V 84) vb a) := fun n hn => cn_congr fun k hk => eD k (by omega)
  have eDm : mk c (DN (V1 84) vb a) = mk c (DN (V 84) vb a) := mk_congr fun k hk => eD k (by omega)
  have eI : cn c (inB (V1 84) 4) = cn c (inB (V 84) 4) := cn_congr fun k hk => by
    unfold inB
    rw [e50 _ (by omega)]
  have hL4 := ho.2.2.2.2.2.1 4 (by decide) (by decide)
  rw [if_pos rfl] at hL4
  have hL4 : cn c (inB (V 84) 4) ≤ 6 := hL4
  have hcl := cn_le c (DN (V 84) vb a)
  obtain ⟨V2, r1, r2, r3⟩ := m_resAB (V := up V1 81 13 0) (c := c) (vb := vb) (a := a) (by rw [u84]; exact ho1) hvb ha (by rw [u84, hW 1 (by decide), b1]; rfl) (by rw [u84, hW 2 (by decide), b2]; rfl) (by rw [u84, hW 3 (by decide), b3]) (by rw [u84, hW4])
  rw [u84] at r1 r2 r3
  rw [eDm] at r1
  rw [eDc c hc] at r3
  have run : ∃ R W, sX6_run 1000 V1 = some (R, W) ∧ AB (V 84) c vb a R (W 84) := by
    unfold sX6_run
    rw [ob, e59, show nI (10 + vb) - 10 = nI vb by rw [show (10 : Int32) = nI 10 from rfl, pk_sub (by omega), show 10 + vb - 10 = vb by omega], if_pos (show nI vb < 5 from nI_lt (b := 5) (by omega) (by decide)), if_neg (show ¬ nI vb = 2 from fun q => by have := (nI_eq (b := 2) (by omega) (by decide)).mp q; omega)]
    have h13 : up V1 81 13 0 81 13 = 0 := up_s _ _ _ _
    unfold sX6_run_54
    rw [h13, if_pos (by decide), r1, ob]
    dsimp only
    unfold sX6_run_71
    rw [r3]
    by_cases z : cn c (DN (V 84) vb a) = 0
    · rw [if_pos z, if_neg (by decide)]
      obtain ⟨W, k1, k2⟩ := m_96 (V := V2) (R := -3) (by decide)
      exact ⟨-3, W, k1, fun _ => rfl, fun q => absurd z q⟩
    · rw [if_neg z, if_pos (by decide)]
      obtain ⟨r, hr, er⟩ := ho1.2.2.1
      have ev : vb = 0 ∨ vb = 1 := by omega
      have hfr0 : vb = 0 → frN (V 84) c vb = 6 - cn c (inB (V 84) 4) := fun q => if_pos q
      have hfr1 : vb = 1 → frN (V 84) c vb = 12 := fun q => if_neg (by omega)
      obtain ⟨V3, x1, x2, x3, x4, x5, x6⟩ := m_exe (V := V2) (c := c) (vb := vb) (free := frN (V 84) c vb) (tg := if vb = 0 then 4 else r) (D := DN (V 84) vb a) (by rw [r2]; exact ho1) hvb (by split <;> omega) (fun q => if_pos q) (fun q => by
        rw [if_neg (by omega), r2]
        exact ⟨hr, er⟩) (fun q => by
        rw [r2, eI, hfr0 q]
        omega) hfr1 (fun q k hk hd => by
        unfold DN suitB at hd
        rw [if_pos q, Bool.and_eq_true, Bool.and_eq_true] at hd
        have h1 := hd.1.2
        have h2 : inB (V2 84) 4 k = inB (V 84) 4 k := by
          unfold inB
          rw [r2, e50 _ (by omega)]
        rw [h2]
        simpa using h1)
      rw [x1, ob]
      dsimp only
      obtain ⟨W, k1, k2⟩ := m_96 (V := V3) (R := nI (min (cn c (DN (V 84) vb a)) (frN (V 84) c vb))) (nI_m1 (by omega))
      refine ⟨_, W, k1, fun q => absurd q z, fun _ => ⟨rfl, ?_, ?_, fun q => ?_, fun q => ?_, fun k q1 q2 q3 => ?_⟩⟩
      · rw [k2 0 (by decide), x2, ho.2.1]
      · rw [k2 49 (by decide), x3, r2, e50 49 (by decide)]
      · obtain ⟨j, j1, j2⟩ := x4 q
        exact ⟨j, by rw [k2 50 (by decide), j1], j2⟩
      · rw [k2 51 (by decide), x5 q z]
      · rw [k2 _ (by omega), x6 k q1 q2 q3]
        rcases ev with e | e
        · rw [if_pos e, if_pos e]
          rfl
        · rw [if_neg (by omega), if_neg (by omega), ← e50 49 (by decide), er]
  obtain ⟨R, W, k1, k2⟩ := run
  refine ⟨R, W, ?_, k2⟩
  unfold sX6_entered
  rw [b0, in_yes (show ¬ nI (10 + vb) < 10 from nI_nlt (b := 10) (by omega) (by omega)) (show ¬ (16 : Int32) < nI (10 + vb) from nI_nlt (a := 16) (by omega) (by decide)), ob, if_neg one_ne, e1, k1]
  rfl
