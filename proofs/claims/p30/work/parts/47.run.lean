/-! executing all; counting; closing -/
theorem m_tst1 {c i : Nat} (hc : c ≤ 12) (hi : i < c) (Q : Nat → Bool) : ((mk c Q >>> (nI i &&& 31)) &&& 1 = 1) ↔ Q i = true := by
  rw [shr1 hc Q (by omega), bI_1]
  simp [hi]
theorem add_0 (x : Int32) : x + 0 = x := Int32.add_zero x
theorem b_execL {a c vb t : Nat} {w3 x3 : Int32} {Q N : Nat → Bool} (hvb : vb ≤ 4) (hw : vb = 2 → w3 = nI (5 + t) ∧ t < c ∧ x3 = nI t) (hN2 : vb = 2 → N t = true) (hNQ : ∀ k, k < c → Q k = true → (vb = 2 → N k = false) ∧ (vb = 3 → N k = true)) :
    ∀ d i v v2 m kc km, i + d = c → CW v (a + 1) (v2 84) c → OKs (v2 84) c → v (a + 5) 3 = nI vb → m ≤ i → (∀ k, k < c → cntB (v2 84) k = N k) →
     ∃ v' v2' m', m' ≤ c ∧ sX3_execute_13 1000 a (kc + d) v (mk c Q) w3 (nI m) (nI i) = sX3_execute_13 1000 a kc v' (mk c Q) w3 (nI m') (nI c) ∧ sX6_execute_6 1000 (km + d) v2 (nI vb) (mk c Q) x3 (nI m) (nI i) = sX6_execute_6 1000 km v2' (nI vb) (mk c Q) x3 (nI m') (nI c) ∧ CW v' (a + 1) (v2' 84) c ∧ OKs (v2' 84) c ∧ (∀ k, k ≠ a + 1 → k ≠ a + 4 → v' k = v k) ∧ (∀ k, k ≠ 84 → v2' k = v2 k) ∧ (∀ j, 49 ≤ j → v2' 84 j = v2 84 j) ∧ (∀ j, j % 4 = 1 ∨ j % 4 = 2 ∨ j = 0 → v2' 84 j = v2 84 j) ∧ m ≤ m' ∧ (m' = m → v2' 84 = v2 84) := by
  intro d
  induction d with
  | zero =>
    intro i v v2 m kc km hi h ho h3 hm hN
    have : i = c := by omega
    subst this
    exact ⟨v, v2, m, hm, rfl, rfl, h, ho, fun _ _ _ => rfl, fun _ _ => rfl, fun _ _ => rfl, fun _ _ => rfl, Nat.le_refl _, fun _ => rfl⟩
  | succ d ih =>
    intro i v v2 m kc km hi h ho h3 hm hN
    have hc := ho.1
    have eC : sX3_execute_13 1000 a (kc + (d + 1)) v (mk c Q) w3 (nI m) (nI i) = if (mk c Q &&& pw i) = 0 then (sX3_execute_13 1000 a (kc + d) v (mk c Q) w3 (nI m) (nI (i + 1))) else ((sX4_apply 1000 v (a + 1) (nI vb) (nI i) w3).bind fun q_6 => if q_6.1 = 0 then (sX3_execute_13 1000 a (kc + d) q_6.2 (mk c Q) w3 (nI m) (nI (i + 1))) else (sX3_execute_13 1000 a (kc + d) q_6.2 (mk c Q) w3 (nI (m + 1)) (nI (i + 1)))) := by
      rw [← Nat.add_assoc]
      conv => lhs; unfold sX3_execute_13
      rw [if_neg (ge_12 (by omega)), h3, nI_1, nI_1]
      rfl
    have eM : sX6_execute_6 1000 (km + (d + 1)) v2 (nI vb) (mk c Q) x3 (nI m) (nI i) = if Q i = true then ((sX6_does 1000 v2 (nI vb) (nI i) x3).bind fun q_7 => if q_7.1 = 0 then (sX6_execute_6 1000 (km + d) q_7.2 (nI vb) (mk c Q) x3 (nI m) (nI (i + 1))) else (sX6_execute_6 1000 (km + d) q_7.2 (nI vb) (mk c Q) x3 (nI (m + 1)) (nI (i + 1)))) else (sX6_execute_6 1000 (km + d) v2 (nI vb) (mk c Q) x3 (nI m) (nI (i + 1))) := by
      rw [← Nat.add_assoc]
      conv => lhs; unfold sX6_execute_6
      rw [if_neg (s_le ho.2.1 (by omega) hc), nI_1, nI_1, add_0]
      by_cases z : Q i = true
      · rw [if_pos ((m_tst1 hc (by omega) Q).mpr z), if_pos z]
      · rw [if_neg (fun q => z ((m_tst1 hc (by omega) Q).mp q)), if_neg z]
    rw [eC, eM]
    by_cases z : Q i = true
    · rw [if_neg (fun q => by rw [(mk_tst (by omega) (by omega) Q).mp q] at z; cases z), if_pos z]
      obtain ⟨b, v', v2', g1, g2, g3, g4, g5, g6, g7, g8, g9⟩ := b_apply h ho (by omega : i < c) hvb hw (fun q => by
        rw [hN t (hw q).2.1, hN i (by omega)]
        exact ⟨hN2 q, (hNQ i (by omega) z).1 q⟩) (fun q => by rw [hN i (by omega)]; exact (hNQ i (by omega) z).2 q)
      have hN' : ∀ k, k < c → cntB (v2' 84) k = N k := fun k hk => by rw [cnt_cong (g8 (4 * k + 1) (by omega))]; exact hN k hk
      rw [g1, g2, ob, ob]
      have h3' : v' (a + 5) 3 = nI vb := by rw [g5 (a + 5) (by omega) (by omega), h3]
      cases b with
      | false =>
        obtain ⟨w, w2, m', i0, i1, i2, i3, i4, i5, i6, i7, i8, i9, i10⟩ := ih (i + 1) v' v2' m kc km (by omega) g3 g4 h3' (by omega) hN'
        rw [if_pos bIf_eq, if_pos bIf_eq]
        exact ⟨w, w2, m', i0, i1, i2, i3, i4, fun k q r => (i5 k q r).trans (g5 k q r), fun k q => (i6 k q).trans (g6 k q), fun j q => (i7 j q).trans (g7 j q), fun j q => (i8 j q).trans (g8 j q), i9, fun q => (i10 q).trans (g9 rfl)⟩
      | true =>
        obtain ⟨w, w2, m', i0, i1, i2, i3, i4, i5, i6, i7, i8, i9, i10⟩ := ih (i + 1) v' v2' (m + 1) kc km (by omega) g3 g4 h3' (by omega) hN'
        rw [if_neg bIt_ne, if_neg bIt_ne]
        exact ⟨w, w2, m', i0, i1, i2, i3, i4, fun k q r => (i5 k q r).trans (g5 k q r), fun k q => (i6 k q).trans (g6 k q), fun j q => (i7 j q).trans (g7 j q), fun j q => (i8 j q).trans (g8 j q), by omega, fun q => absurd q (by omega)⟩
    · rw [if_pos ((mk_tst (by omega) (by omega) Q).mpr (by simpa using z)), if_neg z]
      exact ih (i + 1) v v2 m kc km (by omega) h ho h3 (by omega) hN
theorem k_idle {a c : Nat} {w3 x : Int32} {Q : Nat → Bool} (hc : c ≤ 12) (v : gV) : ∀ d i kc, i + d = 12 → c ≤ i → sX3_execute_13 1000 a (kc + d) v (mk c Q) w3 x (nI i) = sX3_execute_13 1000 a kc v (mk c Q) w3 x (nI 12) := by
  intro d
  induction d with
  | zero => intro i kc hi _; rw [show i = 12 by omega]; rfl
  | succ d ih =>
    intro i kc hi hci
    rw [← ih (i + 1) kc (by omega) (by omega), ← Nat.add_assoc]
    conv => lhs; unfold sX3_execute_13
    rw [if_neg (ge_12 (by omega)), nI_1]
    have : (mk c Q &&& pw i) = 0 := by
      rw [and_pw (by omega), bt_mk (by omega)]
      have : ¬ i < c := by omega
      simp [this]
    rw [if_pos (show (mk c Q &&& ((1 : Int32) <<< (nI i &&& 31))) = 0 from this)]
theorem b_exec {v v2 : gV} {a c vb t : Nat} {T x3 : Int32} {Q : Nat → Bool} (h : CW v (a + 1) (v2 84) c) (ho : OKs (v2 84) c) (h2 : v a 2 = v2 84 50) (h3 : v a 3 = v2 84 51) (hv : v (a + 5) 3 = nI vb) (hvb : vb ≤ 4) (hQ : ∃ k, k < c ∧ Q k = true) (hT : (vb = 2 ∧ t < c ∧ T = pw t ∧ x3 = nI t) ∨ (vb ≠ 2 ∧ T = 0)) (hQS : ∀ k, k < c → Q k = true → suitB (v2 84) vb k = true) (hTt : vb = 2 → tgtB (v2 84) t = true) :
    ∃ m v' v2', sX3_execute 1000 v a (mk c Q) T = some (nI m, v') ∧ sX6_execute 1000 v2 (nI vb) (mk c Q) x3 = some (nI m, v2') ∧ m ≤ 12 ∧ CW v' (a + 1) (v2' 84) c ∧ OKs (v2' 84) c ∧ v' a 2 = v2' 84 50 ∧ v' a 3 = v2' 84 51 ∧ (∀ k, k < a ∨ a + 4 < k → v' k = v k) ∧ (∀ j, j ≠ 2 → j ≠ 3 → v' a j = v a j) ∧ (∀ k, k ≠ 84 → v2' k = v2 k) ∧ (∀ j, 52 ≤ j → v2' 84 j = v2 84 j) ∧ (m = 0 → ∀ j, j < 50 → v2' 84 j = v2 84 j) := by
  have hc := ho.1
  have e1 : ∃ w3, sX3_execute 1000 v a (mk c Q) T = sX3_execute_13 1000 a 1000 v (mk c Q) w3 0 0 ∧ (vb = 2 → w3 = nI (5 + t) ∧ t < c ∧ x3 = nI t) := by
    unfold sX3_execute
    rcases hT with ⟨q1, q2, q3, q4⟩ | ⟨q1, q2⟩
    · have hl : isLow c (fun j => decide (j = t)) t := ⟨q2, by simp, fun j hj => by simp; omega⟩
      rw [q3, ← mk_single (n := c) (by omega) q2, k_first hc hl, ob, add_5]
      exact ⟨_, rfl, fun _ => ⟨rfl, q2, q4⟩⟩
    · rw [q2, k_first0, ob]
      exact ⟨_, rfl, fun q => absurd q q1⟩
  obtain ⟨w3, e1, hw⟩ := e1
  obtain ⟨w, w2, m, i0, i1, i2, i3, i4, i5, i6, i7, i8, i9, i10⟩ := b_execL (a := a) (Q := Q) (N := cntB (v2 84)) hvb hw (fun q => by
    obtain ⟨_, ht, _⟩ := hw q
    have h1 := hTt q
    unfold tgtB at h1
    rw [Bool.and_eq_true] at h1
    have h2 := h1.2
    unfold opB at h2
    exact ho.2.2.2.2.2.2.1.2.2 t ht (of_decide_eq_true h2)) (fun k hk hq => ⟨fun q => by
    have h1 := hQS k hk hq
    unfold suitB at h1
    rw [q, if_neg (by decide), if_neg (by decide), if_pos rfl, Bool.and_eq_true] at h1
    simpa using h1.2, fun q => by
    have h1 := hQS k hk hq
    unfold suitB at h1
    rw [q, if_neg (by decide), if_neg (by decide), if_neg (by decide), if_pos rfl, Bool.and_eq_true, Bool.and_eq_true] at h1
    exact h1.1.2⟩) c 0 v v2 0 (987 + 1 + (12 - c)) ((999 - c) + 1) (by omega) h ho hv (by omega) (fun _ _ => rfl)
  rw [k_idle hc w (12 - c) c (987 + 1) (by omega) (by omega), show 987 + 1 + (12 - c) + c = 1000 by omega] at i1
  rw [show 999 - c + 1 + c = 1000 by omega] at i2
  have hcn : cn c Q ≠ 0 := by
    intro q
    obtain ⟨k, hk, hz⟩ := hQ
    rw [cn_0.mp q k hk] at hz
    cases hz
  have hcl := cn_le c Q
  have hw2 : w a 2 = w2 84 50 := by rw [i5 a (by omega) (by omega), i7 50 (by omega)]; exact h2
  have hw3 : w a 3 = w2 84 51 := by rw [i5 a (by omega) (by omega), i7 51 (by omega)]; exact h3
  have i1' : sX3_execute_13 1000 a 1000 v (mk c Q) w3 0 0 = sX3_execute_13 1000 a (987 + 1) w (mk c Q) w3 (nI m) (nI 12) := i1
  have i2' : sX6_execute 1000 v2 (nI vb) (mk c Q) x3 = sX6_execute_6 1000 (999 - c + 1) w2 (nI vb) (mk c Q) x3 (nI m) (nI c) := i2
  rw [e1, i1', i2']
  unfold sX3_execute_13 sX6_execute_6 sX6_execute_82
  rw [if_pos (show (12 : Int32) ≤ nI 12 by decide), bitC hc, ob, if_pos (s_ge i4.2.1 rfl hc), m_size hc, ob]
  have hp50 : ¬ ((50 : Int32) < 0 ∨ 122 ≤ (50 : Int32).toNatClampNeg) := by decide
  have h50 : (50 : Int32).toNatClampNeg = 50 := by decide
  simp only [if_pos hp50, h50, ob]
  by_cases z : cn c Q = 1
  · obtain ⟨j, hj, _⟩ := cn_one hc z
    have hn : nI (cn c Q) = 1 := by rw [z]; rfl
    rw [if_pos hn, if_pos hn, k_first hc hj, m_low hc hj, ob, ob, if_pos (show nI (cn c Q) ≤ 1 by rw [z]; decide)]
    refine ⟨m, _, _, rfl, rfl, by omega, ?_, ?_, ?_, ?_, ?_, ?_, ?_, ?_, fun e0 j' q => by rw [s84, s84, pk_un (by omega), pk_un (by omega), i10 e0]⟩
    · rw [s84, s84]
      refine CW_congr (v := w) ?_ (fun k q r => up_r _ _ _ _ (by omega))
      obtain ⟨y1, y2, y3, y4⟩ := i3
      refine ⟨y1, by rw [pk_un (by decide), pk_un (by decide)]; exact y2, ?_, fun k hk => ?_⟩
      · rw [y3]
        refine mk_congr fun k hk => ?_
        unfold opB
        rw [pk_un (by omega), pk_un (by omega)]
      · rw [pk_un (by omega), pk_un (by omega), pk_un (by omega), pk_un (by omega), pk_un (by omega), pk_un (by omega)]
        exact y4 k hk
    · rw [s84, s84]
      obtain ⟨y1, y2, y3, y4, y5⟩ := i4
      refine ⟨y1, by rw [pk_un (by decide), pk_un (by decide)]; exact y2, by rw [pk_un (by decide), pk_un (by decide)]; exact y3, fun k hk => ?_, ?_, LIM_congr y5.2.1 (fun k hk => by rw [pk_un (by omega), pk_un (by omega)]), XO_cong y5.2.2.1 y1 (OK_in y4 y1) (fun k hk => ⟨by rw [pk_un (by omega), pk_un (by omega)], by rw [pk_un (by omega), pk_un (by omega)], by rw [pk_un (by omega), pk_un (by omega)], by rw [pk_un (by omega), pk_un (by omega)]⟩), XM_cong y5.2.2.2 (by rw [pk_us, pk_un (by decide)])⟩
      · have := y4 k hk
        unfold OKo at this ⊢
        rw [pk_un (by omega), pk_un (by omega), pk_un (by omega), pk_un (by omega), pk_un (by omega), pk_un (by omega), pk_un (by omega), pk_un (by omega)]
        exact this
      · rw [pk_un (by decide), pk_us]
        exact Or.inr ⟨j, hj.1, rfl⟩
    · rw [up_s, s84, s84, pk_un (by decide), pk_us]
    · rw [up_c _ _ _ _ (by decide), s84, pk_us, s84, pk_un (by decide)]
      exact hw3
    · intro k q
      rw [up_r _ _ _ _ (by omega)]
      exact i5 k (by omega) (by omega)
    · intro j' q1 q2
      rw [up_c _ _ _ _ q1, i5 a (by omega) (by omega)]
    · intro k q
      rw [up_r _ _ _ _ q, up_r _ _ _ _ q]
      exact i6 k q
    · intro j' q
      rw [s84, s84, pk_un (by omega), pk_un (by omega)]
      exact i7 j' (by omega)
  · have hn : ¬ nI (cn c Q) = 1 := fun q => z ((nI_eq (b := 1) (by omega) (by decide)).mp q)
    rw [if_neg hn, if_neg hn, if_neg (show ¬ nI (cn c Q) ≤ 1 from nI_ge (a := 1) (by omega) (by omega))]
    refine ⟨m, _, _, rfl, rfl, by omega, ?_, ?_, ?_, ?_, ?_, ?_, ?_, ?_, fun e0 j' q => by rw [s84, s84, pk_un (by omega), pk_un (by omega), i10 e0]⟩
    · rw [s84, s84]
      refine CW_congr (v := w) ?_ (fun k q r => up_r _ _ _ _ (by omega))
      obtain ⟨y1, y2, y3, y4⟩ := i3
      refine ⟨y1, by rw [pk_un (by decide), pk_un (by decide)]; exact y2, ?_, fun k hk => ?_⟩
      · rw [y3]
        refine mk_congr fun k hk => ?_
        unfold opB
        rw [pk_un (by omega), pk_un (by omega)]
      · rw [pk_un (by omega), pk_un (by omega), pk_un (by omega), pk_un (by omega), pk_un (by omega), pk_un (by omega)]
        exact y4 k hk
    · rw [s84, s84]
      obtain ⟨y1, y2, y3, y4, y5⟩ := i4
      refine ⟨y1, by rw [pk_un (by decide), pk_un (by decide)]; exact y2, by rw [pk_un (by decide), pk_un (by decide)]; exact y3, fun k hk => ?_, ?_, LIM_congr y5.2.1 (fun k hk => by rw [pk_un (by omega), pk_un (by omega)]), XO_cong y5.2.2.1 y1 (OK_in y4 y1) (fun k hk => ⟨by rw [pk_un (by omega), pk_un (by omega)], by rw [pk_un (by omega), pk_un (by omega)], by rw [pk_un (by omega), pk_un (by omega)], by rw [pk_un (by omega), pk_un (by omega)]⟩), ⟨Q, pk_us, z⟩⟩
      · have := y4 k hk
        unfold OKo at this ⊢
        rw [pk_un (by omega), pk_un (by omega), pk_un (by omega), pk_un (by omega), pk_un (by omega), pk_un (by omega), pk_un (by omega), pk_un (by omega)]
        exact this
      · rw [pk_un (by decide), pk_us]
        exact y5.1
    · rw [up_c _ _ _ _ (by decide), s84, s84, pk_un (by decide), pk_us]
      exact hw2
    · rw [up_s, s84, pk_us]
    · intro k q
      rw [up_r _ _ _ _ (by omega)]
      exact i5 k (by omega) (by omega)
    · intro j' q1 q2
      rw [up_c _ _ _ _ q2, i5 a (by omega) (by omega)]
    · intro k q
      rw [up_r _ _ _ _ q, up_r _ _ _ _ q]
      exact i6 k q
    · intro j' q
      rw [s84, s84, pk_un (by omega), pk_un (by omega)]
      exact i7 j' (by omega)
