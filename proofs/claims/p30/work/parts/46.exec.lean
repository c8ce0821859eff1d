/-! executing: both sides -/
theorem CW_pl {v : gV} {w c i : Nat} {s : Nat → Int32} (h : CW v w s c) (hi : i < c) (x : Int32) : CW (up v (w + 3) i x) w (upd s (4 * i + 3) x) c := by
  obtain ⟨h1, h2, h3, h4⟩ := h
  refine ⟨?_, ?_, ?_, fun k hk => ⟨?_, ?_, ?_⟩⟩
  · rw [up_r _ _ _ _ (by omega)]; exact h1
  · rw [up_r _ _ _ _ (by omega), pk_un (by omega)]; exact h2
  · rw [up_r _ _ _ _ (by omega), h3]
    refine mk_congr fun k _ => ?_
    unfold opB
    rw [pk_un (by omega)]
  · rw [up_r _ _ _ _ (by omega), pk_un (by omega)]; exact (h4 k hk).1
  · rw [up_r _ _ _ _ (by omega), pk_un (by omega)]; exact (h4 k hk).2.1
  · by_cases e : k = i
    · subst e; rw [up_s, pk_us]
    · rw [up_c _ _ _ _ e, pk_un (by omega)]; exact (h4 k hk).2.2
theorem cn_more {n i : Nat} {P Q : Nat → Bool} (h : ∀ k, k < n → k ≠ i → Q k = true → P k = true) : cn n Q ≤ cn n P + 1 := by
  induction n with
  | zero => simp [cn]
  | succ n ih =>
    unfold cn
    by_cases e : n = i
    · subst e
      have h1 : cn n Q ≤ cn n P := cn_mono (fun k hk hq => h k (by omega) (by omega) hq)
      split <;> split <;> omega
    · have h1 := ih (fun k hk => h k (by omega))
      by_cases q : Q n = true
      · rw [if_pos q, if_pos (h n (by omega) e q)]; omega
      · rw [if_neg q]; split <;> omega
theorem LIM_pl {s : Nat → Int32} {c i p : Nat} (h : LIM s c) (hc : c ≤ 12) (hp17 : p < 17) (hcap : p < 4 ∨ cn c (inB s (nI p)) < (if p = 4 then 6 else 4)) : LIM (upd s (4 * i + 3) (nI p)) c := by
  intro q hq hq17
  have hle := h q hq hq17
  by_cases e : q = p
  · subst e
    have h1 : cn c (inB (upd s (4 * i + 3) (nI q)) (nI q)) ≤ cn c (inB s (nI q)) + 1 := cn_more (i := i) (fun k _ hk hz => by
      unfold inB at hz ⊢
      rw [pk_un (by omega)] at hz
      exact hz)
    rcases hcap with z | z
    · omega
    · exact Nat.le_trans h1 z
  · refine Nat.le_trans (cn_mono (fun k _ hz => ?_)) hle
    unfold inB at hz ⊢
    by_cases ek : k = i
    · subst ek
      rw [pk_us] at hz
      exact absurd ((nI_eq (by omega) (by omega)).mp (of_decide_eq_true hz)).symm e
    · rw [pk_un (by omega)] at hz
      exact hz
theorem XO_pl {s : Nat → Int32} {c i p : Nat} (h : XO s c) (hi : i < c) (hp31 : p < 2 ^ 31) (hX : p < 5 ∨ (cntB s (p - 5) = true ∧ cntB s i = false)) : XO (upd s (4 * i + 3) (nI p)) c := by
  obtain ⟨h1, h2, h3⟩ := h
  have ec : ∀ k, cntB (upd s (4 * i + 3) (nI p)) k = cntB s k := fun k => cnt_cong (pk_un (by omega))
  refine ⟨fun k hk q q5 q17 hq => ?_, fun a b ha hb q1 q2 => ?_, fun k hk q => ?_⟩
  · rw [ec, ec]
    by_cases e : k = i
    · subst e
      rw [pk_us] at hq
      rcases hX with z | z
      · exact absurd hq (fun y => by have := (nI_eq (a := p) (b := q) (by omega) (by omega)).mp y; omega)
      · have := (nI_eq (a := p) (b := q) hp31 (by omega)).mp hq
        rw [← this]; exact z
    · rw [pk_un (by omega)] at hq
      exact h1 k hk q q5 q17 hq
  · rw [pk_un (by omega), pk_un (by omega)] at q1
    rw [pk_un (by omega), pk_un (by omega)] at q2
    exact h2 a b ha hb q1 q2
  · rw [pk_un (by omega)] at q
    rw [ec]
    exact h3 k hk q
theorem OK_pl {s : Nat → Int32} {c i p : Nat} (h : OKs s c) (hi : i < c) (hp : p < 5 ∨ (5 ≤ p ∧ p - 5 < c)) (hcap : p < 4 ∨ cn c (inB s (nI p)) < (if p = 4 then 6 else 4)) (hX : p < 5 ∨ (cntB s (p - 5) = true ∧ cntB s i = false)) : OKs (upd s (4 * i + 3) (nI p)) c := by
  obtain ⟨h1, h2, h3, h4, h5⟩ := h
  refine ⟨h1, by rw [pk_un (by omega)]; exact h2, by rw [pk_un (by omega)]; exact h3, fun k hk => ?_, by rw [pk_un (by omega)]; exact h5.1, LIM_pl h5.2.1 h1 (by omega) hcap, XO_pl h5.2.2.1 hi (by omega) hX, XM_cong h5.2.2.2 (pk_un (by omega))⟩
  obtain ⟨q1, q2, q3, q4⟩ := h4 k hk
  refine ⟨by rw [pk_un (by omega)]; exact q1, by rw [pk_un (by omega)]; exact q2, ?_, by rw [pk_un (by omega)]; exact q4⟩
  by_cases e : k = i
  · subst e; exact ⟨p, hp, pk_us⟩
  · rw [pk_un (by omega)]; exact q3
theorem CW_op {v : gV} {w c i : Nat} {s : Nat → Int32} (h : CW v w s c) (x y : Int32) (hx : x = mk c (opB (upd s (4 * i + 4) y))) : CW (up v w 5 x) w (upd s (4 * i + 4) y) c := by
  obtain ⟨h1, h2, h3, h4⟩ := h
  refine ⟨?_, ?_, ?_, fun k hk => ⟨?_, ?_, ?_⟩⟩
  · rw [up_c _ _ _ _ (by omega)]; exact h1
  · rw [up_c _ _ _ _ (by omega)]
    by_cases e : 49 = 4 * i + 4
    · omega
    · rw [pk_un e]; exact h2
  · rw [up_s]; exact hx
  · rw [up_r _ _ _ _ (by omega), pk_un (by omega)]; exact (h4 k hk).1
  · rw [up_r _ _ _ _ (by omega), pk_un (by omega)]; exact (h4 k hk).2.1
  · rw [up_r _ _ _ _ (by omega), pk_un (by omega)]; exact (h4 k hk).2.2
theorem XO_op {s : Nat → Int32} {c i : Nat} {y : Int32} (h : XO s c) (hX : y = 0 ∨ cntB s i = true) : XO (upd s (4 * i + 4) y) c := by
  obtain ⟨h1, h2, h3⟩ := h
  have ec : ∀ k, cntB (upd s (4 * i + 4) y) k = cntB s k := fun k => cnt_cong (pk_un (by omega))
  refine ⟨fun k hk q q5 q17 hq => ?_, fun a b ha hb q1 q2 => ?_, fun k hk q => ?_⟩
  · rw [pk_un (by omega)] at hq
    rw [ec, ec]
    exact h1 k hk q q5 q17 hq
  · rw [pk_un (by omega), pk_un (by omega)] at q1
    rw [pk_un (by omega), pk_un (by omega)] at q2
    exact h2 a b ha hb q1 q2
  · rw [ec]
    by_cases e : k = i
    · subst e
      rw [pk_us] at q
      rcases hX with z | z
      · rw [z] at q; exact absurd q (by decide)
      · exact z
    · rw [pk_un (by omega)] at q
      exact h3 k hk q
theorem OK_op {s : Nat → Int32} {c i : Nat} {y : Int32} (h : OKs s c) (hi : i < c) (hy : y = 0 ∨ y = 1) (hX : y = 0 ∨ cntB s i = true) : OKs (upd s (4 * i + 4) y) c := by
  obtain ⟨h1, h2, h3, h4, h5⟩ := h
  refine ⟨h1, by rw [pk_un (by omega)]; exact h2, by rw [pk_un (by omega)]; exact h3, fun k hk => ?_, by rw [pk_un (by omega)]; exact h5.1, LIM_congr h5.2.1 (fun k hk => pk_un (by omega)), XO_op h5.2.2.1 hX, XM_cong h5.2.2.2 (pk_un (by omega))⟩
  obtain ⟨q1, q2, q3, q4⟩ := h4 k hk
  refine ⟨by rw [pk_un (by omega)]; exact q1, by rw [pk_un (by omega)]; exact q2, by rw [pk_un (by omega)]; exact q3, ?_⟩
  by_cases e : k = i
  · subst e; rw [pk_us]; exact hy
  · rw [pk_un (by omega)]; exact q4
theorem op_1 {s : Nat → Int32} {c i : Nat} (hc : c ≤ 12) (hi : i < c) : mk c (opB s) ||| pw i = mk c (opB (upd s (4 * i + 4) 1)) := by
  rw [mk_orp (by omega) hi]
  refine mk_congr fun k _ => ?_
  unfold opB
  by_cases e : k = i
  · subst e; rw [pk_us]; simp
  · rw [pk_un (by omega)]; simp [e]
theorem op_0 {s : Nat → Int32} {c i : Nat} (hc : c ≤ 12) (hi : i < c) : mk c (opB s) &&& (pw i ^^^ (-1)) = mk c (opB (upd s (4 * i + 4) 0)) := by
  rw [mk_delp (by omega) hi]
  refine mk_congr fun k _ => ?_
  unfold opB
  by_cases e : k = i
  · subst e; rw [pk_us]; simp
  · rw [pk_un (by omega)]; simp [e]
theorem ix_pl {i : Nat} (hi : i < 12) : ¬ (((1 + (4 * nI i)) + 2) < 0 ∨ 122 ≤ ((1 + (4 * nI i)) + 2).toNatClampNeg) ∧ ((1 + (4 * nI i)) + 2).toNatClampNeg = 4 * i + 3 := of_tab i hi 2 (by decide)
theorem ix_op {i : Nat} (hi : i < 12) : ¬ (((1 + (4 * nI i)) + 3) < 0 ∨ 122 ≤ ((1 + (4 * nI i)) + 3).toNatClampNeg) ∧ ((1 + (4 * nI i)) + 3).toNatClampNeg = 4 * i + 4 := of_tab i hi 3 (by decide)
/-- the reference places an object, or finds the place full -/
theorem m_does70 {v2 : gV} {i vb : Nat} (hi : i < 12) (hvb : vb ≤ 2) (w4 : Int32) (b : Bool) : sX6_does_70 1000 v2 (nI vb) (nI i) w4 (bI b) = some (bI b, if b = true then up v2 84 (4 * i + 3) w4 else v2) := by
  have h2 : ¬ (2 : Int32) < nI vb := nI_nlt (a := 2) hvb (by decide)
  have h3 : nI vb ≤ 2 := nI_le (b := 2) hvb (by decide)
  unfold sX6_does_70 sX6_does_96
  cases b with
  | false => rw [if_pos bIf_eq, if_pos h3, if_pos (bI_m _)]; rfl
  | true => rw [if_neg bIt_ne, if_neg h2, if_pos (ix_pl hi).1, (ix_pl hi).2, ob, if_pos h3, if_pos (bI_m _)]; rfl
theorem k_full {v : gV} {w c p : Nat} {s : Nat → Int32} (h : CW v w s c) (hc : c ≤ 12) (hp : p < 30) : sX4_isFull 1000 v w (nI p) = some (bI (decide (4 ≤ p) && decide ((if p = 4 then 6 else 4) ≤ cn c (inB s (nI p))))) := by
  have hcl := cn_le c (inB s (nI p))
  unfold sX4_isFull sX4_isFull_11 sX5_isRoom
  rw [if_neg (nI_pos (by omega)), k_setAt h hc]
  by_cases e : p = 4
  · rw [e] at hcl
    rw [e, if_pos (show nI 4 = 4 from rfl), if_pos (show (4 : Int32) ≤ nI 4 by decide), ob, if_pos rfl, ob, bitC hc, ob]
    by_cases z : cn c (inB s (nI 4)) < 6
    · rw [if_pos (show nI (cn c (inB s (nI 4))) < 6 from nI_lt (b := 6) z (by decide))]
      simp [bI, z]
    · rw [if_neg (show ¬ nI (cn c (inB s (nI 4))) < 6 from nI_nlt (b := 6) (by omega) (by omega))]
      have : 6 ≤ cn c (inB s (nI 4)) := by omega
      simp [bI, this]
  · have e4 : ¬ nI p = 4 := fun q => e ((nI_eq (b := 4) (by omega) (by decide)).mp q)
    rw [if_neg e4]
    by_cases z : 4 ≤ p
    · rw [if_pos (show (4 : Int32) ≤ nI p from nI_le (a := 4) z (by omega)), ob, if_pos rfl, ob, bitC hc, ob]
      by_cases y : cn c (inB s (nI p)) < 4
      · rw [if_pos (show nI (cn c (inB s (nI p))) < 4 from nI_lt (b := 4) y (by decide))]
        simp [bI, y, e]
      · rw [if_neg (show ¬ nI (cn c (inB s (nI p))) < 4 from nI_nlt (b := 4) (by omega) (by omega))]
        have : 4 ≤ cn c (inB s (nI p)) := by omega
        simp [bI, this, z, e]
    · rw [if_neg (show ¬ (4 : Int32) ≤ nI p from nI_ge (b := 4) (by omega) (by decide)), ob, if_neg (by decide)]
      simp [bI, z]
theorem k_exists {v : gV} {w c i : Nat} {s : Nat → Int32} (h : CW v w s c) (hc : c ≤ 12) (hi : i < c) : sX4_exists v w (nI i) = some 1 := by
  unfold sX4_exists
  rw [if_neg (nI_pos (by omega)), h.1, if_neg (nI_ge hi (by omega)), if_neg (ge_12 (by omega))]
theorem b_apply {v v2 : gV} {w c i vb t : Nat} {w3 x3 : Int32} (h : CW v w (v2 84) c) (ho : OKs (v2 84) c) (hi : i < c) (hvb : vb ≤ 4) (hw : vb = 2 → w3 = nI (5 + t) ∧ t < c ∧ x3 = nI t) (hX2 : vb = 2 → cntB (v2 84) t = true ∧ cntB (v2 84) i = false) (hX3 : vb = 3 → cntB (v2 84) i = true) :
    ∃ b v' v2', sX4_apply 1000 v w (nI vb) (nI i) w3 = some (bI b, v') ∧ sX6_does 1000 v2 (nI vb) (nI i) x3 = some (bI b, v2') ∧ CW v' w (v2' 84) c ∧ OKs (v2' 84) c ∧ (∀ k, k ≠ w → k ≠ w + 3 → v' k = v k) ∧ (∀ k, k ≠ 84 → v2' k = v2 k) ∧ (∀ j, 49 ≤ j → v2' 84 j = v2 84 j) ∧ (∀ j, j % 4 = 1 ∨ j % 4 = 2 ∨ j = 0 → v2' 84 j = v2 84 j) ∧ (b = false → v2' 84 = v2 84) := by
  have hc := ho.1
  have key : vb ≤ 2 → ∀ (p : Nat) (b : Bool), (p < 5 ∨ (5 ≤ p ∧ p - 5 < c)) → (p < 5 ∨ (cntB (v2 84) (p - 5) = true ∧ cntB (v2 84) i = false)) → sX4_destination v w (nI vb) w3 = some (nI p) → b = !(decide (4 ≤ p) && decide ((if p = 4 then 6 else 4) ≤ cn c (inB (v2 84) (nI p)))) → sX6_does 1000 v2 (nI vb) (nI i) x3 = sX6_does_70 1000 v2 (nI vb) (nI i) (nI p) (bI b) → ∃ b v' v2', sX4_apply 1000 v w (nI vb) (nI i) w3 = some (bI b, v') ∧ sX6_does 1000 v2 (nI vb) (nI i) x3 = some (bI b, v2') ∧ CW v' w (v2' 84) c ∧ OKs (v2' 84) c ∧ (∀ k, k ≠ w → k ≠ w + 3 → v' k = v k) ∧ (∀ k, k ≠ 84 → v2' k = v2 k) ∧ (∀ j, 49 ≤ j → v2' 84 j = v2 84 j) ∧ (∀ j, j % 4 = 1 ∨ j % 4 = 2 ∨ j = 0 → v2' 84 j = v2 84 j) ∧ (b = false → v2' 84 = v2 84) := by
    intro hv2 p b hp hpX hd hb hm
    refine ⟨b, (if b = true then up v (w + 3) i (nI p) else v), (if b = true then up v2 84 (4 * i + 3) (nI p) else v2), ?_, ?_, ?_⟩
    · unfold sX4_apply
      have n3 : ¬ nI vb = 3 := fun q => by have := (nI_eq (b := 3) (by omega) (by decide)).mp q; omega
      have n4 : ¬ nI vb = 4 := fun q => by have := (nI_eq (b := 4) (by omega) (by decide)).mp q; omega
      rw [if_neg n3, if_neg n4, hd, ob, k_exists h hc hi, ob, if_neg one_ne, k_full h hc (by omega), ob]
      generalize (decide (4 ≤ p) && decide ((if p = 4 then 6 else 4) ≤ cn c (inB (v2 84) (nI p)))) = f at hb ⊢
      subst hb
      cases f with
      | false => rw [if_pos bIf_eq, if_pos (in_12 (by omega)), cl_12 (by omega), ob]; rfl
      | true => rw [if_neg bIt_ne]; rfl
    · rw [hm, m_does70 (by omega) hv2]
    · cases b with
      | false => exact ⟨h, ho, fun _ _ _ => rfl, fun _ _ => rfl, fun _ _ => rfl, fun _ _ => rfl, fun _ => rfl⟩
      | true =>
        rw [if_pos rfl, if_pos rfl, s84]
        have hcap : p < 4 ∨ cn c (inB (v2 84) (nI p)) < (if p = 4 then 6 else 4) := by
          refine Classical.byContradiction fun q => ?_
          rw [decide_eq_true (Nat.le_of_not_lt (fun z => q (Or.inl z))), decide_eq_true (Nat.le_of_not_lt (fun z => q (Or.inr z)))] at hb
          exact absurd hb (by decide)
        exact ⟨CW_pl h hi _, OK_pl ho hi hp hcap hpX, fun k _ q => up_r _ _ _ _ q, fun k q => up_r _ _ _ _ q, fun j q => pk_un (by omega), fun j q => pk_un (by omega), fun q => by cases q⟩
  have hcases : vb = 0 ∨ vb = 1 ∨ vb = 2 ∨ vb = 3 ∨ vb = 4 := by omega
  have hm4 := m_at (v := v2) ho
  rcases hcases with e | e | e | e | e
  · subst e
    refine key (by omega) 4 (!decide (6 ≤ cn c (inB (v2 84) 4))) (by omega) (Or.inl (by omega)) ?_ ?_ ?_
    · unfold sX4_destination; rw [if_pos (show nI 0 = 0 from rfl)]; rfl
    · simp; rfl
    · unfold sX6_does sX6_does_26
      rw [if_pos (show nI 0 = 0 from rfl), if_pos (show nI 0 = 0 from rfl), hm4 4, ob]
      by_cases z : 6 ≤ cn c (inB (v2 84) 4)
      · rw [if_pos (show (6 : Int32) ≤ nI (cn c (inB (v2 84) 4)) from nI_le (a := 6) z (by have := cn_le c (inB (v2 84) 4); omega))]
        simp [z, bI]; rfl
      · rw [if_neg (show ¬ (6 : Int32) ≤ nI (cn c (inB (v2 84) 4)) from nI_ge (b := 6) (by omega) (by decide))]
        simp [z, bI]; rfl
  · subst e
    obtain ⟨r, hr, er⟩ := ho.2.2.1
    refine key (by omega) r true (by omega) (Or.inl (by omega)) ?_ ?_ ?_
    · unfold sX4_destination; rw [if_neg (show ¬ nI 1 = 0 by decide), if_pos (show nI 1 = 1 from rfl), h.2.1, er]
    · simp; omega
    · unfold sX6_does sX6_does_26
      rw [if_neg (show ¬ nI 1 = 0 by decide), if_pos (show nI 1 = 1 from rfl), if_neg (show ¬ nI 1 = 0 by decide), if_neg (show ¬ nI 1 = 2 by decide), er]
      rfl
  · subst e
    obtain ⟨w1, w2, w4⟩ := hw rfl
    refine key (by omega) (5 + t) (!decide (4 ≤ cn c (inB (v2 84) (nI (5 + t))))) (by omega) (Or.inr (by rw [show 5 + t - 5 = t by omega]; exact hX2 rfl)) ?_ ?_ ?_
    · unfold sX4_destination; rw [if_neg (show ¬ nI 2 = 0 by decide), if_neg (show ¬ nI 2 = 1 by decide), w1]
    · rw [if_neg (by omega)]; simp; intro _; omega
    · unfold sX6_does sX6_does_26
      rw [if_neg (show ¬ nI 2 = 0 by decide), if_neg (show ¬ nI 2 = 1 by decide), if_neg (show ¬ nI 2 = 0 by decide), if_pos (show nI 2 = 2 from rfl), w4, add_5, hm4, ob]
      by_cases z : 4 ≤ cn c (inB (v2 84) (nI (5 + t)))
      · rw [if_pos (show (4 : Int32) ≤ nI (cn c (inB (v2 84) (nI (5 + t)))) from nI_le (a := 4) z (by have := cn_le c (inB (v2 84) (nI (5 + t))); omega))]
        simp [z, bI]
      · rw [if_neg (show ¬ (4 : Int32) ≤ nI (cn c (inB (v2 84) (nI (5 + t)))) from nI_ge (b := 4) (by omega) (by decide))]
        simp [z, bI]
  · subst e
    refine ⟨true, up v w 5 (v w 5 ||| pw i), up v2 84 (4 * i + 4) 1, ?_, ?_, ?_⟩
    · unfold sX4_apply; rw [if_pos (show nI 3 = 3 from rfl)]; rfl
    · unfold sX6_does sX6_does_26 sX6_does_70 sX6_does_96
      rw [if_neg (show ¬ nI 3 = 0 by decide), if_neg (show ¬ nI 3 = 1 by decide), if_neg (show ¬ nI 3 = 0 by decide), if_neg (show ¬ nI 3 = 2 by decide), if_neg one_ne, if_pos (show (2 : Int32) < nI 3 by decide), if_neg (show ¬ nI 3 ≤ 2 by decide), if_pos (show nI 3 = 3 from rfl), if_pos (ix_op (by omega)).1, (ix_op (by omega)).2, ob, if_pos (by decide)]
      rfl
    · rw [s84]
      exact ⟨CW_op h _ _ (by rw [h.2.2.1, op_1 hc hi]), OK_op ho hi (Or.inr rfl) (Or.inr (hX3 rfl)), fun k q _ => up_r _ _ _ _ q, fun k q => up_r _ _ _ _ q, fun j q => pk_un (by omega), fun j q => pk_un (by omega), fun q => by cases q⟩
  · subst e
    refine ⟨true, up v w 5 (v w 5 &&& (pw i ^^^ (-1))), up v2 84 (4 * i + 4) 0, ?_, ?_, ?_⟩
    · unfold sX4_apply; rw [if_neg (show ¬ nI 4 = 3 by decide), if_pos (show nI 4 = 4 from rfl)]; rfl
    · unfold sX6_does sX6_does_26 sX6_does_70 sX6_does_96
      rw [if_neg (show ¬ nI 4 = 0 by decide), if_neg (show ¬ nI 4 = 1 by decide), if_neg (show ¬ nI 4 = 0 by decide), if_neg (show ¬ nI 4 = 2 by decide), if_neg one_ne, if_pos (show (2 : Int32) < nI 4 by decide), if_neg (show ¬ nI 4 ≤ 2 by decide), if_neg (show ¬ nI 4 = 3 by decide), if_pos (ix_op (by omega)).1, (ix_op (by omega)).2, ob, if_pos (by decide)]
      rfl
    · rw [s84]
      exact ⟨CW_op h _ _ (by rw [h.2.2.1, op_0 hc hi]), OK_op ho hi (Or.inl rfl) (Or.inl rfl), fun k q _ => up_r _ _ _ _ q, fun k q => up_r _ _ _ _ q, fun j q => pk_un (by omega), fun j q => pk_un (by omega), fun q => by cases q⟩
