/-! the class's kept command and the reference's words; the target and the objects, both sides -/
def CmdR (v : gV) (e : Nat) (W : Nat → Int32) (P : Nat → Nat) (vb L : Nat) : Prop :=
  vb ≤ 6 ∧ v e 3 = nI vb ∧ W 0 = nI (10 + vb) ∧ L ≤ 7 ∧ (v e 5 = 0 ∨ v e 5 = 1) ∧
  (vb ≤ 4 → v e 6 = nI L ∧
    ((v e 4 = 1 ∧ W 1 = 17 ∧ (L = 0 → W 2 ≠ 18 ∧ W 2 ≠ 19) ∧ (0 < L → W 2 = 18 ∧ P 1 = 3)) ∨ (v e 4 = 2 ∧ W 1 = 22) ∨ (v e 4 = 3 ∧ W 1 = 23) ∨ (v e 4 = 0 ∧ P 1 = 1 ∧ 1 ≤ L)) ∧
    (∀ j, 1 ≤ j → j ≤ L → Des W (P j) (v (e + 1) j) (v (e + 2) j) ∧ (j < L → W (dE W (P j)) = 19 ∧ P (j + 1) = dE W (P j) + 1) ∧ (j = L → W (dE W (P j)) ≠ 18 ∧ W (dE W (P j)) ≠ 19)) ∧
    (vb = 2 → 1 ≤ P 0 ∧ W (P 0 - 1) = 20 ∧ (∀ i, i < P 0 - 1 → W i ≠ 20) ∧ ((v e 5 = 1 ∧ W (P 0) = 22) ∨ (v e 5 = 0 ∧ Des W (P 0) (v (e + 1) 0) (v (e + 2) 0)))) ∧
    (∀ i j, 1 ≤ i → i < j → j ≤ L → P i < P j) ∧ (vb = 2 → ∀ j, 1 ≤ j → j ≤ L → P j < P 0) ∧ (∀ j, j ≤ L → P j ≤ 25))
theorem suit_vis {s : Nat → Int32} {vb k : Nat} (h : suitB s vb k = true) : visB s k = true := by
  have h4 : inB s 4 k = true → visB s k = true := by
    intro q
    unfold inB at q
    have q := of_decide_eq_true q
    unfold visB nxB nrB
    rw [q]
    simp
  unfold suitB at h
  by_cases e0 : vb = 0
  · rw [if_pos e0] at h; simp at h; exact h.1
  · rw [if_neg e0] at h
    by_cases e1 : vb = 1
    · rw [if_pos e1] at h; exact h4 h
    · rw [if_neg e1] at h
      by_cases e2 : vb = 2
      · rw [if_pos e2] at h; simp at h; exact h4 h.1
      · rw [if_neg e2] at h
        by_cases e3 : vb = 3
        · rw [if_pos e3] at h; simp at h; exact h.1.1
        · rw [if_neg e3] at h; unfold tgtB at h; simp at h; exact h.1
theorem tgt_vis {s : Nat → Int32} {k : Nat} (h : tgtB s k = true) : visB s k = true := by
  unfold tgtB at h; simp at h; exact h.1
theorem suit_4 (s : Nat → Int32) : suitB s 4 = tgtB s := by
  funext k
  simp [suitB]
theorem bt_mk_and {c : Nat} (hc : c ≤ 12) (S : Nat → Bool) (x : Int32) : mk c S &&& x = mk c (fun k => S k && bt x k) := by
  refine bt_ext fun k _ => ?_
  rw [bt_and, bt_mk (by omega), bt_mk (by omega)]
  cases decide (k < c) <;> simp
theorem cn_ex {n : Nat} {P : Nat → Bool} (h : cn n P ≠ 0) : ∃ k, k < n ∧ P k = true := by
  obtain ⟨k, hk⟩ := low_ex (fun q => h (cn_0.mpr q))
  exact ⟨k, hk.1, hk.2.1⟩
theorem b_objs {v v2 : gV} {a c vb L : Nat} {P : Nat → Nat} (h : CW v (a + 1) (v2 84) c) (ho : OKs (v2 84) c) (h2 : v a 2 = v2 84 50) (h3 : v a 3 = v2 84 51) (hC : CmdR v (a + 5) (Wv (v2 84)) P vb L) (hvb : vb ≤ 4) (h13 : v2 81 13 = 0)
    (hA : ∀ j, 1 ≤ j → j ≤ L → AnsR v (a + 5) (v2 84) c j (P j) (psB (v2 84) (v ((a + 5) + 1) j) (v ((a + 5) + 2) j) (suitB (v2 84) vb))) :
    ∃ R v' r2 v2', sX3_resolveObjects 1000 v a (mk c (visB (v2 84))) (mk c (suitB (v2 84) vb)) = some (R, v') ∧ sX6_resolveObjects 1000 v2 (nI vb) = some (r2, v2') ∧ OutQ v v' v2 v2' R r2 a c (fun j => 1 ≤ j ∧ j ≤ L) P (fun j => psB (v2 84) (v ((a + 5) + 1) j) (v ((a + 5) + 2) j) (suitB (v2 84) vb)) (suitB (v2 84) vb) := by
  have hc := ho.1
  obtain ⟨_, _, _, hL7, _, hc2⟩ := hC
  obtain ⟨hL, hform, hD, _, _, _, hP⟩ := hc2 hvb
  unfold sX3_resolveObjects sX6_resolveObjects sX3_orNothingSuitable
  rw [ob]
  have hw1 : sX6_word (up v2 81 12 1) 1 = some (Wv (v2 84) 1) := by
    have := m_word (v := up v2 81 12 1) (p := 1) (by decide)
    rw [u84] at this
    exact this
  have hSx : ∀ V : gV, V 84 = v2 84 → sX6_suitableOnes 1000 V (nI vb) = some (mk c (suitB (v2 84) vb)) := by
    intro V hV
    have := m_suitOnes (v := V) (c := c) (w := vb) (by rw [hV]; exact ho) (by omega)
    rw [hV] at this
    exact this
  have hfr : fr v2 (up v2 81 12 1) := fr_81 (fr_refl _) (by decide) _
  rw [hw1]
  simp only [ob]
  rcases hform with ⟨f1, f2, f3, f4⟩ | ⟨f1, f2⟩ | ⟨f1, f2⟩ | ⟨f1, f2, f3⟩
  · rw [f1, if_pos rfl, f2, if_pos rfl, hSx _ (u84 _ _ _), ob]
    obtain ⟨Q, w, g1, g2, g3, g4, g5⟩ := b_but (S := suitB (v2 84) vb) h ho hL hL7 hD hP L 1 (up (up v2 81 12 1) 81 12 2) (fun _ => false) 2 1000 1000 (by omega) (by omega) (by rw [u84, u84]) (by rw [u81, if_pos rfl]; rfl) (by omega) (fun q => by
      have := f4 (by omega)
      exact ⟨Or.inl this.1, this.2⟩) (fun q => f3 (by omega)) (by omega) (by omega)
    have e0 : mk c (fun _ => false) = 0 := (mk_0 (by omega)).mpr (fun _ _ => rfl)
    have e1 : mk c (fun k => suitB (v2 84) vb k && !false) = mk c (suitB (v2 84) vb) := mk_congr fun k _ => by simp
    rw [e0] at g1
    rw [e1] at g2
    unfold sX3_listedSet
    have g1' : sX3_listedSet_4 1000 a 1000 v 0 1 = some (mk c Q) := g1
    rw [g1', ob, mk_andn (by omega), g2]
    by_cases z : cn c (fun k => suitB (v2 84) vb k && !Q k) = 0
    · rw [if_pos ((mk_ne hc).mpr z), ob]
      rw [if_pos z] at g5
      exact ⟨_, _, _, _, rfl, rfl, fr_trans (fr_81 hfr (by decide) _) g3, Or.inr (Or.inl ⟨Or.inr (Or.inl rfl), rfl, g5, g4⟩)⟩
    · rw [if_neg (fun q => z ((mk_ne hc).mp q)), ob]
      rw [if_neg z] at g5
      exact ⟨_, _, _, _, rfl, rfl, fr_trans (fr_81 hfr (by decide) _) g3, Or.inl ⟨_, cn_ex z, rfl, rfl, rfl, g5, g4, fun k _ q => by rw [Bool.and_eq_true] at q; exact q.1⟩⟩
  · rw [f1, if_neg (by decide), if_pos rfl, f2, if_neg (by decide), if_neg (by decide), if_pos rfl]
    obtain ⟨R, w, g1, g2, g3, g4, g5⟩ := b_it (v := v) (v2 := up v2 81 12 1) (a := a) (c := c) (pl := 1) (S := suitB (v2 84) vb) (x := nI vb) (by rw [u84]; exact ho) (by rw [u84]; exact h2) (by intro V hV; rw [u84] at hV; exact hSx V hV) (by rw [u81, if_pos rfl]; rfl) (by rw [u81, if_neg (by decide), h13])
    rw [u84] at g1 g4
    rw [g1, ob, g2, ob]
    rcases g5 with ⟨k, q1, q2, q3, q4, q5⟩ | ⟨q1, q2⟩
    · rw [q3, if_pos (by decide), q4, show (1 : Int32) <<< (nI k &&& 31) = pw k from rfl]
      exact ⟨_, _, _, _, rfl, rfl, fr_trans hfr g3, Or.inl ⟨fun j => decide (j = k), ⟨k, q1, by simp⟩, by rw [q2, mk_single (by omega) q1], (mk_single (by omega) q1).symm, rfl, q3, g4, fun j _ q => by rw [of_decide_eq_true q]; exact q5⟩⟩
    · rw [if_neg (by rw [q2]; rcases q1 with q | q | q <;> rw [q] <;> decide)]
      exact ⟨_, _, _, _, rfl, rfl, fr_trans hfr g3, Or.inr (Or.inl ⟨q1, rfl, q2, g4⟩)⟩
  · rw [f1, if_neg (by decide), if_neg (by decide), if_pos rfl, f2, if_neg (show ¬ (23 : Int32) = 17 by decide), if_pos rfl, hSx _ (u84 _ _ _), ob, h3, u84]
    by_cases z : v2 84 51 = 0
    · rw [if_pos z, if_pos z]
      exact ⟨_, _, _, _, rfl, rfl, fr_81 hfr (by decide) _, Or.inr (Or.inl ⟨Or.inr (Or.inr rfl), rfl, by rw [u81, if_pos rfl], by rw [u84, u84]⟩)⟩
    · rw [if_neg z, if_neg z, Int32.and_comm (v2 84 51), bt_mk_and hc]
      by_cases z2 : cn c (fun k => suitB (v2 84) vb k && bt (v2 84 51) k) = 0
      · rw [if_pos ((mk_ne hc).mpr z2), if_pos ((mk_ne hc).mpr z2), ob]
        exact ⟨_, _, _, _, rfl, rfl, fr_81 hfr (by decide) _, Or.inr (Or.inl ⟨Or.inr (Or.inl rfl), rfl, by rw [u81, if_pos rfl], by rw [u84, u84]⟩)⟩
      · rw [if_neg (fun q => z2 ((mk_ne hc).mp q)), if_neg (fun q => z2 ((mk_ne hc).mp q)), ob]
        exact ⟨_, _, _, _, rfl, rfl, fr_81 hfr (by decide) _, Or.inl ⟨_, cn_ex z2, rfl, rfl, rfl, by rw [u81, if_pos rfl], by rw [u84, u84], fun k _ q => by rw [Bool.and_eq_true] at q; exact q.1⟩⟩
  · have hd := des_first (hD 1 (by omega) f3).1
    rw [f2] at hd
    rw [f1, if_neg (by decide), if_neg (by decide), if_neg (by decide), if_neg hd.1, if_neg hd.2.2.2.2.2, if_neg hd.2.2.2.2.1]
    obtain ⟨R, v', r2, w, g1, g2, g3, g4⟩ := b_list (vb := vb) (P := P) h ho (by omega) (fun k _ q => suit_vis q) hL hL7 hD hP hA (L - 1) 1 (up v2 81 12 1) (fun _ => false) 1000 1000 (by omega) (by omega) (u84 _ _ _) (by rw [u81, if_neg (by decide), h13]) (by rw [u81, if_pos rfl, f2]; rfl) (fun _ _ q => by cases q) (by omega) (by omega)
    have e0 : mk c (fun _ => false) = 0 := (mk_0 (by omega)).mpr (fun _ _ => rfl)
    rw [e0] at g1 g2
    unfold sX3_resolveList
    have g1' : sX3_resolveList_5 1000 a 1000 v (mk c (visB (v2 84))) (mk c (suitB (v2 84) vb)) 0 1 = some (R, v') := g1
    rw [g1', ob, g2]
    rw [u84] at g4
    exact ⟨_, _, _, _, rfl, rfl, fr_trans hfr g3, g4⟩
theorem m_tgtLoop {s : Nat → Int32} {q : Nat} (hq : q < 60) (hs : ∀ i, i < q → Wv s i ≠ 20) : ∀ d i v2 km, i + d = q → v2 84 = s → v2 81 12 = nI i → v2 81 13 = 0 → ∃ V, fr v2 V ∧ V 84 = s ∧ V 81 12 = nI q ∧ V 81 13 = 0 ∧ sX6_resolveTarget_5 1000 (km + 1 + d) v2 = sX6_resolveTarget_5 1000 (km + 1) V := by
  intro d
  induction d with
  | zero => intro i v2 km hi h84 h12 h13; exact ⟨v2, fr_refl _, h84, by rw [h12]; congr 1, h13, rfl⟩
  | succ d ih =>
    intro i v2 km hi h84 h12 h13
    obtain ⟨V, g1, g2, g3, g4, g5⟩ := ih (i + 1) (up v2 81 12 (v2 81 12 + 1)) km (by omega) (by rw [u84, h84]) (by rw [u81, if_pos rfl, h12, nI_1]) (by rw [u81, if_neg (by decide), h13])
    refine ⟨V, fr_trans (fr_81 (fr_refl _) (by decide) _) g1, g2, g3, g4, ?_⟩
    rw [← g5]
    conv => lhs; rw [show km + 1 + (d + 1) = (km + 1 + d) + 1 by omega]; unfold sX6_resolveTarget_5
    rw [h12, m_word (by omega), ob, h84, if_neg (hs i (by omega)), ob]
theorem b_tgt {v v2 : gV} {a c vb L : Nat} {P : Nat → Nat} (h : CW v (a + 1) (v2 84) c) (ho : OKs (v2 84) c) (h2 : v a 2 = v2 84 50) (hC : CmdR v (a + 5) (Wv (v2 84)) P vb L) (hvb : vb = 2) (h13 : v2 81 13 = 0)
    (hA : AnsR v (a + 5) (v2 84) c 0 (P 0) (psB (v2 84) (v ((a + 5) + 1) 0) (v ((a + 5) + 2) 0) (tgtB (v2 84)))) :
    ∃ R v' r2 v2', sX3_resolveTarget 1000 v a (mk c (visB (v2 84))) (mk c (tgtB (v2 84))) = some (R, v') ∧ sX6_resolveTarget 1000 v2 = some (r2, v2') ∧ fr v2 v2' ∧
      ((∃ k, k < c ∧ R = pw k ∧ r2 = nI k ∧ v' = v ∧ v2' 81 13 = 0 ∧ v2' 84 = v2 84 ∧ tgtB (v2 84) k = true) ∨ ((R = -2 ∨ R = -3 ∨ R = -4) ∧ v' = v ∧ v2' 81 13 = R ∧ v2' 84 = v2 84) ∨ (R = -1 ∧ 1 < cn c (psB (v2 84) (v ((a + 5) + 1) 0) (v ((a + 5) + 2) 0) (tgtB (v2 84))) ∧ v' = up (up v a 8 (nI 0)) a 7 (mk c (psB (v2 84) (v ((a + 5) + 1) 0) (v ((a + 5) + 2) 0) (tgtB (v2 84)))) ∧ v2' 81 13 = -1 ∧ v2' 84 = upd (upd (v2 84) 56 (nI (P 0))) 57 (mk c (psB (v2 84) (v ((a + 5) + 1) 0) (v ((a + 5) + 2) 0) (tgtB (v2 84)))))) := by
  have hc := ho.1
  obtain ⟨_, _, _, hL7, _, hc2⟩ := hC
  obtain ⟨_, _, _, hT, _, _, hP⟩ := hc2 (by omega)
  obtain ⟨t1, t2, t3, t4⟩ := hT hvb
  have hP0 := hP 0 (by omega)
  unfold sX6_resolveTarget
  rw [ob]
  obtain ⟨V, g1, g2, g3, g4, g5⟩ := m_tgtLoop (s := v2 84) (q := P 0 - 1) (by omega) t3 (P 0 - 1) 0 (up v2 81 12 0) (999 - (P 0 - 1)) (by omega) (u84 _ _ _) (by rw [u81, if_pos rfl]; rfl) (by rw [u81, if_neg (by decide), h13])
  rw [show 999 - (P 0 - 1) + 1 + (P 0 - 1) = 1000 by omega] at g5
  rw [g5]
  have f0 : fr v2 V := fr_trans (fr_81 (fr_refl _) (by decide) _) g1
  clear g5 g1
  unfold sX6_resolveTarget_5
  have f1 : fr v2 (up V 81 12 (V 81 12 + 1)) := fr_81 f0 (by decide) _
  have e84 : up V 81 12 (V 81 12 + 1) 84 = v2 84 := by rw [u84, g2]
  have e12 : up V 81 12 (V 81 12 + 1) 81 12 = nI (P 0) := by rw [u81, if_pos rfl, g3, nI_1]; congr 1; omega
  have e13 : up V 81 12 (V 81 12 + 1) 81 13 = 0 := by rw [u81, if_neg (by decide), g4]
  rw [g3, m_word (by omega), ob, g2, if_pos t2, ob]
  rw [g3] at e84 e12 e13 f1
  generalize up V 81 12 (nI (P 0 - 1) + 1) = Z at e84 e12 e13 f1
  rw [e12, m_word (by omega), ob, e84]
  have hSx : ∀ U : gV, U 84 = v2 84 → sX6_suitableOnes 1000 U (-1) = some (mk c (tgtB (v2 84))) := by
    intro U hU
    have := m_tgtOnes (v := U) (c := c) (by rw [hU]; exact ho)
    rw [hU] at this
    exact this
  unfold sX3_resolveTarget
  rcases t4 with ⟨q1, q2⟩ | ⟨q1, q2⟩
  · rw [if_pos q2, if_neg (by rw [q1]; decide)]
    obtain ⟨R, w, i1, i2, i3, i4, i5⟩ := b_it (v := v) (v2 := Z) (a := a) (c := c) (pl := P 0) (S := tgtB (v2 84)) (x := -1) (by rw [e84]; exact ho) (by rw [e84]; exact h2) (by intro U hU; rw [e84] at hU; exact hSx U hU) e12 e13
    rw [e84] at i1 i4
    rw [i1, ob, i2, ob]
    rcases i5 with ⟨k, j1, j2, j3, j4, j5⟩ | ⟨j1, j2⟩
    · exact ⟨_, _, _, _, rfl, rfl, fr_trans f1 i3, Or.inl ⟨k, j1, j2, j4, rfl, j3, i4, j5⟩⟩
    · exact ⟨_, _, _, _, rfl, rfl, fr_trans f1 i3, Or.inr (Or.inl ⟨j1, rfl, j2, i4⟩)⟩
  · rw [if_neg (des_first q2).2.2.2.2.1, if_pos q1]
    obtain ⟨R, v', w, i1, i2, i3, i4, i5⟩ := b_desc (v := v) (v2 := Z) (a := a) (c := c) (j := 0) (p := P 0) (S := tgtB (v2 84)) (x := -1) (by rw [e84]; exact h) (by rw [e84]; exact ho) (by omega) (by rw [e84]; exact fun k _ q => tgt_vis q) (by intro U hU; rw [e84] at hU; exact hSx U hU) e12 (by omega) (by rw [e84]; exact q2) (by rw [e84]; exact hA)
    rw [e84] at i1 i5
    have i1' : sX3_resolveDescription 1000 v a 0 (mk c (visB (v2 84))) (mk c (tgtB (v2 84))) = some (R, v') := i1
    rw [i1', ob, i2, ob]
    rcases i5 with ⟨k, j1, j2, j3, j4, j5, j6, j7⟩ | ⟨j1, j2, j3, j4⟩ | ⟨j1, j2, j3, j4, j5⟩
    · exact ⟨_, _, _, _, rfl, rfl, fr_trans f1 i3, Or.inl ⟨k, j1, j2, j5, j3, by rw [j4, e13], j6, j7⟩⟩
    · refine ⟨_, _, _, _, rfl, rfl, fr_trans f1 i3, Or.inr (Or.inl ⟨?_, j2, j3, j4⟩)⟩
      rcases j1 with q | q
      · exact Or.inl q
      · exact Or.inr (Or.inl q)
    · exact ⟨_, _, _, _, rfl, rfl, fr_trans f1 i3, Or.inr (Or.inr ⟨j1, j2, j3, j4, j5⟩)⟩
