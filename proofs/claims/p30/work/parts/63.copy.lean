/-! copying a state; saving, both sides -/
theorem k_cpyW {a b : Nat} (hd : b + 3 < a ∨ a + 3 < b) (v : gV) :
    ∃ v', sX4_copyFrom 1000 v a b = some v' ∧ (∀ k, k < a ∨ a + 3 < k → v' k = v k) ∧ (∀ j, j < 12 → v' (a + 1) j = v (b + 1) j ∧ v' (a + 2) j = v (b + 2) j ∧ v' (a + 3) j = v (b + 3) j) ∧ v' a 3 = v b 3 ∧ v' a 4 = v b 4 ∧ v' a 5 = v b 5 := by
  have L : ∀ d i v n, i + d = 12 → (∀ j, j < i → v (a + 1) j = v (b + 1) j ∧ v (a + 2) j = v (b + 2) j ∧ v (a + 3) j = v (b + 3) j) → ∃ v', sX4_copyFrom_2 1000 a b (n + 1 + d) v (nI i) = some v' ∧ (∀ k, k < a ∨ a + 3 < k → v' k = v k) ∧ (∀ j, j < 12 → v' (a + 1) j = v (b + 1) j ∧ v' (a + 2) j = v (b + 2) j ∧ v' (a + 3) j = v (b + 3) j) ∧ v' a 3 = v b 3 ∧ v' a 4 = v b 4 ∧ v' a 5 = v b 5 := by
    intro d
    induction d with
    | zero =>
      intro i v n hi hj
      have : i = 12 := by omega
      subst this
      unfold sX4_copyFrom_2
      have hab : b ≠ a := by omega
      simp only [ob]
      rw [if_pos (show (12 : Int32) ≤ nI 12 by decide)]
      refine ⟨_, rfl, fun k q => ?_, fun j q => ?_, ?_, ?_, ?_⟩
      · have : k ≠ a := by omega
        simp only [up_r _ _ _ _ this]
      · have e1 : a + 1 ≠ a := by omega
        have e2 : a + 2 ≠ a := by omega
        have e3 : a + 3 ≠ a := by omega
        simp only [up_r _ _ _ _ e1, up_r _ _ _ _ e2, up_r _ _ _ _ e3]
        exact hj j q
      · simp [up, hab]
      · simp [up, hab]
      · simp [up, hab]
    | succ d ih =>
      intro i v n hi hj
      rw [show n + 1 + (d + 1) = (n + 1 + d) + 1 from rfl]
      unfold sX4_copyFrom_2
      simp only [ob]
      rw [if_neg (ge_12 (by omega))]
      have hin' : ¬ (nI i < 0 ∨ 12 ≤ i) := fun q => q.elim (nI_pos (by omega)) (by omega)
      simp only [nI_clamp (show i < 2 ^ 31 by omega), if_pos hin']
      generalize hV : up (up (up v (a + 1) i (v (b + 1) i)) (a + 2) i (up v (a + 1) i (v (b + 1) i) (b + 2) i)) (a + 3) i (up (up v (a + 1) i (v (b + 1) i)) (a + 2) i (up v (a + 1) i (v (b + 1) i) (b + 2) i) (b + 3) i) = V
      have hVb : ∀ k, k ≠ a + 1 → k ≠ a + 2 → k ≠ a + 3 → V k = v k := by
        intro k q1 q2 q3
        rw [← hV, up_r _ _ _ _ q3, up_r _ _ _ _ q2, up_r _ _ _ _ q1]
      have hbb := hVb b (by omega) (by omega) (by omega)
      have hb1 := hVb (b + 1) (by omega) (by omega) (by omega)
      have hb2 := hVb (b + 2) (by omega) (by omega) (by omega)
      have hb3 := hVb (b + 3) (by omega) (by omega) (by omega)
      have c1 : ∀ j, V (a + 1) j = if j = i then v (b + 1) i else v (a + 1) j := by
        intro j
        rw [← hV, up_r _ _ _ _ (by omega : a + 1 ≠ a + 3), up_r _ _ _ _ (by omega : a + 1 ≠ a + 2)]
        by_cases e : j = i
        · rw [e, up_s, if_pos rfl]
        · rw [up_c _ _ _ _ e, if_neg e]
      have c2 : ∀ j, V (a + 2) j = if j = i then v (b + 2) i else v (a + 2) j := by
        intro j
        rw [← hV, up_r _ _ _ _ (by omega : a + 2 ≠ a + 3)]
        by_cases e : j = i
        · rw [e, up_s, if_pos rfl, up_r _ _ _ _ (by omega)]
        · rw [up_c _ _ _ _ e, if_neg e, up_r _ _ _ _ (by omega)]
      have c3 : ∀ j, V (a + 3) j = if j = i then v (b + 3) i else v (a + 3) j := by
        intro j
        rw [← hV]
        by_cases e : j = i
        · rw [e, up_s, if_pos rfl, up_r _ _ _ _ (by omega), up_r _ _ _ _ (by omega)]
        · rw [up_c _ _ _ _ e, if_neg e, up_r _ _ _ _ (by omega), up_r _ _ _ _ (by omega)]
      obtain ⟨v', g1, g2, g3, g4⟩ := ih (i + 1) V n (by omega) (fun j q => by
        rw [c1, c2, c3, hb1, hb2, hb3]
        by_cases e : j = i
        · rw [if_pos e, if_pos e, if_pos e, e]; exact ⟨rfl, rfl, rfl⟩
        · rw [if_neg e, if_neg e, if_neg e]; exact hj j (by omega))
      rw [nI_1]
      rw [hbb] at g4
      rw [hb1, hb2, hb3] at g3
      exact ⟨v', g1, fun k q => (g2 k q).trans (hVb k (by omega) (by omega) (by omega)), g3, g4⟩
  obtain ⟨v', g⟩ := L 12 0 v 987 (by omega) (fun j q => by omega)
  exact ⟨v', g⟩
def CPY (v' v : gV) (a b : Nat) : Prop := (∀ j, j < 12 → v' (a + 1 + 1) j = v (b + 1 + 1) j ∧ v' (a + 1 + 2) j = v (b + 1 + 2) j ∧ v' (a + 1 + 3) j = v (b + 1 + 3) j) ∧ (v' (a + 1) 3 = v (b + 1) 3 ∧ v' (a + 1) 4 = v (b + 1) 4 ∧ v' (a + 1) 5 = v (b + 1) 5) ∧ (∀ j, j < 8 → v' (a + 5 + 1) j = v (b + 5 + 1) j ∧ v' (a + 5 + 2) j = v (b + 5 + 2) j ∧ v' (a + 5 + 3) j = v (b + 5 + 3) j) ∧ (v' (a + 5) 3 = v (b + 5) 3 ∧ v' (a + 5) 4 = v (b + 5) 4 ∧ v' (a + 5) 5 = v (b + 5) 5 ∧ v' (a + 5) 6 = v (b + 5) 6) ∧ ∀ j, 2 ≤ j → j ≤ 8 → v' a j = v b j
theorem SR_cpy {v v' : gV} {a b : Nat} {s : Nat → Int32} (h : SR v b s) (hc : CPY v' v a b) : SR v' a s := by
  obtain ⟨c, ⟨y1, y2, y3, y4, y5, y6, y7, y8, y9⟩, hq⟩ := h
  obtain ⟨p1, ⟨p2, p3, p4⟩, p5, ⟨p6, p7, p8, p9⟩, p10⟩ := hc
  have hc := y1.1
  refine ⟨c, ⟨y1, ⟨by rw [p2]; exact y2.1, by rw [p3]; exact y2.2.1, by rw [p4]; exact y2.2.2.1, fun k hk => ?_⟩, by rw [p10 2 (by decide) (by decide)]; exact y3, by rw [p10 3 (by decide) (by decide)]; exact y4, by rw [p10 4 (by decide) (by decide)]; exact y5, by rw [p10 5 (by decide) (by decide)]; exact y6, by rw [p10 6 (by decide) (by decide)]; exact y7, by rw [p10 7 (by decide) (by decide)]; exact y8, by rw [p8]; exact y9⟩, ?_⟩
  · rw [(p1 k (by omega)).1, (p1 k (by omega)).2.1, (p1 k (by omega)).2.2]
    exact y2.2.2.2 k hk
  · rcases hq with ⟨q1, q2, q3⟩ | ⟨q0, m, P, vb, L, j, q1, q2, q3, q4, q5, q6, q7, q8, q9, q10, q11⟩
    · left
      rw [p10 8 (by decide) (by decide)]
      exact ⟨q1, q2, q3⟩
    · right
      have hL := q3.2.2.2.1
      have hG : ∀ i, i ≤ L → GG v' (a + 5) s vb i = GG v (b + 5) s vb i := fun i hi => by
        unfold GG
        rw [(p5 i (by omega)).1, (p5 i (by omega)).2.1]
      refine ⟨q0, m, P, vb, L, j, q1, q2, CmdR_copy q3 p6 p7 p8 p9 (fun j q => ⟨(p5 j q).1, (p5 j q).2.1⟩), q4, fun i hi hz => ?_, q6, q7, by rw [p10 8 (by decide) (by decide)]; exact q8, q9, by rw [hG j q6]; exact q10, by rw [hG j q6]; exact q11⟩
      have := q5 i hi hz
      unfold AnsR at this ⊢
      rw [hG i hi, (p5 i (by omega)).2.2]
      exact this
theorem up7 (w : gV) {a b : Nat} (hab : b ≠ a) : ∃ V, ((some (up w a 2 (w b 2))).bind fun v_3 => (some (up v_3 a 3 (v_3 b 3))).bind fun v_4 => (some (up v_4 a 4 (v_4 b 4))).bind fun v_5 => (some (up v_5 a 5 (v_5 b 5))).bind fun v_6 => (some (up v_6 a 6 (v_6 b 6))).bind fun v_7 => (some (up v_7 a 7 (v_7 b 7))).bind fun v_8 => (some (up v_8 a 8 (v_8 b 8))).bind fun v_9 => some v_9) = some V ∧ (∀ k, k ≠ a → V k = w k) ∧ ∀ j, 2 ≤ j → j ≤ 8 → V a j = w b j := by
  simp only [ob]
  refine ⟨_, rfl, fun k q => ?_, fun j q1 q2 => ?_⟩
  · simp only [up_r _ _ _ _ q]
  · have hj : j = 2 ∨ j = 3 ∨ j = 4 ∨ j = 5 ∨ j = 6 ∨ j = 7 ∨ j = 8 := by omega
    rcases hj with z | z | z | z | z | z | z <;> subst z <;> simp [up, hab]
theorem k_cpyS {a b : Nat} (hd : b + 8 < a ∨ a + 8 < b) (v : gV) (hb : v (b + 5) 5 = 0 ∨ v (b + 5) 5 = 1) :
    ∃ v', sX3_copyFrom 1000 v a b = some v' ∧ (∀ k, k < a ∨ a + 8 < k → v' k = v k) ∧ CPY v' v a b := by
  obtain ⟨u, g1, g2, g3, g4, g5, g6⟩ := k_cpyW (a := a + 1) (b := b + 1) (by omega) v
  have ub : ∀ k, k < a + 1 ∨ a + 4 < k → u k = v k := fun k q => g2 k (by omega)
  obtain ⟨w, i1, i2, i3, i4, i5, i6, i7, i8⟩ := k_cpyC (a := a + 5) (b := b + 5) (by omega) u (by rw [ub _ (by omega)]; exact hb)
  unfold sX3_copyFrom
  rw [g1, ob, i1, ob]
  obtain ⟨V, hV, hVk, hVb⟩ := up7 w (a := a) (b := b) (by omega)
  rw [hV]
  have hVa : ∀ j, 2 ≤ j → j ≤ 8 → V a j = v b j := by
    intro j q1 q2
    rw [hVb j q1 q2, i2 b (by omega), ub b (by omega)]
  refine ⟨V, rfl, fun k q => ?_, fun j q => ⟨?_, ?_, ?_⟩, ⟨?_, ?_, ?_⟩, fun j q => ⟨?_, ?_, ?_⟩, ⟨?_, ?_, ?_, ?_⟩, hVa⟩
  · rw [hVk k (by omega), i2 k (by omega), ub k (by omega)]
  · rw [hVk _ (by omega), i2 _ (by omega)]; exact (g3 j q).1
  · rw [hVk _ (by omega), i2 _ (by omega)]; exact (g3 j q).2.1
  · rw [hVk _ (by omega), i2 _ (by omega)]; exact (g3 j q).2.2
  · rw [hVk _ (by omega), i2 _ (by omega)]; exact g4
  · rw [hVk _ (by omega), i2 _ (by omega)]; exact g5
  · rw [hVk _ (by omega), i2 _ (by omega)]; exact g6
  · rw [hVk _ (by omega), (i3 j q).1, ub _ (by omega)]
  · rw [hVk _ (by omega), (i3 j q).2.1, ub _ (by omega)]
  · rw [hVk _ (by omega), (i3 j q).2.2, ub _ (by omega)]
  · rw [hVk _ (by omega), i4, ub _ (by omega)]
  · rw [hVk _ (by omega), i5, ub _ (by omega)]
  · rw [hVk _ (by omega), i6, ub _ (by omega)]
  · rw [hVk _ (by omega), i7, ub _ (by omega)]
def nx6 (x : Nat) : Nat := if x + 1 < 6 then x + 1 else 0
def nn6 (n : Nat) : Nat := if n < 6 then n + 1 else 6
theorem k_row {v : gV} {x : Nat} (hx : x < 6) : sX5_hasRow v (nI x) = some 1 := by
  unfold sX5_hasRow
  rw [if_neg (nI_pos (by omega)), if_neg (show ¬ (6 : Int32) ≤ nI x from nI_ge (b := 6) hx (by decide)), if_pos (nI_in (by omega) (by decide))]
theorem SR_5 {v : gV} {a : Nat} {s : Nat → Int32} (h : SR v a s) : v (a + 5) 5 = 0 ∨ v (a + 5) 5 = 1 := by
  obtain ⟨c, ⟨_, _, _, _, _, _, _, _, y9⟩, _⟩ := h
  exact y9
theorem k_save {v : gV} {n x : Nat} {s : Nat → Int32} (hn : n ≤ 6) (hx : x < 6) (h5 : v 0 5 = nI n) (h6 : v 0 6 = nI x) (hS : SR v 8 s) :
    ∃ v', sX5_save 1000 v = some v' ∧ (∀ k, k ≠ 0 → k < 27 + 9 * x ∨ 27 + 9 * x + 8 < k → v' k = v k) ∧ v' 0 5 = nI (nn6 n) ∧ v' 0 6 = nI (nx6 x) ∧ SR v' (27 + 9 * x) s := by
  obtain ⟨u, g1, g2, g3⟩ := k_cpyS (a := 27 + 9 * x) (b := 8) (by omega) v (SR_5 hS)
  have hu := SR_cpy hS g3
  have u0 : u 0 = v 0 := g2 0 (by omega)
  unfold sX5_save
  rw [h6, k_row hx, ob, if_neg one_ne, if_pos (nI_in (by omega) (by decide)), nI_clamp (by omega), g1, ob]
  have e27 : sX5_save_27 1000 u = sX5_save_49 1000 u (nI (nx6 x)) := by
    unfold sX5_save_27 nx6
    rw [u0, h6, nI_1]
    by_cases z : x + 1 < 6
    · rw [if_neg (show ¬ (6 : Int32) ≤ nI (x + 1) from nI_ge (b := 6) z (by decide)), if_pos z]
    · rw [if_pos (show (6 : Int32) ≤ nI (x + 1) from nI_le (a := 6) (by omega) (by omega)), if_neg z]; rfl
  rw [e27]
  unfold sX5_save_49
  rw [ob, up_c _ _ _ _ (by decide), u0, h5, nI_1]
  by_cases z : n < 6
  · rw [if_neg (show ¬ (6 : Int32) ≤ nI n from nI_ge (b := 6) z (by decide)), ob]
    refine ⟨_, rfl, fun k q1 q2 => ?_, ?_, ?_, SR_congr hu (fun k q1 q2 => ?_) (fun _ _ => rfl)⟩
    · rw [up_r _ _ _ _ q1, up_r _ _ _ _ q1, g2 k (by omega)]
    · rw [up_s]; unfold nn6; rw [if_pos z]
    · rw [up_c _ _ _ _ (by decide), up_s]
    · rw [up_r _ _ _ _ (by omega), up_r _ _ _ _ (by omega)]
  · rw [if_pos (show (6 : Int32) ≤ nI n from nI_le (a := 6) (by omega) (by omega))]
    refine ⟨_, rfl, fun k q1 q2 => ?_, ?_, ?_, SR_congr hu (fun k q1 q2 => ?_) (fun _ _ => rfl)⟩
    · rw [up_r _ _ _ _ q1, g2 k (by omega)]
    · rw [up_c _ _ _ _ (by decide), u0, h5]; unfold nn6; rw [if_neg z, show n = 6 by omega]
    · rw [up_s]
    · rw [up_r _ _ _ _ (by omega)]
theorem m_save51 {n : Nat} (hn : n ≤ 5) : ∀ d i w N, i + d = 122 → w 81 5 = nI n → ∃ w', sX6_save_51 1000 (N + 1 + d) w (nI i) = some w' ∧ (∀ k, k ≠ 81 → k ≠ 86 → w' k = w k) ∧ (∀ j, j ≠ 5 → w' 81 j = w 81 j) ∧ w' 81 5 = nI (n + 1) ∧ (∀ j, j < 122 * n + i ∨ 122 * n + 122 ≤ j → w' 86 j = w 86 j) ∧ ∀ j, i ≤ j → j < 122 → w' 86 (122 * n + j) = w 84 j := by
  intro d
  induction d with
  | zero =>
    intro i w N hi h5
    have : i = 122 := by omega
    subst this
    unfold sX6_save_51
    rw [if_pos (show (122 : Int32) ≤ nI 122 by decide), ob, h5, nI_1]
    exact ⟨_, rfl, fun k q1 _ => up_r _ _ _ _ q1, fun j q => up_c _ _ _ _ q, up_s _ _ _ _, fun j _ => by rw [up_r _ _ _ _ (by decide)], fun j q r => by omega⟩
  | succ d ih =>
    intro i w N hi h5
    have e : (122 : Int32) * nI n + nI i = nI (122 * n + i) := by rw [show (122 : Int32) = nI 122 from rfl, pk_mul, nI_add]
    obtain ⟨w', g1, g2, g3, g4, g5, g6⟩ := ih (i + 1) (up w 86 (122 * n + i) (w 84 i)) N (by omega) (by rw [up_r _ _ _ _ (by decide)]; exact h5)
    refine ⟨w', ?_, fun k q1 q2 => (g2 k q1 q2).trans (up_r _ _ _ _ q2), fun j q => (g3 j q).trans (by rw [up_r _ _ _ _ (by decide)]), g4, fun j q => ?_, fun j q r => ?_⟩
    · rw [← Nat.add_assoc]
      unfold sX6_save_51
      rw [if_neg (show ¬ (122 : Int32) ≤ nI i from nI_ge (b := 122) (by omega) (by decide)), if_pos (nI_in (by omega) (by decide)), h5, e, if_pos (nI_in (by omega) (by decide)), nI_clamp (by omega), nI_clamp (by omega), ob, nI_1]
      exact g1
    · rw [g5 j (by omega), up_c _ _ _ _ (by omega)]
    · by_cases e : j = i
      · rw [g5 (122 * n + j) (by omega), e, up_s]
      · rw [g6 j (by omega) r, up_r _ _ _ _ (by decide)]
theorem m_save11 : ∀ d i w N, i + d = 610 → w 81 5 = nI 6 → ∃ W, sX6_save_11 1000 (N + 1 + d) w (nI i) = sX6_save_51 1000 1000 W (nI 0) ∧ (∀ k, k ≠ 81 → k ≠ 86 → W k = w k) ∧ (∀ j, j ≠ 5 → W 81 j = w 81 j) ∧ W 81 5 = nI 5 ∧ (∀ j, j < i → W 86 j = w 86 j) ∧ ∀ j, i ≤ j → j < 610 → W 86 j = w 86 (122 + j) := by
  intro d
  induction d with
  | zero =>
    intro i w N hi h5
    have : i = 610 := by omega
    subst this
    unfold sX6_save_11
    rw [if_pos (show (610 : Int32) ≤ nI 610 by decide), ob, h5]
    exact ⟨_, rfl, fun k q1 _ => up_r _ _ _ _ q1, fun j q => up_c _ _ _ _ q, up_s _ _ _ _, fun j _ => by rw [up_r _ _ _ _ (by decide)], fun j q r => by omega⟩
  | succ d ih =>
    intro i w N hi h5
    have e : (122 : Int32) + nI i = nI (122 + i) := nI_add 122 i
    obtain ⟨w', g1, g2, g3, g4, g5, g6⟩ := ih (i + 1) (up w 86 i (w 86 (122 + i))) N (by omega) (by rw [up_r _ _ _ _ (by decide)]; exact h5)
    refine ⟨w', ?_, fun k q1 q2 => (g2 k q1 q2).trans (up_r _ _ _ _ q2), fun j q => (g3 j q).trans (by rw [up_r _ _ _ _ (by decide)]), g4, fun j q => ?_, fun j q r => ?_⟩
    · rw [← Nat.add_assoc]
      unfold sX6_save_11
      rw [if_neg (show ¬ (610 : Int32) ≤ nI i from nI_ge (b := 610) (by omega) (by decide)), e, if_pos (nI_in (c := 122 + i) (N := 732) (by omega) (by decide)), if_pos (nI_in (c := i) (N := 732) (by omega) (by decide)), nI_clamp (n := i) (by omega), nI_clamp (n := 122 + i) (by omega), ob, nI_1]
      exact g1
    · rw [g5 j (by omega), up_c _ _ _ _ (by omega)]
    · by_cases e : j = i
      · rw [g5 j (by omega), e, up_s]
      · rw [g6 j (by omega) r, up_c _ _ _ _ (by omega)]
theorem m_save {w : gV} {n : Nat} (hn : n ≤ 6) (h5 : w 81 5 = nI n) : ∃ w', sX6_save 1000 w = some w' ∧ (∀ k, k ≠ 81 → k ≠ 86 → w' k = w k) ∧ (∀ j, j ≠ 5 → w' 81 j = w 81 j) ∧ w' 81 5 = nI (nn6 n) ∧ (∀ t j, t + 1 < nn6 n → j < 122 → w' 86 (122 * t + j) = w 86 (122 * (if n < 6 then t else t + 1) + j)) ∧ ∀ j, j < 122 → w' 86 (122 * (nn6 n - 1) + j) = w 84 j := by
  unfold sX6_save nn6
  rw [h5]
  by_cases z : n < 6
  · rw [if_neg (fun q => by have := (nI_eq (b := 6) (by omega) (by decide)).mp q; omega)]
    obtain ⟨w', g1, g2, g3, g4, g5, g6⟩ := m_save51 (n := n) (by omega) 122 0 w 877 (by omega) h5
    simp only [if_pos z]
    exact ⟨w', g1, g2, g3, g4, fun t j q r => g5 _ (by omega), fun j r => g6 j (by omega) r⟩
  · have e6 : n = 6 := by omega
    subst e6
    rw [if_pos (show nI 6 = 6 from rfl)]
    obtain ⟨W, f1, f2, f3, f4, f5, f6⟩ := m_save11 610 0 w 389 (by omega) h5
    obtain ⟨w', g1, g2, g3, g4, g5, g6⟩ := m_save51 (n := 5) (by omega) 122 0 W 877 (by omega) f4
    simp only [if_neg z]
    refine ⟨w', Eq.trans f1 g1, fun k q r => (g2 k q r).trans (f2 k q r), fun j q => (g3 j q).trans (f3 j q), g4, fun t j q r => ?_, fun j r => ?_⟩
    · rw [g5 _ (by omega), f6 _ (by omega) (by omega)]
      exact congrArg (w 86) (by omega)
    · rw [← f2 84 (by decide) (by decide)]
      exact g6 j (by omega) r
def RG (v w : gV) : Prop := ∃ n x, n ≤ 6 ∧ x < 6 ∧ v 0 5 = nI n ∧ v 0 6 = nI x ∧ w 81 5 = nI n ∧ ∀ t, t < n → SR v (27 + 9 * ((x + 6 - n + t) % 6)) (fun j => w 86 (122 * t + j))
theorem b_save {v w : gV} (hS : SR v 8 (w 84)) (hR : RG v w) : ∃ v' w', sX5_save 1000 v = some v' ∧ sX6_save 1000 w = some w' ∧ RG v' w' ∧ (∀ k, k ≠ 0 → k < 27 ∨ 80 < k → v' k = v k) ∧ (∀ k, k ≠ 81 → k ≠ 86 → w' k = w k) ∧ ∀ j, j ≠ 5 → w' 81 j = w 81 j := by
  obtain ⟨n, x, hn, hx, h5, h6, hw5, hr⟩ := hR
  obtain ⟨v', g1, g2, g3, g4, g5⟩ := k_save hn hx h5 h6 hS
  obtain ⟨w', i1, i2, i3, i4, i5, i6⟩ := m_save hn hw5
  have hnn : nn6 n ≤ 6 ∧ 1 ≤ nn6 n := by unfold nn6; split <;> omega
  have hnx : nx6 x < 6 := by unfold nx6; split <;> omega
  refine ⟨v', w', g1, i1, ⟨nn6 n, nx6 x, hnn.1, hnx, g3, g4, i4, fun t ht => ?_⟩, fun k q r => g2 k q (by omega), i2, i3⟩
  by_cases z : t + 1 < nn6 n
  · have e1 : (nx6 x + 6 - nn6 n + t) % 6 = (x + 6 - n + (if n < 6 then t else t + 1)) % 6 := by
      unfold nx6 nn6
      unfold nn6 at z ht
      by_cases y : n < 6
      · simp only [if_pos y] at z ⊢
        split <;> omega
      · simp only [if_neg y] at z ⊢
        split <;> omega
    have hlt : (if n < 6 then t else t + 1) < n := by
      unfold nn6 at z
      by_cases y : n < 6
      · simp only [if_pos y] at z ⊢; omega
      · simp only [if_neg y] at z ⊢; omega
    have hne : (x + 6 - n + (if n < 6 then t else t + 1)) % 6 ≠ x := by
      have hz : n < 6 ∨ 0 < (if n < 6 then t else t + 1) := by
        by_cases y : n < 6
        · exact Or.inl y
        · right; rw [if_neg y]; omega
      generalize (if n < 6 then t else t + 1) = t' at hlt hz ⊢
      omega
    rw [e1]
    refine SR_congr (hr _ hlt) (fun k q r => g2 k (by omega) (by omega)) (fun j q => i5 t j z q)
  · have e0 : t = nn6 n - 1 := by omega
    have e1 : (nx6 x + 6 - nn6 n + t) % 6 = x := by
      rw [e0]
      unfold nx6 at hnx ⊢
      split <;> omega
    rw [e1]
    refine SR_congr g5 (fun _ _ _ => rfl) (fun j q => ?_)
    show w' 86 (122 * t + j) = w 84 j
    rw [e0]
    exact i6 j q
