/-! a command or an answer taken, both sides -/
theorem in_8 {i : Nat} (h : i < 8) : ¬ (nI i < 0 ∨ 8 ≤ (nI i).toNatClampNeg) := nI_in h (by decide)
theorem bool_1 {x : Int32} (h : x = 0 ∨ x = 1) : x &&& 1 = x := by rcases h with e | e <;> rw [e] <;> decide
theorem k_cpyC {a b : Nat} (hd : b + 3 < a ∨ a + 3 < b) (v : gV) (hb : v b 5 = 0 ∨ v b 5 = 1) :
    ∃ v', sX1_copyFrom 1000 v a b = some v' ∧ (∀ k, k < a ∨ a + 3 < k → v' k = v k) ∧ (∀ j, j < 8 → v' (a + 1) j = v (b + 1) j ∧ v' (a + 2) j = v (b + 2) j ∧ v' (a + 3) j = v (b + 3) j) ∧ v' a 3 = v b 3 ∧ v' a 4 = v b 4 ∧ v' a 5 = v b 5 ∧ v' a 6 = v b 6 ∧ v' a 7 = v b 7 := by
  have L : ∀ d i v n, i + d = 8 → (v b 5 = 0 ∨ v b 5 = 1) → (∀ j, j < i → v (a + 1) j = v (b + 1) j ∧ v (a + 2) j = v (b + 2) j ∧ v (a + 3) j = v (b + 3) j) → ∃ v', sX1_copyFrom_2 1000 a b (n + 1 + d) v (nI i) = some v' ∧ (∀ k, k < a ∨ a + 3 < k → v' k = v k) ∧ (∀ j, j < 8 → v' (a + 1) j = v (b + 1) j ∧ v' (a + 2) j = v (b + 2) j ∧ v' (a + 3) j = v (b + 3) j) ∧ v' a 3 = v b 3 ∧ v' a 4 = v b 4 ∧ v' a 5 = v b 5 ∧ v' a 6 = v b 6 ∧ v' a 7 = v b 7 := by
    intro d
    induction d with
    | zero =>
      intro i v n hi hb hj
      have : i = 8 := by omega
      subst this
      unfold sX1_copyFrom_2
      have hab : b ≠ a := by omega
      simp only [ob]
      rw [if_pos (show (8 : Int32) ≤ nI 8 by decide)]
      rw [if_pos (by rw [up_r _ _ _ _ hab, up_r _ _ _ _ hab]; exact bool_1 hb)]
      refine ⟨_, rfl, fun k q => ?_, fun j q => ?_, ?_, ?_, ?_, ?_, ?_⟩
      · have : k ≠ a := by omega
        simp only [up_r _ _ _ _ this]
      · have e1 : a + 1 ≠ a := by omega
        have e2 : a + 2 ≠ a := by omega
        have e3 : a + 3 ≠ a := by omega
        simp only [up_r _ _ _ _ e1, up_r _ _ _ _ e2, up_r _ _ _ _ e3]
        exact hj j q
      · simp [up, hab]
      · simp [up, hab]
      · simp [up, hab]
      · simp [up, hab]
      · simp [up, hab]
    | succ d ih =>
      intro i v n hi hb hj
      rw [show n + 1 + (d + 1) = (n + 1 + d) + 1 from rfl]
      unfold sX1_copyFrom_2
      simp only [ob]
      rw [if_neg (ge_8 (by omega))]
      have hin' : ¬ (nI i < 0 ∨ 8 ≤ i) := fun q => q.elim (nI_pos (by omega)) (by omega)
      simp only [nI_clamp (show i < 2 ^ 31 by omega), if_pos hin']
      have x1 : ∀ k, b ≤ k → k ≤ b + 3 → k ≠ a + 1 ∧ k ≠ a + 2 ∧ k ≠ a + 3 := by omega
      generalize hV : up (up (up v (a + 1) i (v (b + 1) i)) (a + 2) i (up v (a + 1) i (v (b + 1) i) (b + 2) i)) (a + 3) i (up (up v (a + 1) i (v (b + 1) i)) (a + 2) i (up v (a + 1) i (v (b + 1) i) (b + 2) i) (b + 3) i) = V
      have hVb : ∀ k, k ≠ a + 1 → k ≠ a + 2 → k ≠ a + 3 → V k = v k := by
        intro k q1 q2 q3
        rw [← hV, up_r _ _ _ _ q3, up_r _ _ _ _ q2, up_r _ _ _ _ q1]
      have hbb := hVb b (by omega) (by omega) (by omega)
      have hb1 := hVb (b + 1) (by omega) (by omega) (by omega)
      have hb2 := hVb (b + 2) (by omega) (by omega) (by omega)
      have hb3 := hVb (b + 3) (by omega) (by omega) (by omega)
      have c1 : ∀ j, V (a + 1) j = if j = i then v (b + 1) i else v (a + 1) j := by
        intro j
        rw [← hV, up_r _ _ _ _ (by omega : a + 1 ≠ a + 3), up_r _ _ _ _ (by omega : a + 1 ≠ a + 2)]
        by_cases e : j = i
        · rw [e, up_s, if_pos rfl]
        · rw [up_c _ _ _ _ e, if_neg e]
      have c2 : ∀ j, V (a + 2) j = if j = i then v (b + 2) i else v (a + 2) j := by
        intro j
        rw [← hV, up_r _ _ _ _ (by omega : a + 2 ≠ a + 3)]
        by_cases e : j = i
        · rw [e, up_s, if_pos rfl, up_r _ _ _ _ (by omega)]
        · rw [up_c _ _ _ _ e, if_neg e, up_r _ _ _ _ (by omega)]
      have c3 : ∀ j, V (a + 3) j = if j = i then v (b + 3) i else v (a + 3) j := by
        intro j
        rw [← hV]
        by_cases e : j = i
        · rw [e, up_s, if_pos rfl, up_r _ _ _ _ (by omega), up_r _ _ _ _ (by omega)]
        · rw [up_c _ _ _ _ e, if_neg e, up_r _ _ _ _ (by omega), up_r _ _ _ _ (by omega)]
      obtain ⟨v', g1, g2, g3, g4⟩ := ih (i + 1) V n (by omega) (by rw [hbb]; exact hb) (fun j q => by
        rw [c1, c2, c3, hb1, hb2, hb3]
        by_cases e : j = i
        · rw [if_pos e, if_pos e, if_pos e, e]; exact ⟨rfl, rfl, rfl⟩
        · rw [if_neg e, if_neg e, if_neg e]; exact hj j (by omega))
      rw [nI_1]
      rw [hbb] at g4
      rw [hb1, hb2, hb3] at g3
      exact ⟨v', g1, fun k q => (g2 k q).trans (hVb k (by omega) (by omega) (by omega)), g3, g4⟩
  obtain ⟨v', g⟩ := L 8 0 v 991 (by omega) hb (fun j q => by omega)
  exact ⟨v', g⟩
def Wm (v2 : gV) (m p : Nat) : Int32 := if m ≤ p then -1 else v2 88 p
theorem CmdR_copy {v v' : gV} {e e' vb L : Nat} {W : Nat → Int32} {P : Nat → Nat} (h : CmdR v e W P vb L) (h3 : v' e' 3 = v e 3) (h4 : v' e' 4 = v e 4) (h5 : v' e' 5 = v e 5) (h6 : v' e' 6 = v e 6) (ha : ∀ j, j < 8 → v' (e' + 1) j = v (e + 1) j ∧ v' (e' + 2) j = v (e + 2) j) : CmdR v' e' W P vb L := by
  obtain ⟨y1, y2, y3, y4, y5, y6⟩ := h
  refine ⟨y1, by rw [h3]; exact y2, y3, y4, by rw [h5]; exact y5, fun q => ?_⟩
  obtain ⟨z1, z2, z3, z4, z5, z6, z7⟩ := y6 q
  refine ⟨by rw [h6]; exact z1, by rw [h4]; exact z2, fun j q1 q2 => by rw [(ha j (by omega)).1, (ha j (by omega)).2]; exact z3 j q1 q2, fun q1 => ?_, z5, z6, z7⟩
  rw [h5, (ha 0 (by omega)).1, (ha 0 (by omega)).2]
  exact z4 q1
theorem m_cmd {v : gV} {m : Nat} (hm : m ≤ 28) (h10 : v 81 10 = nI m) : ∃ V, sX6_command 1000 v = (sX6_run 1000 V).bind (fun q_3 => some (q_3.1, q_3.2)) ∧ fr v V ∧ (∀ j, j < 55 → V 84 j = v 84 j) ∧ V 84 55 = 0 ∧ V 84 57 = 0 ∧ V 84 58 = nI m ∧ (∀ p, Wv (V 84) p = Wm v m p) ∧ ∀ j, 90 ≤ j → j < 122 → V 84 j = 0 := by
  obtain ⟨u, g1, g2, g3, g4⟩ := m_close (v := v)
  unfold sX6_command
  rw [g1, ob, ob]
  have L : ∀ d i V n, i + d = m → V 81 10 = nI m → V 88 = v 88 → ∃ V', sX6_command_17 1000 (n + 1 + d) V (nI i) = (sX6_run 1000 V').bind (fun q_3 => some (q_3.1, q_3.2)) ∧ (∀ k, k ≠ 84 → V' k = V k) ∧ (∀ j, j < 59 + i ∨ 59 + m ≤ j → V' 84 j = V 84 j) ∧ ∀ j, i ≤ j → j < m → V' 84 (59 + j) = v 88 j := by
    intro d
    induction d with
    | zero =>
      intro i V n hi h1 h2
      refine ⟨V, ?_, fun _ _ => rfl, fun _ _ => rfl, fun j q r => by omega⟩
      unfold sX6_command_17
      rw [h1, if_pos (nI_le (by omega) (by omega))]
    | succ d ih =>
      intro i V n hi h1 h2
      obtain ⟨V', i1, i2, i3, i4⟩ := ih (i + 1) (up V 84 (59 + i) (V 88 i)) n (by omega) (by rw [up_r _ _ _ _ (by decide)]; exact h1) (by rw [up_r _ _ _ _ (by decide)]; exact h2)
      refine ⟨V', ?_, fun k q => (i2 k q).trans (up_r _ _ _ _ q), fun j q => ?_, fun j q r => ?_⟩
      · rw [← Nat.add_assoc]
        unfold sX6_command_17
        rw [h1, if_neg (nI_ge (by omega) (by omega)), if_pos (nI_in (by omega) (by decide)), add_59, if_pos (nI_in (by omega) (by decide)), nI_clamp (by omega), nI_clamp (by omega), ob, nI_1]
        exact i1
      · rw [i3 j (by omega), s84, pk_un (by omega)]
      · by_cases e : j = i
        · rw [i3 (59 + j) (by omega), s84, e, pk_us, h2]
        · exact i4 j (by omega) r
  have hu10 : u 81 10 = nI m := by rw [g2 81 (by decide)]; exact h10
  obtain ⟨V, i1, i2, i3, i4⟩ := L m 0 (up u 84 58 (u 81 10)) (999 - m) (by omega) (by rw [s84_81]; exact hu10) (by rw [up_r _ _ _ _ (by decide), g2 88 (by decide)])
  rw [show 999 - m + 1 + m = 1000 by omega] at i1
  have e58 : V 84 58 = nI m := by rw [i3 58 (by omega), s84, pk_us, hu10]
  refine ⟨V, i1, ⟨fun k q r => (i2 k r).trans ((up_r _ _ _ _ r).trans (g2 k r)), fun j q => by rw [i2 81 (by decide), s84_81, g2 81 (by decide)]⟩, fun j q => ?_, ?_, ?_, e58, fun p => ?_, fun j q r => ?_⟩
  · rw [i3 j (by omega), s84, pk_un (by omega)]; exact g3 j (by omega)
  · rw [i3 55 (by omega), s84, pk_un (by omega)]; exact g4 55 (by omega) (by omega)
  · rw [i3 57 (by omega), s84, pk_un (by omega)]; exact g4 57 (by omega) (by omega)
  · unfold Wv Wm
    rw [e58]
    by_cases y : 60 ≤ p
    · rw [if_pos y, if_pos (by omega)]
    · rw [if_neg y]
      by_cases z : m ≤ p
      · rw [if_pos z, if_pos (nI_le z (by omega))]
      · rw [if_neg z, if_neg (nI_ge (by omega) (by omega))]
        exact i4 p (by omega) (by omega)
  · rw [i3 j (by omega), s84, pk_un (by omega)]; exact g4 j (by omega) r
theorem bind_eta {α β : Type} (o : Option (α × β)) : (o.bind fun q => some (q.1, q.2)) = o := by cases o <;> rfl
theorem b_cmd {v v2 : gV} {a vb L m : Nat} {P : Nat → Nat} (ha : 8 ≤ a) (hS : SR v a (v2 84)) (hm : m ≤ 28) (h10 : v2 81 10 = nI m) (hC : CmdR v 4 (Wm v2 m) P vb L) (hch : ∀ j, j < 8 → v 7 j = 0) :
    ∃ R v' v2', sX3_accept 1000 v a 4 = some (R, v') ∧ sX6_command 1000 v2 = some (R, v2') ∧ SR v' a (v2' 84) ∧ (∀ k, k < a ∨ a + 8 < k → v' k = v k) ∧ fr v2 v2' ∧ PO R (v2 84) (v2' 84) := by
  obtain ⟨c, ⟨y1, y2, y3, y4, y5, y6, y7, y8, y9⟩, _⟩ := hS
  have hvb := hC.1
  obtain ⟨V, g1, g2, g3, g4, g5, g6, g7, g8⟩ := m_cmd hm h10
  obtain ⟨u, i1, i2, i3, i4, i5, i6, i7, _⟩ := k_cpyC (a := a + 5) (b := 4) (by omega) v hC.2.2.2.2.1
  have hWv : Wv (V 84) = Wm v2 m := funext g7
  unfold sX3_accept sX1_isAnswer sX3_accept_66 sX3_closeQuestion
  rw [hC.2.1, if_neg (show ¬ nI vb = -1 from fun q => nI_pos (n := vb) (by omega) (by rw [q]; decide)), ob, if_pos rfl, i1]
  simp only [ob]
  generalize hU : up (up u a 8 (-1)) a 7 0 = U
  have hUa : ∀ j, j ≠ 7 → j ≠ 8 → U a j = v a j := by
    intro j q1 q2
    rw [← hU, up_c _ _ _ _ q1, up_c _ _ _ _ q2, i2 a (by omega)]
  have hUk : ∀ k, k ≠ a → U k = u k := by
    intro k q
    rw [← hU, up_r _ _ _ _ q, up_r _ _ _ _ q]
  have hCU : CmdR U (a + 5) (Wv (V 84)) P vb L := by
    rw [hWv]
    refine CmdR_copy hC ?_ ?_ ?_ ?_ (fun j q => ⟨?_, ?_⟩)
    · rw [hUk _ (by omega)]; exact i4
    · rw [hUk _ (by omega)]; exact i5
    · rw [hUk _ (by omega)]; exact i6
    · rw [hUk _ (by omega)]; exact i7
    · rw [hUk _ (by omega)]; exact (i3 j q).1
    · rw [hUk _ (by omega)]; exact (i3 j q).2.1
  obtain ⟨R, w, w2, j1, j2, j3, j4, j5, j6⟩ := b_run (v := U) (v2 := V) (a := a) (c := c) (vb := vb) (L := L) (m := m) (P := P) (CW_congr (CW_s y2 y1.1 (fun j q => g3 j (by omega))) (fun k q r => by rw [hUk k (by omega), i2 k (by omega)])) (OKs_congr y1 (fun j q => g3 j (by omega))) (by rw [hUa 2 (by decide) (by decide), g3 50 (by decide)]; exact y3) (by rw [hUa 3 (by decide) (by decide), g3 51 (by decide)]; exact y4) (by rw [hUa 4 (by decide) (by decide), g3 52 (by decide)]; exact y5) (by rw [hUa 5 (by decide) (by decide), g3 53 (by decide)]; exact y6) (by rw [hUa 6 (by decide) (by decide), g3 54 (by decide)]; exact y7) (by rw [← hU, up_s]) (by rw [← hU, up_c _ _ _ _ (by decide), up_s]) hm g6 hCU (fun hvb4 j q1 q2 => by
    left
    have hP := (hCU.2.2.2.2.2 hvb4).2.2.2.2.2.2 j q1
    have hL7 := hCU.2.2.2.1
    refine ⟨?_, g8 _ (by omega) (by omega)⟩
    rw [hUk _ (by omega), (i3 j (by omega)).2.2]
    exact hch j (by omega))
  rw [g1, j2, ob]
  exact ⟨R, w, w2, j1, rfl, j3, fun k q => by rw [j4 k (by omega), hUk k (by omega), i2 k (by omega)], fr_trans g2 j5, PO_s j6 g3⟩
