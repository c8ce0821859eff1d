/-! an answer taken, both sides -/
theorem m128_0 {n : Nat} {F : gV → Int32 → Int32 → Int32 → Int32 → Option (Int32 × gV)} {v : gV} {w2 w3 w4 w5 : Int32} : sX6_answer_128 n F v w2 w3 w4 w5 0 = F v w2 w3 w4 (w5 + 1) := by
  unfold sX6_answer_128
  rw [if_pos rfl, or_0]
theorem m128_1 {n : Nat} {F : gV → Int32 → Int32 → Int32 → Int32 → Option (Int32 × gV)} {v : gV} {w2 w3 w4 w5 : Int32} : sX6_answer_128 n F v w2 w3 w4 w5 1 = F v w2 w3 (w4 ||| ((1 : Int32) <<< (w5 &&& 31))) (w5 + 1) := by
  unfold sX6_answer_128
  rw [if_neg one_ne]
theorem m_ansL {v : gV} {c b : Nat} {X : Int32} {G : Nat → Bool} (ho : OKs (v 84) c) (h57 : v 84 57 = mk c G) (hb : b < 4) (hX : X = -1 ∨ ¬ X < 0) : ∀ d i n, i + d = c → sX6_answer_70 1000 (n + d) v (nI b) X (mk i (fun k => G k && fitB (v 84) X (nI b) k)) (nI i) = sX6_answer_70 1000 n v (nI b) X (mk c (fun k => G k && fitB (v 84) X (nI b) k)) (nI c) := by
  have hc := ho.1
  intro d
  induction d with
  | zero =>
    intro i n hi
    have : i = c := by omega
    subst this
    rfl
  | succ d ih =>
    intro i n hi
    rw [← ih (i + 1) n (by omega), ← Nat.add_assoc]
    conv => lhs; unfold sX6_answer_70
    rw [if_neg (s_le ho.2.1 (by omega) hc), m128_0, m128_1, nI_1, h57]
    by_cases z : G i = true
    · rw [if_pos ((m_tst1 hc (by omega) G).mpr z), of_1 (by omega), ob, of_0 (by omega), ob]
      by_cases z2 : v 84 (4 * i + 2) = nI b
      · rw [if_pos z2]
        by_cases z3 : X < 0
        · have hX1 : X = -1 := hX.resolve_right (fun q => q z3)
          rw [if_pos z3, mk_s1 (by simp [fitB, z, z2, hX1])]
        · have hX1 : X ≠ -1 := by intro q; rw [q] at z3; exact z3 (by decide)
          rw [if_neg z3]
          by_cases z4 : v 84 (4 * i + 1) = X
          · rw [if_pos z4, mk_s1 (by simp [fitB, z, z2, z4])]
          · rw [if_neg z4, mk_s0 (by simp [fitB, z4, hX1])]
      · have hb1 : nI b ≠ -1 := fun y => nI_pos (n := b) (by omega) (by rw [y]; decide)
        rw [if_neg z2, mk_s0 (by simp [fitB, z2, hb1])]
    · rw [if_neg (fun q => z ((m_tst1 hc (by omega) G).mp q)), mk_s0 (by simp at z; simp [z])]
theorem m_answer {v : gV} {m a0 b : Nat} {X : Int32} (hm : m ≤ 28) (h10 : v 81 10 = nI m) (ha : (v 88 0 = 21 ∧ a0 = 1) ∨ (v 88 0 ≠ 21 ∧ a0 = 0)) (hb : b < 4) (hw : v 88 a0 = nI (b + 6)) (hX : (X = -1 ∧ (m ≤ a0 + 1 ∨ 6 ≤ v 88 (a0 + 1))) ∨ (∃ x, x < 6 ∧ a0 + 1 < m ∧ X = nI x ∧ v 88 (a0 + 1) = nI x)) : sX6_answer 1000 v = sX6_answer_70 1000 1000 v (nI b) X 0 0 := by
  have e1 : sX6_answer 1000 v = sX6_answer_16 1000 v (nI a0) := by
    unfold sX6_answer
    rcases ha with ⟨q1, q2⟩ | ⟨q1, q2⟩
    · rw [if_pos q1, q2]; rfl
    · rw [if_neg q1, q2]; rfl
  have hlt : a0 < 2 := by omega
  rw [e1]
  unfold sX6_answer_16 sX6_isNoun
  rw [if_pos (nI_in (by omega) (by decide)), nI_clamp (by omega), hw, nI_1, show nI (b + 6) - 6 = nI b from pk_sub (a := b + 6) (b := 6) (by omega), h10, nI_clamp (by omega)]
  have hin : ¬ (nI (a0 + 1) < 0 ∨ 31 ≤ a0 + 1) := fun q => q.elim (nI_pos (by omega)) (by omega)
  rw [if_pos hin, if_pos hin]
  rcases hX with ⟨q1, q2⟩ | ⟨x, hx, q1, q2, q3⟩
  · rw [q1]
    by_cases z : m ≤ a0 + 1
    · rw [if_pos (nI_le z (by omega))]
    · rw [if_neg (nI_ge (by omega) (by omega)), if_pos (q2.resolve_left z), ob, if_pos rfl]
  · rw [if_neg (nI_ge q1 (by omega)), q3, if_neg (show ¬ (6 : Int32) ≤ nI x from nI_ge (b := 6) hx (by decide)), ob, if_neg one_ne, q2]
theorem P_ne {v : gV} {e vb L i j : Nat} {W : Nat → Int32} {P : Nat → Nat} (hC : CmdR v e W P vb L) (hvb : vb ≤ 4) (hi : i ≤ L) (hi0 : i = 0 → vb = 2) (hj : j ≤ L) (hj0 : j = 0 → vb = 2) (hne : i ≠ j) : P i ≠ P j := by
  obtain ⟨_, _, _, _, z5, z6, _⟩ := hC.2.2.2.2.2 hvb
  by_cases e1 : i = 0
  · subst e1
    have := z6 (hi0 rfl) j (by omega) hj
    omega
  · by_cases e2 : j = 0
    · subst e2
      have := z6 (hj0 rfl) i (by omega) hi
      omega
    · rcases Nat.lt_or_ge i j with q | q
      · have := z5 i j (by omega) q hj
        omega
      · have := z5 j i (by omega) (by omega) hi
        omega
theorem b_ans {v v2 : gV} {a m a0 b : Nat} {X : Int32} (ha8 : 8 ≤ a) (hS : SR v a (v2 84)) (h55 : v2 84 55 = 1) (hv3 : v 4 3 = -1) (hm : m ≤ 28) (h10 : v2 81 10 = nI m) (ha : (v2 88 0 = 21 ∧ a0 = 1) ∨ (v2 88 0 ≠ 21 ∧ a0 = 0)) (hb : b < 4) (hw : v2 88 a0 = nI (b + 6)) (h6 : v 6 0 = nI b) (h5 : v 5 0 = X) (hX : (X = -1 ∧ (m ≤ a0 + 1 ∨ 6 ≤ v2 88 (a0 + 1))) ∨ (∃ x, x < 6 ∧ a0 + 1 < m ∧ X = nI x ∧ v2 88 (a0 + 1) = nI x)) :
    ∃ R v' v2', sX3_accept 1000 v a 4 = some (R, v') ∧ sX6_answer 1000 v2 = some (R, v2') ∧ SR v' a (v2' 84) ∧ (∀ k, k < a ∨ a + 8 < k → v' k = v k) ∧ fr v2 v2' ∧ ((R = -5 ∧ v2' = v2 ∧ ∀ c, OKs (v2 84) c → cn c (fun k => bt (v2 84 57) k && fitB (v2 84) X (nI b) k) ≠ 1) ∨ (PO R (v2 84) (v2' 84) ∧ ∀ c, OKs (v2 84) c → cn c (fun k => bt (v2 84 57) k && fitB (v2 84) X (nI b) k) = 1)) := by
  have hS' := hS
  obtain ⟨c, ⟨y1, y2, y3, y4, y5, y6, y7, y8, y9⟩, hq⟩ := hS
  have hc := y1.1
  rcases hq with ⟨q, _⟩ | ⟨_, m', P, vb, L, j, hm', h58, hC, hvb, hA, hj, hj0, h8, h56, h57, hG⟩
  · rw [q] at h55; exact absurd h55 (by decide)
  have hXn : X = -1 ∨ ¬ X < 0 := by
    rcases hX with ⟨q, _⟩ | ⟨x, hx, _, q, _⟩
    · exact Or.inl q
    · right; rw [q]; exact nI_pos (by omega)
  rw [m_answer hm h10 ha hb hw hX]
  have hl := m_ansL (v := v2) (X := X) (b := b) y1 h57 hb hXn c 0 (1000 - c) (by omega)
  rw [show 1000 - c + c = (999 - c) + 1 + c by omega, show 1000 - c = (999 - c) + 1 by omega] at hl
  have hl' : sX6_answer_70 1000 1000 v2 (nI b) X 0 0 = sX6_answer_70 1000 ((999 - c) + 1) v2 (nI b) X (mk c (fun k => GG v (a + 5) (v2 84) vb j k && fitB (v2 84) X (nI b) k)) (nI c) := by
    rw [← hl, show 999 - c + 1 + c = 1000 by omega]
    rfl
  rw [hl']
  unfold sX3_accept sX1_isAnswer sX6_answer_70
  rw [hv3, if_pos rfl, ob, if_neg one_ne, h5, h6, k_fit y2 hc, ob, y8, h57, mk_and (by omega), bitC hc, ob, if_pos (s_ge y1.2.1 rfl hc), m_size hc, ob]
  generalize hM : (fun k => GG v (a + 5) (v2 84) vb j k && fitB (v2 84) X (nI b) k) = M
  have hcl := cn_le c M
  have hcu : ∀ c', OKs (v2 84) c' → cn c' (fun k => bt (v2 84 57) k && fitB (v2 84) X (nI b) k) = cn c M := by
    intro c' hc'
    have e9 := hc'.2.1.symm.trans y1.2.1
    have h12 := hc'.1
    have e8 : c' = c := (nI_eq (by omega) (by omega)).mp e9
    rw [e8, ← hM]
    refine cn_congr fun k hk => ?_
    rw [h57, bt_mk (by omega)]
    simp [hk]
  by_cases z : cn c M = 1
  · obtain ⟨k, hk, hkp⟩ := cn_one hc z
    have hMk : GG v (a + 5) (v2 84) vb j k = true := by
      have := hk.2.1
      rw [← hM] at this
      simp at this
      exact this.1
    have e1 : nI (cn c M) = 1 := by rw [z]; rfl
    have hL7 := hC.2.2.2.1
    have hP := (hC.2.2.2.2.2 hvb).2.2.2.2.2.2
    have hPj := hP j hj
    have hin90 : ¬ (90 + nI (P j) < 0 ∨ 122 ≤ (90 + nI (P j)).toNatClampNeg) := by rw [add_90]; exact nI_in (by omega) (by decide)
    rw [if_pos e1, if_pos e1, m_low hc hk, ob, h56, if_pos hin90, add_90, nI_clamp (by omega), nI_1, hkp]
    unfold sX1_choose sX1_hasSlot sX3_accept_66 sX3_closeQuestion
    rw [h8, if_neg (nI_pos (by omega)), if_neg (ge_8 (by omega)), ob, if_neg one_ne, if_pos (in_8 (by omega)), nI_clamp (by omega)]
    simp only [ob]
    generalize hU : up (up (up v (a + 5 + 3) j (pw k)) a 8 (-1)) a 7 0 = U
    generalize hV : up (up (up v2 84 (90 + P j) (nI (k + 1))) 84 57 0) 84 55 0 = V
    have hVs : V 84 = upd (upd (upd (v2 84) (90 + P j) (nI (k + 1))) 57 0) 55 0 := by rw [← hV, s84, s84, s84]
    have hVe : ∀ i, i ≠ 90 + P j → i ≠ 57 → i ≠ 55 → V 84 i = v2 84 i := by
      intro i q1 q2 q3
      rw [hVs, pk_un q3, pk_un q2, pk_un q1]
    have hVk : ∀ i, i ≠ 84 → V i = v2 i := by
      intro i q
      rw [← hV, up_r _ _ _ _ q, up_r _ _ _ _ q, up_r _ _ _ _ q]
    have hUa : ∀ i, i ≠ 7 → i ≠ 8 → U a i = v a i := by
      intro i q1 q2
      rw [← hU, up_c _ _ _ _ q1, up_c _ _ _ _ q2, up_r _ _ _ _ (by omega)]
    have hUk : ∀ i, i ≠ a → i ≠ a + 8 → U i = v i := by
      intro i q1 q2
      rw [← hU, up_r _ _ _ _ q1, up_r _ _ _ _ q1, up_r _ _ _ _ q2]
    have hU8 : ∀ i, U (a + 5 + 3) i = if i = j then pw k else v (a + 5 + 3) i := by
      intro i
      rw [← hU, up_r _ _ _ _ (by omega), up_r _ _ _ _ (by omega)]
      by_cases e : i = j
      · rw [e, up_s, if_pos rfl]
      · rw [up_c _ _ _ _ e, if_neg e]
    have hWv : Wv (V 84) = Wv (v2 84) := Wv_congr hm' h58 (fun i q1 q2 => hVe i (by omega) (by omega) (by omega))
    have hGG : ∀ i k, k < 12 → GG U (a + 5) (V 84) vb i k = GG v (a + 5) (v2 84) vb i k := fun i k hk => GG_congr (hUk _ (by omega) (by omega)) (hUk _ (by omega) (by omega)) (fun i q => hVe i (by omega) (by omega) (by omega)) hk
    obtain ⟨R, w, w2, j1, j2, j3, j4, j5, j6⟩ := b_run (v := U) (v2 := V) (a := a) (c := c) (vb := vb) (L := L) (m := m') (P := P) (CW_congr (CW_s y2 hc (fun i q => hVe i (by omega) (by omega) (by omega))) (fun i q r => hUk i (by omega) (by omega))) (OKs_congr y1 (fun i q => hVe i (by omega) (by omega) (by omega))) (by rw [hUa 2 (by decide) (by decide), hVe 50 (by omega) (by decide) (by decide)]; exact y3) (by rw [hUa 3 (by decide) (by decide), hVe 51 (by omega) (by decide) (by decide)]; exact y4) (by rw [hUa 4 (by decide) (by decide), hVe 52 (by omega) (by decide) (by decide)]; exact y5) (by rw [hUa 5 (by decide) (by decide), hVe 53 (by omega) (by decide) (by decide)]; exact y6) (by rw [hUa 6 (by decide) (by decide), hVe 54 (by omega) (by decide) (by decide)]; exact y7) (by rw [← hU, up_s]) (by rw [← hU, up_c _ _ _ _ (by decide), up_s]) hm' (by rw [hVe 58 (by omega) (by decide) (by decide)]; exact h58) (by rw [hWv]; exact CmdR_congr hC (hUk _ (by omega) (by omega)) (hUk _ (by omega) (by omega)) (hUk _ (by omega) (by omega))) (fun _ i q1 q2 => by
      by_cases e : i = j
      · right
        refine ⟨k, hk.1, ?_, ?_, ?_, ?_⟩
        · rw [hU8, if_pos e]
        · rw [e, hVs, pk_un (by omega), pk_un (by omega), pk_us]
        · rw [e, cn_congr' hc (hGG j)]; exact hG
        · rw [e, hGG j k (by have := hk.1; omega)]; exact hMk
      · have hne := P_ne hC hvb q1 q2 hj hj0 e
        have hPi := hP i q1
        have := hA i q1 q2
        unfold AnsR at this ⊢
        rw [hU8, if_neg e, hVe (90 + P i) (by omega) (by omega) (by omega), cn_congr' hc (hGG i)]
        rcases this with q | ⟨k', r1, r2, r3, r4, r5⟩
        · exact Or.inl q
        · exact Or.inr ⟨k', r1, r2, r3, r4, by rw [hGG i k' (by omega)]; exact r5⟩)
    rw [j2, ob]
    exact ⟨R, w, w2, j1, rfl, j3, fun i q => by rw [j4 i (by omega), hUk i (by omega) (by omega)], fr_trans ⟨fun i q r => hVk i r, fun i q => by rw [hVk 81 (by decide)]⟩ j5, Or.inr ⟨PO_s j6 (fun i q => hVe i (by omega) (by omega) (by omega)), fun c' hc' => by rw [← h57, hcu c' hc']; exact z⟩⟩
  · have e1 : ¬ nI (cn c M) = 1 := fun q => z ((nI_eq (b := 1) (by omega) (by decide)).mp q)
    rw [if_neg e1, if_neg e1]
    exact ⟨_, _, _, rfl, rfl, hS', fun _ _ => rfl, fr_refl _, Or.inl ⟨rfl, rfl, fun c' hc' => by rw [← h57, hcu c' hc']; exact z⟩⟩
