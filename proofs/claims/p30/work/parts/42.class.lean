/-! the class's sets as masks; sizes and lowest ones -/
theorem in_12 {i : Nat} (h : i < 12) : ¬ (nI i < 0 ∨ 12 ≤ (nI i).toNatClampNeg) := nI_in h (by decide)
theorem cl_12 {i : Nat} (h : i < 12) : (nI i).toNatClampNeg = i := nI_clamp (by omega)
theorem ge_12 {i : Nat} (h : i < 12) : ¬ (12 : Int32) ≤ nI i := nI_ge (b := 12) h (by decide)
theorem k_setAt {v : gV} {w c : Nat} {s : Nat → Int32} (h : CW v w s c) (hc : c ≤ 12) (p : Int32) : sX4_setAt 1000 v w p = some (mk c (inB s p)) := by
  have L : ∀ k i, i ≤ c → c - i < k → sX4_setAt_4 1000 w k v p (mk i (inB s p)) (nI i) = some (mk c (inB s p)) := by
    intro k
    induction k with
    | zero => intro i _ hz; omega
    | succ k ih =>
      intro i hi hz
      unfold sX4_setAt_4
      by_cases e : i = c
      · rw [if_pos (s_ge h.1 e hc), e]
      · rw [if_neg (s_le h.1 (by omega) hc), if_neg (ge_12 (by omega)), if_pos (in_12 (by omega)), cl_12 (by omega), nI_1, (h.2.2.2 i (by omega)).2.2]
        by_cases h1 : s (4 * i + 3) = p
        · rw [if_pos h1, mk_s1 (by simp [inB, h1])]; exact ih _ (by omega) (by omega)
        · rw [if_neg h1, mk_s0 (by simp [inB, h1])]; exact ih _ (by omega) (by omega)
  exact L 1000 0 (by omega) (by omega)
theorem k_fit {v : gV} {w c : Nat} {s : Nat → Int32} (h : CW v w s c) (hc : c ≤ 12) (a b : Int32) : sX4_fittingSet 1000 v w a b = some (mk c (fitB s a b)) := by
  have L : ∀ k i, i ≤ c → c - i < k → sX4_fittingSet_5 1000 w k v a b (mk i (fitB s a b)) (nI i) = some (mk c (fitB s a b)) := by
    intro k
    induction k with
    | zero => intro i _ hz; omega
    | succ k ih =>
      intro i hi hz
      unfold sX4_fittingSet_5 sX4_fittingSet_37
      by_cases e : i = c
      · rw [if_pos (s_ge h.1 e hc), e]
      · rw [if_neg (s_le h.1 (by omega) hc), if_neg (ge_12 (by omega)), if_pos (in_12 (by omega)), if_pos (in_12 (by omega)), cl_12 (by omega), nI_1, (h.2.2.2 i (by omega)).2.1, (h.2.2.2 i (by omega)).1]
        have i1 := ih (i + 1) (by omega) (by omega)
        by_cases h1 : a = -1
        · rw [if_pos h1]
          by_cases h2 : b = -1
          · rw [if_pos h2, mk_s1 (by simp [fitB, h1, h2])]; exact i1
          · rw [if_neg h2]
            by_cases h3 : s (4 * i + 2) = b
            · rw [if_pos h3, mk_s1 (by simp [fitB, h1, h3])]; exact i1
            · rw [if_neg h3, mk_s0 (by simp [fitB, h1, h2, h3])]; exact i1
        · rw [if_neg h1]
          by_cases h4 : s (4 * i + 1) = a
          · rw [if_pos h4]
            by_cases h2 : b = -1
            · rw [if_pos h2, mk_s1 (by simp [fitB, h4, h2])]; exact i1
            · rw [if_neg h2]
              by_cases h3 : s (4 * i + 2) = b
              · rw [if_pos h3, mk_s1 (by simp [fitB, h4, h3])]; exact i1
              · rw [if_neg h3, mk_s0 (by simp [fitB, h4, h2, h3])]; exact i1
          · rw [if_neg h4, mk_s0 (by simp [fitB, h1, h4])]; exact i1
  exact L 1000 0 (by omega) (by omega)
theorem nxB_0 (s : Nat → Int32) (k : Nat) : nxB s 0 k = nrB s (s (4 * k + 3)) := by simp [nxB]
theorem nx_t {s : Nat → Int32} {c i j p : Nat} (ep : s (4 * j + 3) = nI p) (hp : p < 5 ∨ (5 ≤ p ∧ p - 5 < c)) (hb : nrB s (s (4 * i + 3)) = true) (hd : opB s i = true) (hi : i ≤ 12) (hc : c ≤ 12) : (nxB s i j || inB s (nI (5 + i)) j) = nxB s (i + 1) j := by
  have hix : ixP s j = p - 5 := by unfold ixP; rw [ep, nI_clamp (by omega)]
  have e1 : decide (s (4 * j + 3) ≤ 4) = decide (p ≤ 4) := by
    rw [ep]
    exact decide_eq_decide.mpr (le_4 (p := p) (by omega))
  have e2 : decide (s (4 * j + 3) = nI (5 + i)) = decide (p = 5 + i) := by
    rw [ep]
    exact decide_eq_decide.mpr (nI_eq (a := p) (b := 5 + i) (by omega) (by omega))
  unfold nxB inB
  rw [hix, e1, e2]
  by_cases z : p = 5 + i
  · have e3 : p - 5 = i := by omega
    have e4 : decide (p ≤ 4) = false := by simp; omega
    have e5 : decide (i < i + 1) = true := by simp
    have e6 : decide (p = 5 + i) = true := by simp [z]
    rw [e3, e4, e5, e6, hb, hd]
    simp
  · have e6 : decide (p = 5 + i) = false := by simp [z]
    have e7 : (!decide (p ≤ 4) && decide (p - 5 < i)) = (!decide (p ≤ 4) && decide (p - 5 < i + 1)) := by
      by_cases z2 : p ≤ 4
      · simp [z2]
      · have e8 : decide (p - 5 < i) = decide (p - 5 < i + 1) := decide_eq_decide.mpr (by omega)
        rw [e8]
    rw [e6, e7, Bool.or_false]
theorem nx_f {s : Nat → Int32} {c i j p : Nat} (ep : s (4 * j + 3) = nI p) (hp : p < 5 ∨ (5 ≤ p ∧ p - 5 < c)) (q : (decide (i < c) && (nrB s (s (4 * i + 3)) && opB s i)) = false) (hc : c ≤ 12) : nxB s i j = nxB s (i + 1) j := by
  have hix : ixP s j = p - 5 := by unfold ixP; rw [ep, nI_clamp (by omega)]
  have e1 : decide (s (4 * j + 3) ≤ 4) = decide (p ≤ 4) := by
    rw [ep]
    exact decide_eq_decide.mpr (le_4 (p := p) (by omega))
  unfold nxB
  rw [hix, e1]
  by_cases z2 : p ≤ 4
  · have e4 : decide (p ≤ 4) = true := by simp [z2]
    rw [e4]
    simp
  · by_cases z : p - 5 = i
    · have e5 : decide (i < c) = true := by simp; omega
      rw [e5, Bool.true_and] at q
      have e6 : decide (i < i) = false := by simp
      have e7 : decide (i < i + 1) = true := by simp
      rw [z, e6, e7]
      cases hA : nrB s (s (4 * i + 3)) with
      | false => simp
      | true =>
        cases hB : opB s i with
        | false => simp
        | true => rw [hA, hB] at q; cases q
    · have e8 : decide (p - 5 < i) = decide (p - 5 < i + 1) := decide_eq_decide.mpr (by omega)
      rw [e8]
theorem k_vis {v : gV} {w c : Nat} {s : Nat → Int32} (h : CW v w s c) (ho : OKs s c) : sX4_visibleSet 1000 v w = some (mk c (visB s)) := by
  have hc := ho.1
  have hn : mk c (inB s (s 49)) ||| mk c (inB s 4) = mk c (nxB s 0) := by
    rw [mk_or (by omega)]
    refine mk_congr fun k _ => ?_
    rw [nxB_0]
    rfl
  have L : ∀ k i, i ≤ 12 → 12 - i < k → sX4_visibleSet_19 1000 w k v (mk c (nxB s 0)) (mk c (nxB s i)) (nI i) = some (mk c (visB s)) := by
    intro k
    induction k with
    | zero => intro i _ hz; omega
    | succ k ih =>
      intro i hi hz
      unfold sX4_visibleSet_19
      by_cases e : i = 12
      · rw [if_pos (show (12 : Int32) ≤ nI i by subst e; decide), e]; rfl
      · rw [if_neg (ge_12 (by omega)), h.2.2.1, mk_and (by omega), show ((1 : Int32) <<< (nI i &&& 31)) = pw i from rfl, add_5, k_setAt h hc, ob, nI_1]
        have i1 := ih (i + 1) (by omega) (by omega)
        by_cases q : mk c (fun k => nxB s 0 k && opB s k) &&& pw i = 0
        · rw [if_pos q]
          rw [and_pw (by omega), bt_mk (by omega), nxB_0] at q
          refine Eq.trans (congrArg (fun z => sX4_visibleSet_19 1000 w k v (mk c (nxB s 0)) z (nI (i + 1))) ?_) i1
          refine mk_congr fun j hj => ?_
          obtain ⟨_, _, ⟨p, hp, ep⟩, _⟩ := ho.2.2.2.1 j hj
          exact nx_f ep hp q hc
        · rw [if_neg q]
          rw [and_pw (by omega), bt_mk (by omega), nxB_0] at q
          rw [mk_or (by omega)]
          refine Eq.trans (congrArg (fun z => sX4_visibleSet_19 1000 w k v (mk c (nxB s 0)) z (nI (i + 1))) ?_) i1
          refine mk_congr fun j hj => ?_
          obtain ⟨_, _, ⟨p, hp, ep⟩, _⟩ := ho.2.2.2.1 j hj
          have hix : ixP s j = p - 5 := by unfold ixP; rw [ep, nI_clamp (by omega)]
          have hq : nrB s (s (4 * i + 3)) = true ∧ opB s i = true := by
            cases hA : nrB s (s (4 * i + 3)) <;> cases hB : opB s i <;> simp_all
          exact nx_t ep hp hq.1 hq.2 (by omega) hc
  unfold sX4_visibleSet
  rw [h.2.1, k_setAt h hc, ob, k_setAt h hc, ob, hn]
  exact L 1000 0 (by omega) (by omega)
theorem k_cnt {v : gV} {w c : Nat} {s : Nat → Int32} (h : CW v w s c) (hc : c ≤ 12) : sX4_containerSet 1000 v w = some (mk c (cntB s)) := by
  unfold sX4_containerSet
  rw [k_fit h hc, ob, k_fit h hc, ob, mk_or (by omega)]
  refine congrArg some (mk_congr fun k _ => ?_)
  simp [fitB, cntB, show (1 : Int32) ≠ -1 by decide, show (5 : Int32) ≠ -1 by decide]
theorem k_suit {v : gV} {w c : Nat} {s : Nat → Int32} (h : CW v w s c) (ho : OKs s c) {x : Nat} (hx : x < 5) : sX4_suitableSet 1000 v w (nI x) = some (mk c (suitB s x)) := by
  have hc := ho.1
  unfold sX4_suitableSet
  rw [k_setAt h hc, k_vis h ho, k_cnt h hc, h.2.2.1]
  simp only [ob]
  have hcases : x = 0 ∨ x = 1 ∨ x = 2 ∨ x = 3 ∨ x = 4 := by omega
  rcases hcases with e | e | e | e | e <;> subst e
  · rw [if_pos (by decide), mk_andn (by omega)]; rfl
  · rw [if_neg (by decide), if_pos (by decide)]; rfl
  · rw [if_neg (by decide), if_neg (by decide), if_pos (by decide), mk_andn (by omega)]; rfl
  · rw [if_neg (by decide), if_neg (by decide), if_neg (by decide), if_pos (by decide), mk_and (by omega), mk_andn (by omega)]; rfl
  · rw [if_neg (by decide), if_neg (by decide), if_neg (by decide), if_neg (by decide), if_pos (by decide), mk_and (by omega)]; rfl
theorem k_first {n : Nat} (hn : n ≤ 12) {P : Nat → Bool} {j : Nat} (hj : isLow n P j) : sX3_firstOf 1000 (mk n P) = some (nI j) := by
  have L : ∀ k i, i ≤ j → j - i < k → sX3_firstOf_2 1000 k (mk n P) (nI i) = some (nI j) := by
    intro k
    induction k with
    | zero => intro i _ hz; omega
    | succ k ih =>
      intro i hi hz
      have hj1 := hj.1
      unfold sX3_firstOf_2
      rw [if_neg (ge_12 (by omega)), show ((1 : Int32) <<< (nI i &&& 31)) = pw i from rfl, nI_1]
      by_cases e : i = j
      · rw [if_neg (fun q => by rw [mk_tst (by omega) (by omega), e, hj.2.1] at q; cases q), e]
      · rw [if_pos ((mk_tst (by omega) (by omega) P).mpr (hj.2.2 i (by omega)))]
        exact ih _ (by omega) (by omega)
  exact L 1000 0 (by omega) (by have := hj.1; omega)
theorem k_first0 : sX3_firstOf 1000 0 = some (-1) := by decide +kernel
theorem sh_tab : ∀ i, i < 13 → ((nI i &&& 31).toBitVec.smod 32).toNat = i := by decide +kernel
theorem shr1 {n i : Nat} (hn : n ≤ 12) (P : Nat → Bool) (hi : i < 13) : (mk n P >>> (nI i &&& 31)) &&& 1 = bI (decide (i < n) && P i) := by
  have h12 := mkN_12 hn P
  rw [mk_nI (by omega), pk_shrN (by omega) _ i (sh_tab i hi), pk_andN (Nat.lt_of_le_of_lt (Nat.div_le_self _ _) (by omega)) 1 (by decide)]
  have hb := mkN_bit (n := n) (by omega) P (k := i) (by omega)
  rw [Nat.testBit, Nat.shiftRight_eq_div_pow] at hb
  rw [← hb]
  have h2 : mkN n P / 2 ^ i % 2 = 0 ∨ mkN n P / 2 ^ i % 2 = 1 := by omega
  rcases h2 with e | e <;> simp [Nat.one_and_eq_mod_two, e, bI] <;> rfl
set_option maxRecDepth 100000 in
theorem size_tab : ∀ x, x < 4096 → sX6_size 1000 (nI x) = some (nI (popN x)) := fun x hx => co_dec (N := 4096) (P := fun x => sX6_size 1000 (nI x) = some (nI (popN x))) (by decide +kernel) hx
theorem m_size {n : Nat} (hn : n ≤ 12) (P : Nat → Bool) : sX6_size 1000 (mk n P) = some (nI (cn n P)) := by
  rw [mk_nI (by omega), size_tab _ (mkN_12 hn P), popN_mk hn]
theorem m_low {n : Nat} (hn : n ≤ 12) {P : Nat → Bool} {j : Nat} (hj : isLow n P j) : sX6_lowest 1000 (mk n P) = some (nI j) := by
  have L : ∀ k i, i ≤ j → j - i < k → sX6_lowest_2 1000 k (mk n P) (nI i) = some (nI j) := by
    intro k
    induction k with
    | zero => intro i _ hz; omega
    | succ k ih =>
      intro i hi hz
      have hj1 := hj.1
      unfold sX6_lowest_2
      rw [shr1 hn P (by omega), nI_1]
      by_cases e : i = j
      · rw [if_neg (fun q => by rw [bI_0, e, hj.2.1] at q; simp [hj1] at q), e]
      · rw [if_pos ((bI_0 _).mpr (by rw [hj.2.2 i (by omega)]; simp))]
        exact ih _ (by omega) (by omega)
  exact L 1000 0 (by omega) (by have := hj.1; omega)
theorem cn_one {n : Nat} (hn : n ≤ 12) {P : Nat → Bool} (h : cn n P = 1) : ∃ j, isLow n P j ∧ mk n P = pw j := by
  have hne : ¬ ∀ k, k < n → P k = false := by
    intro q
    rw [cn_0.mpr q] at h
    cases h
  obtain ⟨j, hj⟩ := low_ex hne
  refine ⟨j, hj, ?_⟩
  rw [← mk_single (by omega) hj.1]
  refine mk_congr fun k hk => ?_
  have := cn_1 h hj.1 hj.2.1 k hk
  by_cases e : k = j
  · subst e; simp [hj.2.1]
  · simp [e]
    cases hz : P k with
    | false => rfl
    | true => exact absurd (this.mp hz) e
