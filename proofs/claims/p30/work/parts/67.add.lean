/-! addObject on both sides -/
theorem m_inN {x : Int32} {n : Nat} (hn : n < 2 ^ 31 - 1) : (sX6_in x 0 (nI n) = some 0 ∧ (x < 0 ∨ nI (n + 1) ≤ x)) ∨ ∃ k, k ≤ n ∧ x = nI k ∧ sX6_in x 0 (nI n) = some 1 := by
  rcases pk_ix x (n := n + 1) (by omega) with q | q | ⟨k, hk, e⟩
  · exact Or.inl ⟨in_no (Or.inl q), Or.inl q⟩
  · exact Or.inl ⟨in_no (Or.inr (lt_of_le hn q)), Or.inr q⟩
  · exact Or.inr ⟨k, by omega, e, by rw [e]; exact in_yes (nI_pos (by omega)) (nI_nlt (by omega) (by omega))⟩
/-- the place of a new object: not there, in the open, or in a container -/
theorem e_place {v w : gV} {c : Nat} (h : CW v 9 (w 84) c) (ho : OKs (w 84) c) (x1 x2 x3 : Int32) (W : gV) (hW : up w 81 8 0 = W) :
    (sX4_hasPlace v 9 x3 = some 0 ∧ ∃ b, sX6_addObject 1000 w x1 x2 x3 = sX6_addObject_49 1000 W x1 x2 x3 b 0) ∨ (∃ p, p < 5 ∧ x3 = nI p ∧ sX4_hasPlace v 9 x3 = some 1 ∧ sX6_addObject 1000 w x1 x2 x3 = sX6_addObject_49 1000 W x1 x2 x3 0 1) ∨ ∃ k, k < c ∧ x3 = nI (5 + k) ∧ sX4_hasPlace v 9 x3 = some 1 ∧ sX6_addObject 1000 w x1 x2 x3 = sX6_addObject_49 1000 W x1 x2 x3 1 1 ∧ cntB (w 84) k = true := by
  have hc := ho.1
  have e84 : W 84 = w 84 := by rw [← hW]; exact u84 _ _ _
  have e0 : (4 : Int32) + nI c = nI (4 + c) := nI_add 4 c
  have i5 : ∀ y : Int32, y = nI 5 → True := fun _ _ => trivial
  unfold sX6_addObject
  rw [ob, hW, e84, ho.2.1, e0]
  rcases pk_ix x3 (n := 5) (by decide) with q | q | ⟨p, hp, e⟩
  · left
    have n5 : ¬ (5 : Int32) ≤ x3 := Int32.not_le.mpr (Int32.lt_trans q (by decide))
    have l5 : x3 < 5 := Int32.lt_trans q (by decide)
    rw [in_no (Or.inl l5), ob, in_no (Or.inl q), ob, if_pos rfl, if_pos rfl]
    refine ⟨?_, _, rfl⟩
    unfold sX4_hasPlace sX5_isRoom
    rw [if_neg n5, if_pos q, ob, if_pos rfl, if_neg (fun z => by rw [z] at q; exact absurd q (by decide))]
  · have q5 : (5 : Int32) ≤ x3 := q
    have h0 : ¬ x3 < 0 := fun z => absurd (Int32.lt_of_le_of_lt q5 z) (by decide)
    obtain ⟨j, hj, e⟩ := nI_of h0
    have hj5 : 5 ≤ j := (nI_leI (a := 5) (by decide) hj).mp (e ▸ q5)
    have e4 : sX6_in x3 0 4 = some 0 := in_no (Or.inr (show (4 : Int32) < x3 from lt_of_le (n := 4) (by decide) q))
    have es : x3 - 5 = nI (j - 5) := by rw [e]; exact sub_5 hj5
    by_cases z : j < 5 + c
    · have e5 : sX6_in x3 5 (nI (4 + c)) = some 1 := by
        rw [e]
        exact in_yes (nI_nlt (b := 5) hj5 (by omega)) (nI_nlt (by omega) (by omega))
      rw [e5, ob, e4, ob, if_pos rfl, if_neg one_ne, es, m_cnt (v := W) (k := j - 5) (by omega), ob, e84]
      have hP : sX4_hasPlace v 9 x3 = some (bI (cntB (w 84) (j - 5))) := by
        unfold sX4_hasPlace sX5_isContainerNoun cntB
        rw [if_pos q5, es, k_exists h hc (by omega), ob, if_neg one_ne, if_pos (in_12 (by omega)), cl_12 (by omega), (h.2.2.2 (j - 5) (by omega)).1]
        by_cases y1 : w 84 (4 * (j - 5) + 1) = 1
        · rw [if_pos y1, ob, if_neg one_ne]; simp [y1, bI]
        · rw [if_neg y1]
          by_cases y2 : w 84 (4 * (j - 5) + 1) = 5
          · rw [if_pos y2, ob, if_neg one_ne]; simp [y2, bI]
          · rw [if_neg y2, ob, if_pos rfl]; simp [y1, y2, bI]
      cases hq : cntB (w 84) (j - 5) with
      | false =>
        left
        rw [hP, hq, if_pos bIf_eq]
        exact ⟨rfl, _, rfl⟩
      | true =>
        right; right
        rw [hP, hq, if_neg bIt_ne]
        exact ⟨j - 5, by omega, by rw [e]; congr 1; omega, rfl, rfl, hq⟩
    · left
      have e5 : sX6_in x3 5 (nI (4 + c)) = some 0 := by
        rw [e]
        exact in_no (Or.inr (nI_lt (by omega) hj))
      rw [e5, ob, e4, ob, if_pos rfl, if_pos rfl]
      refine ⟨?_, _, rfl⟩
      unfold sX4_hasPlace sX4_exists
      rw [if_pos q5, es, h.1, if_neg (nI_pos (by omega)), if_pos (nI_le (by omega) (by omega)), ob, if_pos rfl]
  · right; left
    refine ⟨p, hp, e, ?_, ?_⟩
    · unfold sX4_hasPlace sX5_isRoom
      rw [e, if_neg (show ¬ (5 : Int32) ≤ nI p from nI_ge (b := 5) hp (by decide)), if_neg (nI_pos (by omega))]
      by_cases y : p < 4
      · rw [if_neg (show ¬ (4 : Int32) ≤ nI p from nI_ge (b := 4) y (by decide)), ob, if_neg one_ne]
      · rw [if_pos (show (4 : Int32) ≤ nI p from nI_le (a := 4) (by omega) (by omega)), ob, if_pos rfl, if_pos (show nI p = 4 by rw [show p = 4 by omega]; rfl)]
    · rw [in_no (Or.inl (show x3 < 5 by rw [e]; exact nI_lt (b := 5) hp (by decide))), ob, in_yes (by rw [e]; exact nI_pos (by omega)) (by rw [e]; exact nI_nlt (a := 4) (by omega) (by decide)), ob, if_neg one_ne]
/-- the last step of both: the object is there -/
def adW (w : gV) (c : Nat) (x1 x2 x3 : Int32) : gV := up (up (up (up (up w 84 (4 * c + 1) x1) 84 (4 * c + 2) x2) 84 (4 * c + 3) x3) 84 (4 * c + 4) 0) 84 0 (nI (c + 1))
def adV (v : gV) (c : Nat) (x1 x2 x3 : Int32) : gV := up (up (up (up v 10 c x1) 11 c x2) 12 c x3) 9 3 (nI (c + 1))
theorem k_addO {v : gV} {c : Nat} (hc : c < 12) (h : v 9 3 = nI c) (x1 x2 x3 : Int32) : sX4_add v 9 x1 x2 x3 = some (nI c, adV v c x1 x2 x3) := by
  unfold sX4_add adV
  rw [h, if_neg (nI_pos (by omega)), if_neg (ge_12 hc), if_pos (in_12 hc)]
  simp only [cl_12 hc, ob]
  have hin : ¬ (nI c < 0 ∨ 12 ≤ c) := fun q => q.elim (nI_pos (by omega)) (by omega)
  rw [if_pos hin, if_pos hin]
  simp only [up_r _ _ _ _ (by decide : (9 : Nat) ≠ 9 + 1), up_r _ _ _ _ (by decide : (9 : Nat) ≠ 9 + 2), up_r _ _ _ _ (by decide : (9 : Nat) ≠ 9 + 3), h, nI_1]
theorem ix_of {c j : Nat} {x : Int32} (hx : x = nI j) (hc : c < 12) (hj : j < 4) : ¬ (((1 + (4 * nI c)) + x) < 0 ∨ 122 ≤ ((1 + (4 * nI c)) + x).toNatClampNeg) ∧ ((1 + (4 * nI c)) + x).toNatClampNeg = 4 * c + 1 + j := by
  subst hx
  exact of_tab c hc j hj
theorem m_addO {w : gV} {c : Nat} (hc : c < 12) (h0 : w 84 0 = nI c) (x1 x2 x3 : Int32) : (if ¬ (((1 + (4 * (w 84 0))) + 0) < 0 ∨ 122 ≤ ((1 + (4 * (w 84 0))) + 0).toNatClampNeg) then (some (up w 84 ((1 + (4 * (w 84 0))) + 0).toNatClampNeg x1)).bind fun v_11 => if ¬ (((1 + (4 * (w 84 0))) + 1) < 0 ∨ 122 ≤ ((1 + (4 * (w 84 0))) + 1).toNatClampNeg) then (some (up v_11 84 ((1 + (4 * (w 84 0))) + 1).toNatClampNeg x2)).bind fun v_12 => if ¬ (((1 + (4 * (w 84 0))) + 2) < 0 ∨ 122 ≤ ((1 + (4 * (w 84 0))) + 2).toNatClampNeg) then (some (up v_12 84 ((1 + (4 * (w 84 0))) + 2).toNatClampNeg x3)).bind fun v_13 => if ¬ (((1 + (4 * (w 84 0))) + 3) < 0 ∨ 122 ≤ ((1 + (4 * (w 84 0))) + 3).toNatClampNeg) then (some (up v_13 84 ((1 + (4 * (w 84 0))) + 3).toNatClampNeg 0)).bind fun v_14 => (some (up v_14 84 0 ((v_14 84 0) + 1))).bind fun v_15 => some ((v_15 84 0) - 1, v_15) else none else none else none else none : Option (Int32 × gV)) = some (nI c, adW w c x1 x2 x3) := by
  have i0 := ix_of (c := c) (j := 0) (x := 0) rfl hc (by decide)
  have i1 := ix_of (c := c) (j := 1) (x := 1) rfl hc (by decide)
  have i2 := ix_of (c := c) (j := 2) (x := 2) rfl hc (by decide)
  have i3 := ix_of (c := c) (j := 3) (x := 3) rfl hc (by decide)
  rw [h0, if_pos i0.1, i0.2, ob, if_pos i1.1, i1.2, ob, if_pos i2.1, i2.2, ob, if_pos i3.1, i3.2, ob, ob]
  have e : up (up (up (up w 84 (4 * c + 1 + 0) x1) 84 (4 * c + 1 + 1) x2) 84 (4 * c + 1 + 2) x3) 84 (4 * c + 1 + 3) 0 84 0 = nI c := by
    rw [up_c _ _ _ _ (by omega), up_c _ _ _ _ (by omega), up_c _ _ _ _ (by omega), up_c _ _ _ _ (by omega), h0]
  rw [e, nI_1, up_s, nI_pred]
  rfl
theorem adW_k (w : gV) (c : Nat) (x1 x2 x3 : Int32) {k : Nat} (h : k ≠ 84) : adW w c x1 x2 x3 k = w k := by
  unfold adW
  simp only [up_r _ _ _ _ h]
theorem adV_k (v : gV) (c : Nat) (x1 x2 x3 : Int32) {k : Nat} (h : k < 9 ∨ 12 < k) : adV v c x1 x2 x3 k = v k := by
  unfold adV
  rw [up_r _ _ _ _ (by omega), up_r _ _ _ _ (by omega), up_r _ _ _ _ (by omega), up_r _ _ _ _ (by omega)]
theorem adW_j (w : gV) {c : Nat} (x1 x2 x3 : Int32) {j : Nat} (h0 : j ≠ 0) (h : j < 4 * c + 1 ∨ 4 * c + 4 < j) : adW w c x1 x2 x3 84 j = w 84 j := by
  unfold adW
  rw [up_c _ _ _ _ h0, up_c _ _ _ _ (by omega), up_c _ _ _ _ (by omega), up_c _ _ _ _ (by omega), up_c _ _ _ _ (by omega)]
theorem SR_add {v w : gV} {c a b p : Nat} (hc : c < 12) (ho : OKs (w 84) c) (h : CW v 9 (w 84) c) (ha : a < 6) (hb : b < 4) (hp : p < 5 ∨ (5 ≤ p ∧ p - 5 < c)) (hcap : p < 4 ∨ cn c (inB (w 84) (nI p)) < (if p = 4 then 6 else 4)) (hXp : 5 ≤ p → cntB (w 84) (p - 5) = true ∧ a ≠ 1 ∧ a ≠ 5) (hXu : ∀ k, k < c → ¬ (w 84 (4 * k + 1) = nI a ∧ w 84 (4 * k + 2) = nI b)) : OKs (adW w c (nI a) (nI b) (nI p) 84) (c + 1) ∧ CW (adV v c (nI a) (nI b) (nI p)) 9 (adW w c (nI a) (nI b) (nI p) 84) (c + 1) := by
  obtain ⟨z1, z2, z3, z4, z5, z6, z7, z8⟩ := ho
  generalize hs : adW w c (nI a) (nI b) (nI p) 84 = s
  have ej : ∀ j, j ≠ 0 → (j < 4 * c + 1 ∨ 4 * c + 4 < j) → s j = w 84 j := fun j q1 q2 => by rw [← hs]; exact adW_j w _ _ _ q1 q2
  have e0 : s 0 = nI (c + 1) := by rw [← hs]; unfold adW; rw [up_s]
  have e1 : s (4 * c + 1) = nI a := by rw [← hs]; unfold adW; rw [up_c _ _ _ _ (by omega), up_c _ _ _ _ (by omega), up_c _ _ _ _ (by omega), up_c _ _ _ _ (by omega), up_s]
  have e2 : s (4 * c + 2) = nI b := by rw [← hs]; unfold adW; rw [up_c _ _ _ _ (by omega), up_c _ _ _ _ (by omega), up_c _ _ _ _ (by omega), up_s]
  have e3 : s (4 * c + 3) = nI p := by rw [← hs]; unfold adW; rw [up_c _ _ _ _ (by omega), up_c _ _ _ _ (by omega), up_s]
  have e4 : s (4 * c + 4) = 0 := by rw [← hs]; unfold adW; rw [up_c _ _ _ _ (by omega), up_s]
  have op : ∀ k, k < c → opB s k = opB (w 84) k := fun k hk => by unfold opB; rw [ej _ (by omega) (by omega)]
  have hcc : cntB s c = true → a = 1 ∨ a = 5 := by
    intro q
    unfold cntB at q
    rw [e1, Bool.or_eq_true, decide_eq_true_iff, decide_eq_true_iff] at q
    rcases q with q | q
    · exact Or.inl ((nI_eq (b := 1) (by omega) (by decide)).mp q)
    · exact Or.inr ((nI_eq (b := 5) (by omega) (by decide)).mp q)
  have hck : ∀ k, k < c → cntB s k = cntB (w 84) k := fun k hk => cnt_cong (ej _ (by omega) (by omega))
  have hXO : XO s (c + 1) := by
    obtain ⟨x1, x2, x3⟩ := z7
    refine ⟨fun k hk q q5 q17 hq => ?_, fun i j hi hj q1 q2 => ?_, fun k hk q => ?_⟩
    · by_cases e : k = c
      · subst e
        rw [e3] at hq
        have eq : p = q := (nI_eq (by omega) (by omega)).mp hq
        subst eq
        obtain ⟨y1, y2, y3⟩ := hXp q5
        rw [hck _ (by omega)]
        refine ⟨y1, ?_⟩
        cases hz : cntB s k with
        | false => rfl
        | true => rcases hcc hz with y | y; exact absurd y y2; exact absurd y y3
      · rw [ej _ (by omega) (by omega)] at hq
        have hlt := OK_in z4 z1 k (by omega) q q5 q17 hq
        rw [hck _ hlt, hck k (by omega)]
        exact x1 k (by omega) q q5 q17 hq
    · by_cases ei : i = c
      · by_cases ej2 : j = c
        · rw [ei, ej2]
        · exfalso
          rw [ei, e1, ej _ (by omega) (by omega)] at q1
          rw [ei, e2, ej _ (by omega) (by omega)] at q2
          exact hXu j (by omega) ⟨q1.symm, q2.symm⟩
      · by_cases ej2 : j = c
        · exfalso
          rw [ej2, e1, ej _ (by omega) (by omega)] at q1
          rw [ej2, e2, ej _ (by omega) (by omega)] at q2
          exact hXu i (by omega) ⟨q1, q2⟩
        · rw [ej _ (by omega) (by omega), ej _ (by omega) (by omega)] at q1
          rw [ej _ (by omega) (by omega), ej _ (by omega) (by omega)] at q2
          exact x2 i j (by omega) (by omega) q1 q2
    · by_cases e : k = c
      · rw [e, e4] at q; exact absurd q (by decide)
      · rw [ej _ (by omega) (by omega)] at q
        rw [hck k (by omega)]
        exact x3 k (by omega) q
  have hXM : XM s (c + 1) := by
    obtain ⟨Q, y1, y2⟩ := z8
    have e0 : (decide (c < c) && Q c) = false := by simp
    refine ⟨fun k => decide (k < c) && Q k, ?_, ?_⟩
    · rw [ej 51 (by decide) (by omega), y1, ← mk_s0 (P := fun k => decide (k < c) && Q k) e0]
      exact mk_congr fun k hk => by simp [hk]
    · show cn c (fun k => decide (k < c) && Q k) + (if (decide (c < c) && Q c) = true then 1 else 0) ≠ 1
      rw [e0, if_neg (by decide), cn_congr (Q := Q) (fun k hk => by simp [hk])]
      exact y2
  refine ⟨⟨by omega, e0, by rw [ej 49 (by decide) (by omega)]; exact z3, fun k hk => ?_, ?_, ?_, hXO, hXM⟩, ?_, ?_, ?_, fun k hk => ?_⟩
  · by_cases e : k = c
    · subst e
      exact ⟨⟨a, ha, e1⟩, ⟨b, hb, e2⟩, ⟨p, by omega, e3⟩, Or.inl e4⟩
    · obtain ⟨q1, q2, ⟨p', q3, q4⟩, q5⟩ := z4 k (by omega)
      unfold OKo
      rw [ej _ (by omega) (by omega), ej _ (by omega) (by omega), ej _ (by omega) (by omega), ej _ (by omega) (by omega)]
      exact ⟨q1, q2, ⟨p', by omega, q4⟩, q5⟩
  · rw [ej 50 (by decide) (by omega)]
    rcases z5 with q | ⟨k, hk, q⟩
    · exact Or.inl q
    · exact Or.inr ⟨k, by omega, q⟩
  · intro q hq hq17
    have hle := z6 q hq hq17
    have e : cn (c + 1) (inB s (nI q)) = cn c (inB (w 84) (nI q)) + if inB s (nI q) c = true then 1 else 0 := by
      show cn c (inB s (nI q)) + _ = _
      rw [cn_congr (Q := inB (w 84) (nI q)) (fun k hk => by unfold inB; rw [ej _ (by omega) (by omega)])]
    rw [e]
    by_cases y : q = p
    · subst y
      rcases hcap with z | z
      · omega
      · split <;> omega
    · have : inB s (nI q) c = false := by
        unfold inB
        rw [e3]
        exact decide_eq_false (fun x => y ((nI_eq (by omega) (by omega)).mp x).symm)
      rw [this, if_neg (by decide)]
      exact hle
  · unfold adV; rw [up_s]
  · unfold adV; rw [up_c _ _ _ _ (by decide), up_r _ _ _ _ (by decide), up_r _ _ _ _ (by decide), up_r _ _ _ _ (by decide), h.2.1, ej 49 (by decide) (by omega)]
  · unfold adV; rw [up_c _ _ _ _ (by decide), up_r _ _ _ _ (by decide), up_r _ _ _ _ (by decide), up_r _ _ _ _ (by decide), h.2.2.1, ← mk_s0 (P := opB s) (show opB s c = false by unfold opB; rw [e4]; rfl)]
    exact (mk_congr op).symm
  · show adV v c (nI a) (nI b) (nI p) 10 k = s (4 * k + 1) ∧ adV v c (nI a) (nI b) (nI p) 11 k = s (4 * k + 2) ∧ adV v c (nI a) (nI b) (nI p) 12 k = s (4 * k + 3)
    unfold adV
    rw [up_r _ _ _ _ (by decide : (10 : Nat) ≠ 9), up_r _ _ _ _ (by decide : (10 : Nat) ≠ 12), up_r _ _ _ _ (by decide : (10 : Nat) ≠ 11), up_r _ _ _ _ (by decide : (11 : Nat) ≠ 9), up_r _ _ _ _ (by decide : (11 : Nat) ≠ 12), up_r _ _ _ _ (by decide : (12 : Nat) ≠ 9)]
    by_cases e : k = c
    · rw [e, up_s, up_s, up_s, e1, e2, e3]
      exact ⟨rfl, rfl, rfl⟩
    · rw [up_c _ _ _ _ e, up_c _ _ _ _ e, up_r _ _ _ _ (by decide), up_c _ _ _ _ e, up_r _ _ _ _ (by decide), up_r _ _ _ _ (by decide), ej _ (by omega) (by omega), ej _ (by omega) (by omega), ej _ (by omega) (by omega)]
      exact h.2.2.2 k (by omega)
