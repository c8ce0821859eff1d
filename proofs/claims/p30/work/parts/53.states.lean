/-! which words can stand next: the class's positions and the reference's states -/
def hS (p ask i : Nat) : gV := fun a b => if a = 3 then (if b = 1 then nI p else nI ask) else if a = 4 then nI i - 1 else nI ask
def stT : List Nat := [0, 1, 2, 3, 7, 4, 5, 6, 8, 9, 10, 12, 13, 11]
def stN (p : Nat) : Nat := stT.getD p 0
def putI (i : Nat) : Int32 := if i = 3 then 1 else 0
def toC (o : Option Nat) : Int32 := match o with
  | none => -1
  | some p => nI p
def toM (o : Option Nat) : Int32 := match o with
  | none => -1
  | some p => nI (stN p)
def aft (p ask i w : Nat) : Option Nat := match sX2_after (hS p ask i) (nI w) with
  | some x => if x < 0 then none else some x.toNatClampNeg
  | none => none
def gO (p ask i : Nat) : Bool := decide (cn 25 (fun w => (aft p ask i w).isSome) ≠ 0)
def trB (p ask i w q : Nat) : Bool :=
  decide (p = 0 ∧ 10 ≤ w ∧ w ≤ 14 ∧ q = 1) || (decide (p = 0 ∧ 15 ≤ w ∧ w ≤ 16 ∧ q = 13) || (decide (p = 0 ∧ ask = 1 ∧ w = 21 ∧ q = 11) || (decide (p = 0 ∧ ask = 1 ∧ 6 ≤ w ∧ w ≤ 9 ∧ q = 12) || (decide (p = 1 ∧ w = 17 ∧ q = 2) || (decide (p = 1 ∧ (w = 22 ∨ w = 23) ∧ q = 3) || (decide ((p = 1 ∨ p = 4) ∧ w = 21 ∧ q = 5) || (decide ((p = 1 ∨ p = 4 ∨ p = 5) ∧ 6 ≤ w ∧ w ≤ 9 ∧ q = 6) || (decide ((p = 1 ∨ p = 4 ∨ p = 5 ∨ p = 6) ∧ w < 6 ∧ q = 7) || (decide (p = 2 ∧ w = 18 ∧ q = 4) || (decide ((p = 2 ∨ p = 3 ∨ p = 7) ∧ w = 20 ∧ i = 3 ∧ q = 8) || (decide (p = 7 ∧ w = 19 ∧ q = 4) || (decide (p = 8 ∧ w = 22 ∧ q = 13) || (decide (p = 8 ∧ w = 21 ∧ q = 9) || (decide ((p = 8 ∨ p = 9) ∧ 6 ≤ w ∧ w ≤ 9 ∧ q = 10) || (decide ((p = 8 ∨ p = 9 ∨ p = 10) ∧ w < 6 ∧ q = 13) || (decide (p = 11 ∧ 6 ≤ w ∧ w ≤ 9 ∧ q = 12) || (decide (p = 12 ∧ (w = 24 ∨ w < 6) ∧ q = 13))))))))))))))))))
set_option maxRecDepth 100000 in
theorem aft_tab : ∀ p, p < 14 → ∀ ask, ask < 2 → ∀ i, i < 8 → ∀ w, w < 25 → sX2_after (hS p ask i) (nI w) = some (toC (aft p ask i w)) ∧ sX6_next (hS p ask i) (nI (stN p)) (nI w) (putI i) = some (toM (aft p ask i w)) := by decide +kernel
set_option maxRecDepth 100000 in
theorem tr_tab : ∀ p, p < 14 → ∀ ask, ask < 2 → ∀ i, i < 8 → ∀ w, w < 25 → ∀ q ∈ aft p ask i w, q < 14 ∧ trB p ask i w q = true := by decide +kernel
set_option maxRecDepth 100000 in
theorem go_tab : ∀ p, p < 14 → ∀ ask, ask < 2 → ∀ i, i < 8 → sX2_after (hS p ask i) (-1) = some (-1) ∧ sX2_goesOn 1000 (hS p ask i) = some (bI (gO p ask i)) ∧ sX6_goesOn 1000 (hS p ask i) (nI (stN p)) (putI i) = some (bI (gO p ask i)) := by decide +kernel
def PS (v : gV) (p ask i : Nat) : Prop := v 3 1 = nI p ∧ v 3 2 = nI ask ∧ v 4 3 = nI i - 1
theorem af_tr {v : gV} {p ask i : Nat} (h : PS v p ask i) (x : Int32) : sX2_after v x = sX2_after (hS p ask i) x := by
  obtain ⟨h1, h2, h3⟩ := h
  unfold sX2_after sX2_afterStart sX2_afterObjects
  rw [h1, h2, h3]
  rfl
theorem nx_tr {v : gV} {p ask i : Nat} (h : v 84 55 = nI ask) (x y z : Int32) : sX6_next v x y z = sX6_next (hS p ask i) x y z := by
  unfold sX6_next
  rw [h]
  rfl
theorem k_after {v : gV} {p ask i w : Nat} (h : PS v p ask i) (hp : p < 14) (ha : ask < 2) (hi : i < 8) (hw : w < 25) : sX2_after v (nI w) = some (toC (aft p ask i w)) := by
  rw [af_tr h]
  exact (aft_tab p hp ask ha i hi w hw).1
theorem k_afterN {v : gV} {p ask i : Nat} (h : PS v p ask i) (hp : p < 14) (ha : ask < 2) (hi : i < 8) : sX2_after v (-1) = some (-1) := by
  rw [af_tr h]
  exact (go_tab p hp ask ha i hi).1
theorem m_next {v : gV} {p ask i w : Nat} (h : v 84 55 = nI ask) (hp : p < 14) (ha : ask < 2) (hi : i < 8) (hw : w < 25) : sX6_next v (nI (stN p)) (nI w) (putI i) = some (toM (aft p ask i w)) := by
  rw [nx_tr (p := p) (i := i) h]
  exact (aft_tab p hp ask ha i hi w hw).2
theorem k_goes {v : gV} {p ask i : Nat} (h : PS v p ask i) (hp : p < 14) (ha : ask < 2) (hi : i < 8) : sX2_goesOn 1000 v = some (bI (gO p ask i)) := by
  have L : ∀ k y, sX2_goesOn_2 1000 k v y = sX2_goesOn_2 1000 k (hS p ask i) y := by
    intro k
    induction k with
    | zero => intro y; rfl
    | succ k ih =>
      intro y
      unfold sX2_goesOn_2 sX2_allows
      rw [ih, af_tr h]
  rw [← (go_tab p hp ask ha i hi).2.1]
  exact L 1000 0
theorem m_goes {v : gV} {p ask i : Nat} (h : v 84 55 = nI ask) (hp : p < 14) (ha : ask < 2) (hi : i < 8) : sX6_goesOn 1000 v (nI (stN p)) (putI i) = some (bI (gO p ask i)) := by
  have L : ∀ k x y z w, sX6_goesOn_5 1000 k v x y z w = sX6_goesOn_5 1000 k (hS p ask i) x y z w := by
    intro k
    induction k with
    | zero => intro x y z w; rfl
    | succ k ih =>
      intro x y z w
      unfold sX6_goesOn_5
      rw [nx_tr (p := p) (i := i) h, ih, ih]
  rw [← (go_tab p hp ask ha i hi).2.2]
  exact L 1000 _ _ _ _
theorem toC_neg {p ask i w : Nat} (hp : p < 14) (ha : ask < 2) (hi : i < 8) (hw : w < 25) : (toC (aft p ask i w) = -1 ↔ aft p ask i w = none) ∧ (toM (aft p ask i w) < 0 ↔ aft p ask i w = none) := by
  cases e : aft p ask i w with
  | none => exact ⟨⟨fun _ => rfl, fun _ => rfl⟩, ⟨fun _ => rfl, fun _ => by decide⟩⟩
  | some q =>
    have hq := (tr_tab p hp ask ha i hi w hw q (by rw [e]; rfl)).1
    have h2 : stN q < 14 := (show ∀ q, q < 14 → stN q < 14 by decide +kernel) q hq
    refine ⟨⟨fun h => ?_, fun h => by cases h⟩, ⟨fun h => ?_, fun h => by cases h⟩⟩
    · exact absurd h (fun h => nI_pos (n := q) (by omega) (by rw [show nI q = -1 from h]; decide))
    · exact absurd h (nI_pos (by omega))
theorem cn_ge {n i : Nat} {g : Nat → Bool} (hi : i < n) (h : g i = true) : cn n g ≠ 0 := fun q => by rw [cn_0.mp q i hi] at h; cases h
theorem k_next {v v2 : gV} {l p ask i f n : Nat} (hB : BR v v2 l) (h : PS v p ask i) (hp : p < 14) (ha : ask < 2) (hi : i < 8) (hn : f + n ≤ l) : sX5_beginsNextWord 1000 v (nI f) (nI (f + n)) = some (bI (decide (cn 25 (fun w => spB (v2 87) w f n && (aft p ask i w).isSome) ≠ 0))) := by
  generalize hg : (fun w => spB (v2 87) w f n && (aft p ask i w).isSome) = g
  have L : ∀ d j k, j + d = 25 → d < k → (∀ x, x < j → g x = false) → sX5_beginsNextWord_2 1000 k v (nI f) (nI (f + n)) (nI j) = some (bI (decide (cn 25 g ≠ 0))) := by
    intro d
    induction d with
    | zero =>
      intro j k hj hk hx
      obtain ⟨k, rfl⟩ : ∃ m, k = m + 1 := ⟨k - 1, by omega⟩
      have : j = 25 := by omega
      subst this
      unfold sX5_beginsNextWord_2
      rw [if_pos (by decide), cn_0.mpr hx]
      rfl
    | succ d ih =>
      intro j k hj hk hx
      obtain ⟨k, rfl⟩ : ∃ m, k = m + 1 := ⟨k - 1, by omega⟩
      unfold sX5_beginsNextWord_2 sX2_allows
      rw [if_neg (show ¬ (25 : Int32) ≤ nI j from nI_ge (b := 25) (by omega) (by decide)), k_begins hB (by omega) hn, ob, k_after h hp ha hi (by omega), ob, nI_1]
      have ht := toC_neg hp ha hi (show j < 25 by omega)
      have hgj : g j = (spB (v2 87) j f n && (aft p ask i j).isSome) := by rw [← hg]
      cases z : spB (v2 87) j f n with
      | false =>
        rw [if_pos bIf_eq]
        exact ih (j + 1) k (by omega) (by omega) (lt_s hx (by rw [hgj, z]; rfl))
      | true =>
        rw [if_neg bIt_ne]
        cases y : aft p ask i j with
        | none =>
          rw [if_pos (show toC none = -1 from rfl), ob, if_pos rfl]
          exact ih (j + 1) k (by omega) (by omega) (lt_s hx (by rw [hgj, z, y]; rfl))
        | some q =>
          rw [y] at ht
          rw [if_neg (fun e => by have := ht.1.mp e; cases this), ob, if_neg one_ne]
          have : cn 25 g ≠ 0 := cn_ge (i := j) (by omega) (by rw [hgj, z, y]; rfl)
          simp [this, bI]
  exact L 25 0 1000 (by omega) (by omega) (fun x hx => by omega)
theorem m_can {v2 : gV} {l p ask i f n : Nat} (ht : TB v2) (hl : l ≤ 60) (h : v2 84 55 = nI ask) (hp : p < 14) (ha : ask < 2) (hi : i < 8) (hn : f + n ≤ l) : sX6_canBegin 1000 v2 (nI f) (nI n) (nI (stN p)) (putI i) = some (bI (decide (cn 25 (fun w => spB (v2 87) w f n && (aft p ask i w).isSome) ≠ 0))) := by
  generalize hg : (fun w => spB (v2 87) w f n && (aft p ask i w).isSome) = g
  have L : ∀ d j k, j + d = 25 → d < k → sX6_canBegin_6 1000 k v2 (nI f) (nI n) (nI (stN p)) (putI i) (bI (decide (cn j g ≠ 0))) (nI j) = some (bI (decide (cn 25 g ≠ 0))) := by
    intro d
    induction d with
    | zero =>
      intro j k hj hk
      obtain ⟨k, rfl⟩ : ∃ m, k = m + 1 := ⟨k - 1, by omega⟩
      have : j = 25 := by omega
      subst this
      unfold sX6_canBegin_6
      rw [if_pos (by decide), if_pos (bI_m _)]
    | succ d ih =>
      intro j k hj hk
      obtain ⟨k, rfl⟩ : ∃ m, k = m + 1 := ⟨k - 1, by omega⟩
      have ih := ih (j + 1) k (by omega) (by omega)
      unfold sX6_canBegin_6
      rw [if_neg (show ¬ (25 : Int32) ≤ nI j from nI_ge (b := 25) (by omega) (by decide)), m_spells ht hl (by omega) hn, ob, m_next h hp ha hi (by omega), ob, nI_1]
      have htt := (toC_neg hp ha hi (show j < 25 by omega)).2
      have hgj : g j = (spB (v2 87) j f n && (aft p ask i j).isSome) := by rw [← hg]
      have hcn : cn (j + 1) g = cn j g + if g j = true then 1 else 0 := rfl
      by_cases z : cn j g = 0
      · rw [if_pos (show bI (decide (cn j g ≠ 0)) = 0 by simp [z, bI])]
        cases y : spB (v2 87) j f n with
        | false =>
          rw [if_pos bIf_eq]
          have : g j = false := by rw [hgj, y]; rfl
          rw [this, z] at hcn
          have e : cn (j + 1) g = 0 := by simpa using hcn
          rw [e] at ih
          exact ih
        | true =>
          rw [if_neg bIt_ne]
          cases x : aft p ask i j with
          | none =>
            rw [if_pos (show toM none < 0 by decide)]
            have : g j = false := by rw [hgj, y, x]; rfl
            rw [this, z] at hcn
            have e : cn (j + 1) g = 0 := by simpa using hcn
            rw [e] at ih
            exact ih
          | some q =>
            rw [x] at htt
            rw [if_neg (fun e => by have := htt.mp e; cases this)]
            have : g j = true := by rw [hgj, y, x]; rfl
            rw [this, z] at hcn
            have e : cn (j + 1) g = 1 := by simpa using hcn
            rw [e] at ih
            exact ih
      · have e0 : bI (decide (cn j g ≠ 0)) = 1 := by simp [z, bI]
        rw [e0, if_neg one_ne]
        have e : cn (j + 1) g ≠ 0 := by rw [hcn]; omega
        rw [show bI (decide (cn (j + 1) g ≠ 0)) = 1 by simp [e, bI]] at ih
        exact ih
  exact L 25 0 1000 (by omega) (by omega)
