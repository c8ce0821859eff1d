/-! words: letters, lengths, spelling on both sides -/
def hZ : gV := fun _ _ => 0
def lenT : List Nat := [4, 3, 3, 4, 4, 3, 3, 4, 3, 3, 4, 4, 3, 4, 5, 4, 4, 3, 3, 3, 2, 3, 2, 4, 3]
def lenW (w : Nat) : Nat := lenT.getD w 0
def begT : List Nat := [0, 4, 7, 10, 14, 18, 21, 24, 28, 31, 34, 38, 42, 45, 49, 54, 58, 62, 65, 68, 71, 73, 76, 78, 82]
def begW (w : Nat) : Nat := begT.getD w 0
def ltr (w i : Nat) : Int32 := gLet.getD (5 * w + i) 0
theorem len_tab : ∀ w, w < 25 → 2 ≤ lenW w ∧ lenW w ≤ 5 ∧ begW w + lenW w ≤ 85 ∧ gTabB.getD w 0 = nI (begW w) ∧ gTabB.getD (w + 1) 0 = nI (begW w + lenW w) := by decide +kernel
theorem let_tab : ∀ w, w < 25 → ∀ i, i < 5 → sX5_letterOf hZ (nI w) (nI i) = some (ltr w i) ∧ (i < lenW w → gTabL.getD (begW w + i) 0 = ltr w i) := by decide +kernel
theorem spl_tab : ∀ w, w < 25 → ∀ w', w' < 25 → w ≠ w' → lenW w = lenW w' → ∃ i, i < 5 ∧ i < lenW w ∧ ltr w i ≠ ltr w' i := by decide +kernel
theorem ltr_tab : ∀ w, w < 25 → ∀ i, i < 5 → i < lenW w → ∃ x, x < 128 ∧ 32 < x ∧ ltr w i = nI x := by decide +kernel
theorem k_let {v : gV} {w i : Nat} (hw : w < 25) (hi : i < 5) : sX5_letterOf v (nI w) (nI i) = some (ltr w i) := (let_tab w hw i hi).1
theorem k_len0 (v : gV) (x : Int32) : sX5_lengthOf 1000 v x = sX5_lengthOf 1000 hZ x := by
  have L : ∀ k y, sX5_lengthOf_2 1000 k v x y = sX5_lengthOf_2 1000 k hZ x y := by
    intro k
    induction k with
    | zero => intro y; rfl
    | succ k ih =>
      intro y
      unfold sX5_lengthOf_2
      rw [ih]
      rfl
  exact L 1000 0
theorem klen_tab : ∀ w, w < 25 → sX5_lengthOf 1000 hZ (nI w) = some (nI (lenW w)) := by decide +kernel
theorem k_len {v : gV} {w : Nat} (hw : w < 25) : sX5_lengthOf 1000 v (nI w) = some (nI (lenW w)) := by rw [k_len0, klen_tab w hw]
/-- the buffer on both sides -/
def BR (v v2 : gV) (l : Nat) : Prop := l ≤ 60 ∧ v 1 1 = nI l ∧ v2 81 7 = nI l ∧ ∀ i, i < l → v 2 i = v2 87 i ∧ ∃ x, x < 128 ∧ v2 87 i = nI x
def TB (v2 : gV) : Prop := (∀ j, j < 85 → v2 82 j = gTabL.getD j 0) ∧ (∀ j, j < 26 → v2 83 j = gTabB.getD j 0)
theorem nar_tab : ∀ x, x < 128 → nar_c (nI x) = nI x := by decide +kernel
theorem k_char {v v2 : gV} {l i : Nat} (h : BR v v2 l) (hi : i < l) : sX0_characterAt v (nI i) = some (v2 87 i) := by
  obtain ⟨h1, h2, h3, h4⟩ := h
  obtain ⟨e, x, hx, ex⟩ := h4 i hi
  unfold sX0_characterAt
  rw [if_neg (nI_pos (by omega)), h2, if_neg (nI_ge hi (by omega)), if_neg (show ¬ (60 : Int32) ≤ nI i from nI_ge (b := 60) (by omega) (by decide)), if_pos (nI_in (by omega) (by decide)), nI_clamp (by omega), e, ex, if_pos (nar_tab x hx)]
theorem k_space {v v2 : gV} {l i : Nat} (h : BR v v2 l) (hi : i < l) : sX0_isSpace v (nI i) = some (bI (decide (v2 87 i = 32))) := by
  unfold sX0_isSpace
  rw [k_char h hi, ob]
  by_cases z : v2 87 i = 32
  · rw [if_pos z]; simp [z, bI]
  · rw [if_neg z]; simp [z, bI]
def spA (B : Nat → Int32) (w f : Nat) : Nat → Bool
  | 0 => true
  | n + 1 => spA B w f n && decide (B (f + n) = ltr w n)
theorem spA_iff {B : Nat → Int32} {w f n : Nat} : spA B w f n = true ↔ ∀ i, i < n → B (f + i) = ltr w i := by
  induction n with
  | zero => simp [spA]
  | succ n ih =>
    unfold spA
    rw [Bool.and_eq_true, ih, decide_eq_true_iff]
    constructor
    · intro h i hi
      by_cases e : i = n
      · rw [e]; exact h.2
      · exact h.1 i (by omega)
    · intro h
      exact ⟨fun i hi => h i (by omega), h n (by omega)⟩
def spB (B : Nat → Int32) (w f n : Nat) : Bool := decide (n ≤ lenW w) && spA B w f n
theorem spA_no {B : Nat → Int32} {w f n i : Nat} (hi : i < n) (h : B (f + i) ≠ ltr w i) : spA B w f n = false := by
  cases z : spA B w f n with
  | false => rfl
  | true => exact absurd (spA_iff.mp z i hi) h
theorem k_begins {v v2 : gV} {l w f n : Nat} (h : BR v v2 l) (hw : w < 25) (hn : f + n ≤ l) : sX0_begins 1000 v (nI w) (nI f) (nI (f + n)) = some (bI (spB (v2 87) w f n)) := by
  have hl := len_tab w hw
  have h60 := h.1
  unfold sX0_begins spB
  rw [k_len hw, ob, show nI (f + n) - nI f = nI n by rw [pk_sub (by omega)]; congr 1; omega]
  by_cases z : n ≤ lenW w
  · rw [if_pos (nI_le z (by omega))]
    have L : ∀ d i k, i + d = n → d < k → spA (v2 87) w f i = true → sX0_begins_15 1000 k v (nI w) (nI f) (nI (f + n)) (nI (f + i)) = some (bI (spA (v2 87) w f n)) := by
      intro d
      induction d with
      | zero =>
        intro i k hi hk hs
        obtain ⟨k, rfl⟩ : ∃ m, k = m + 1 := ⟨k - 1, by omega⟩
        have : i = n := by omega
        subst this
        unfold sX0_begins_15
        rw [if_pos (nI_le (Nat.le_refl _) (by omega)), hs]
        rfl
      | succ d ih =>
        intro i k hi hk hs
        obtain ⟨k, rfl⟩ : ∃ m, k = m + 1 := ⟨k - 1, by omega⟩
        unfold sX0_begins_15
        rw [if_neg (nI_ge (by omega) (by omega)), k_char h (by omega), ob, show nI (f + i) - nI f = nI i by rw [pk_sub (by omega)]; congr 1; omega, k_let hw (by omega), ob, nI_1]
        by_cases y : v2 87 (f + i) = ltr w i
        · rw [if_pos y]
          exact ih (i + 1) k (by omega) (by omega) (by unfold spA; rw [hs]; simp [y])
        · rw [if_neg y, spA_no (by omega) y]
          rfl
    have := L n 0 1000 (by omega) (by omega) rfl
    rw [show decide (n ≤ lenW w) = true by simp [z], Bool.true_and]
    exact this
  · rw [if_neg (nI_ge (by omega) (by omega))]
    simp [z, bI]
theorem m_len {v2 : gV} (ht : TB v2) {w : Nat} (hw : w < 25) : sX6_lengthOf v2 (nI w) = some (nI (lenW w)) := by
  have hl := len_tab w hw
  unfold sX6_lengthOf
  rw [nI_1, if_pos (nI_in (by omega) (by decide)), if_pos (nI_in (by omega) (by decide)), nI_clamp (by omega), nI_clamp (by omega), ht.2 _ (by omega), ht.2 _ (by omega), hl.2.2.2.1, hl.2.2.2.2, pk_sub (by omega)]
  congr 2
  omega
theorem m_spells {v2 : gV} {l w f n : Nat} (ht : TB v2) (hl60 : l ≤ 60) (hw : w < 25) (hn : f + n ≤ l) : sX6_spells 1000 v2 (nI w) (nI f) (nI n) = some (bI (spB (v2 87) w f n)) := by
  have hl := len_tab w hw
  unfold sX6_spells spB
  rw [m_len ht hw, ob]
  by_cases z : n ≤ lenW w
  · rw [if_neg (nI_nlt z (by omega))]
    have L : ∀ d i k, i + d = n → d < k → sX6_spells_19 1000 k v2 (nI w) (nI f) (nI n) (bI (spA (v2 87) w f i)) (nI i) = some (bI (spA (v2 87) w f n)) := by
      intro d
      induction d with
      | zero =>
        intro i k hi hk
        obtain ⟨k, rfl⟩ : ∃ m, k = m + 1 := ⟨k - 1, by omega⟩
        have : i = n := by omega
        subst this
        unfold sX6_spells_19
        rw [if_pos (nI_le (Nat.le_refl _) (by omega)), if_pos (bI_m _)]
      | succ d ih =>
        intro i k hi hk
        obtain ⟨k, rfl⟩ : ∃ m, k = m + 1 := ⟨k - 1, by omega⟩
        unfold sX6_spells_19
        rw [if_neg (nI_ge (by omega) (by omega))]
        cases y : spA (v2 87) w f i with
        | false =>
          have : spA (v2 87) w f n = false := by
            cases q : spA (v2 87) w f n with
            | false => rfl
            | true =>
              have := spA_iff.mp q
              have h2 : spA (v2 87) w f i = true := spA_iff.mpr fun j hj => this j (by omega)
              rw [h2] at y
              cases y
          rw [if_pos bIf_eq, if_pos (bI_m _), this]
        | true =>
          rw [if_neg bIt_ne, nI_add, if_pos (nI_in (c := f + i) (N := 60) (by omega) (by decide)), if_pos (nI_in (c := w) (N := 26) (by omega) (by decide)), nI_clamp (n := w) (by omega), ht.2 w (by omega), hl.2.2.2.1, nI_add, if_pos (nI_in (c := begW w + i) (N := 85) (by omega) (by decide)), nI_clamp (n := f + i) (by omega), nI_clamp (n := begW w + i) (by omega), ht.1 _ (by omega), (let_tab w hw i (by omega)).2 (by omega), nI_1]
          have i1 := ih (i + 1) k (by omega) (by omega)
          rw [show spA (v2 87) w f (i + 1) = (spA (v2 87) w f i && decide (v2 87 (f + i) = ltr w i)) from rfl, y, Bool.true_and] at i1
          by_cases q : v2 87 (f + i) = ltr w i
          · rw [if_pos q]
            rw [show decide (v2 87 (f + i) = ltr w i) = true by simp [q]] at i1
            exact i1
          · rw [if_neg q]
            rw [show decide (v2 87 (f + i) = ltr w i) = false by simp [q]] at i1
            exact i1
    have := L n 0 1000 (by omega) (by omega)
    rw [show decide (n ≤ lenW w) = true by simp [z], Bool.true_and]
    exact this
  · rw [if_pos (nI_lt (by omega) (by omega)), show decide (n ≤ lenW w) = false by simp [z], Bool.false_and]
    unfold sX6_spells_19
    rw [if_neg (show ¬ nI n ≤ 0 from nI_nle (by omega) (by omega)), if_pos rfl, if_pos (by decide)]
    rfl
theorem sp_uniq {B : Nat → Int32} {w w' f n : Nat} (hw : w < 25) (hw' : w' < 25) (h : n = lenW w) (h' : n = lenW w') (s : spA B w f n = true) (s' : spA B w' f n = true) : w = w' := by
  refine Classical.byContradiction fun q => ?_
  obtain ⟨i, _, hi, hne⟩ := spl_tab w hw w' hw' q (by omega)
  exact hne ((spA_iff.mp s i (by omega)).symm.trans (spA_iff.mp s' i (by omega)))
/-- the word that the characters from f on spell, n of them -/
def isW (B : Nat → Int32) (f n w : Nat) : Prop := w < 25 ∧ n = lenW w ∧ spA B w f n = true
theorem k_wordAt {v v2 : gV} {l f n : Nat} (h : BR v v2 l) (hn : f + n ≤ l) : (∃ w, isW (v2 87) f n w ∧ sX0_wordAt 1000 v (nI f) (nI (f + n)) = some (nI w)) ∨ ((∀ w, ¬ isW (v2 87) f n w) ∧ sX0_wordAt 1000 v (nI f) (nI (f + n)) = some (-1)) := by
  have h60 := h.1
  have step : ∀ i k, i < 25 → sX0_wordAt_2 1000 (k + 1) v (nI f) (nI (f + n)) (nI i) = if n = lenW i ∧ spA (v2 87) i f n = true then some (nI i) else sX0_wordAt_2 1000 k v (nI f) (nI (f + n)) (nI (i + 1)) := by
    intro i k hi
    have hl := len_tab i hi
    conv => lhs; unfold sX0_wordAt_2
    rw [if_neg (show ¬ (25 : Int32) ≤ nI i from nI_ge (b := 25) hi (by decide)), k_len hi, ob, show nI (f + n) - nI f = nI n by rw [pk_sub (by omega)]; congr 1; omega, nI_1]
    by_cases z : n = lenW i
    · rw [if_pos (show nI n = nI (lenW i) by rw [z]), k_begins h hi hn, ob]
      unfold spB
      rw [show decide (n ≤ lenW i) = true by simp; omega, Bool.true_and]
      cases y : spA (v2 87) i f n with
      | false => rw [if_pos bIf_eq, if_neg (by simp)]
      | true => rw [if_neg bIt_ne, if_pos ⟨z, rfl⟩]
    · rw [if_neg (fun q => z ((nI_eq (by omega) (by omega)).mp q)), if_neg (fun q => z q.1)]
  by_cases hex : ∃ w, isW (v2 87) f n w
  · left
    obtain ⟨w, hw, e, s⟩ := hex
    refine ⟨w, ⟨hw, e, s⟩, ?_⟩
    have L : ∀ d i k, i + d = w → d < k → sX0_wordAt_2 1000 k v (nI f) (nI (f + n)) (nI i) = some (nI w) := by
      intro d
      induction d with
      | zero =>
        intro i k hi hk
        obtain ⟨k, rfl⟩ : ∃ m, k = m + 1 := ⟨k - 1, by omega⟩
        have : i = w := by omega
        subst this
        rw [step i k hw, if_pos ⟨e, s⟩]
      | succ d ih =>
        intro i k hi hk
        obtain ⟨k, rfl⟩ : ∃ m, k = m + 1 := ⟨k - 1, by omega⟩
        rw [step i k (by omega), if_neg (fun q => by have := sp_uniq (by omega) hw q.1 e q.2 s; omega)]
        exact ih (i + 1) k (by omega) (by omega)
    exact L w 0 1000 (by omega) (by omega)
  · right
    refine ⟨fun w q => hex ⟨w, q⟩, ?_⟩
    have L : ∀ d i k, i + d = 25 → d < k → sX0_wordAt_2 1000 k v (nI f) (nI (f + n)) (nI i) = some (-1) := by
      intro d
      induction d with
      | zero =>
        intro i k hi hk
        obtain ⟨k, rfl⟩ : ∃ m, k = m + 1 := ⟨k - 1, by omega⟩
        have : i = 25 := by omega
        subst this
        unfold sX0_wordAt_2
        rw [if_pos (by decide)]
      | succ d ih =>
        intro i k hi hk
        obtain ⟨k, rfl⟩ : ∃ m, k = m + 1 := ⟨k - 1, by omega⟩
        rw [step i k (by omega), if_neg (fun q => hex ⟨i, by omega, q⟩)]
        exact ih (i + 1) k (by omega) (by omega)
    exact L 25 0 1000 (by omega) (by omega)
