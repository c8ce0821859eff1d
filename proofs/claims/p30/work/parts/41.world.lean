/-! the world: what the class's sets and the reference's sets are, as masks -/
theorem ob {α β : Type} (a : α) (f : α → Option β) : (some a).bind f = f a := rfl
def bI (b : Bool) : Int32 := if b = true then 1 else 0
theorem bI_t : bI true = 1 := rfl
theorem bI_f : bI false = 0 := rfl
theorem bI_0 (b : Bool) : bI b = 0 ↔ b = false := by cases b <;> decide
theorem bI_1 (b : Bool) : bI b = 1 ↔ b = true := by cases b <;> decide
theorem bI_m (b : Bool) : bI b &&& 1 = bI b := by cases b <;> decide
theorem or_0 (x : Int32) : x ||| 0 = x := by
  refine bt_ext fun k _ => ?_
  rw [bt_or, bt_0, Bool.or_false]
theorem zero_and (x : Int32) : 0 &&& x = 0 := by
  refine bt_ext fun k _ => ?_
  rw [bt_and, bt_0, Bool.false_and]
def nrB (s : Nat → Int32) (p : Int32) : Bool := decide (p = s 49) || decide (p = 4)
def ixP (s : Nat → Int32) (k : Nat) : Nat := (s (4 * k + 3)).toNatClampNeg - 5
def inB (s : Nat → Int32) (p : Int32) (k : Nat) : Bool := decide (s (4 * k + 3) = p)
def opB (s : Nat → Int32) (k : Nat) : Bool := decide (s (4 * k + 4) = 1)
def nxB (s : Nat → Int32) (i k : Nat) : Bool := nrB s (s (4 * k + 3)) || (!decide (s (4 * k + 3) ≤ 4) && decide (ixP s k < i) && opB s (ixP s k) && nrB s (s (4 * ixP s k + 3)))
def visB (s : Nat → Int32) (k : Nat) : Bool := nxB s 12 k
def cntB (s : Nat → Int32) (k : Nat) : Bool := decide (s (4 * k + 1) = 1) || decide (s (4 * k + 1) = 5)
def tgtB (s : Nat → Int32) (k : Nat) : Bool := visB s k && opB s k
def suitB (s : Nat → Int32) (w : Nat) (k : Nat) : Bool := if w = 0 then visB s k && !inB s 4 k else if w = 1 then inB s 4 k else if w = 2 then inB s 4 k && !cntB s k else if w = 3 then visB s k && cntB s k && !opB s k else tgtB s k
def fitB (s : Nat → Int32) (a b : Int32) (k : Nat) : Bool := (decide (a = -1) || decide (s (4 * k + 1) = a)) && (decide (b = -1) || decide (s (4 * k + 2) = b))
def OKo (s : Nat → Int32) (c k : Nat) : Prop := (∃ a, a < 6 ∧ s (4 * k + 1) = nI a) ∧ (∃ b, b < 4 ∧ s (4 * k + 2) = nI b) ∧ (∃ p, (p < 5 ∨ (5 ≤ p ∧ p - 5 < c)) ∧ s (4 * k + 3) = nI p) ∧ (s (4 * k + 4) = 0 ∨ s (4 * k + 4) = 1)
/-- no place holds more than it may -/
def LIM (s : Nat → Int32) (c : Nat) : Prop := ∀ p, 4 ≤ p → p < 17 → cn c (inB s (nI p)) ≤ (if p = 4 then 6 else 4)
theorem LIM_congr {s s' : Nat → Int32} {c : Nat} (h : LIM s c) (e : ∀ k, k < c → s' (4 * k + 3) = s (4 * k + 3)) : LIM s' c := by
  intro p hp hp2
  rw [cn_congr (Q := inB s (nI p)) (fun k hk => by unfold inB; rw [e k hk])]
  exact h p hp hp2
/-- nothing but what may be inside is inside of containers alone; no two alike; what is open is a container -/
def XO (s : Nat → Int32) (c : Nat) : Prop := (∀ k, k < c → ∀ p, 5 ≤ p → p < 17 → s (4 * k + 3) = nI p → cntB s (p - 5) = true ∧ cntB s k = false) ∧ (∀ i j, i < c → j < c → s (4 * i + 1) = s (4 * j + 1) → s (4 * i + 2) = s (4 * j + 2) → i = j) ∧ ∀ k, k < c → s (4 * k + 4) = 1 → cntB s k = true
/-- the last several are several, or none -/
def XM (s : Nat → Int32) (c : Nat) : Prop := ∃ Q : Nat → Bool, s 51 = mk c Q ∧ cn c Q ≠ 1
theorem cnt_cong {s s' : Nat → Int32} {k : Nat} (e : s' (4 * k + 1) = s (4 * k + 1)) : cntB s' k = cntB s k := by unfold cntB; rw [e]
theorem XO_cong {s s' : Nat → Int32} {c : Nat} (h : XO s c) (hc : c ≤ 12) (hp : ∀ k, k < c → ∀ p, 5 ≤ p → p < 17 → s (4 * k + 3) = nI p → p - 5 < c) (e : ∀ k, k < c → s' (4 * k + 1) = s (4 * k + 1) ∧ s' (4 * k + 2) = s (4 * k + 2) ∧ s' (4 * k + 3) = s (4 * k + 3) ∧ s' (4 * k + 4) = s (4 * k + 4)) : XO s' c := by
  obtain ⟨h1, h2, h3⟩ := h
  refine ⟨fun k hk p p5 p17 hq => ?_, fun i j hi hj q1 q2 => ?_, fun k hk q => ?_⟩
  · rw [(e k hk).2.2.1] at hq
    have hlt := hp k hk p p5 p17 hq
    rw [cnt_cong (e k hk).1, cnt_cong (e _ hlt).1]
    exact h1 k hk p p5 p17 hq
  · rw [(e i hi).1, (e j hj).1] at q1
    rw [(e i hi).2.1, (e j hj).2.1] at q2
    exact h2 i j hi hj q1 q2
  · rw [(e k hk).2.2.2] at q
    rw [cnt_cong (e k hk).1]
    exact h3 k hk q
theorem XM_cong {s s' : Nat → Int32} {c : Nat} (h : XM s c) (e : s' 51 = s 51) : XM s' c := by
  obtain ⟨Q, q1, q2⟩ := h
  exact ⟨Q, e.trans q1, q2⟩
def OKs (s : Nat → Int32) (c : Nat) : Prop := c ≤ 12 ∧ s 0 = nI c ∧ (∃ r, r < 4 ∧ s 49 = nI r) ∧ (∀ k, k < c → OKo s c k) ∧ (s 50 = -1 ∨ ∃ k, k < c ∧ s 50 = nI k) ∧ LIM s c ∧ XO s c ∧ XM s c
def CW (v : gV) (w : Nat) (s : Nat → Int32) (c : Nat) : Prop := v w 3 = nI c ∧ v w 4 = s 49 ∧ v w 5 = mk c (opB s) ∧ ∀ k, k < c → v (w + 1) k = s (4 * k + 1) ∧ v (w + 2) k = s (4 * k + 2) ∧ v (w + 3) k = s (4 * k + 3)
theorem OK_in {s : Nat → Int32} {c : Nat} (h4 : ∀ k, k < c → OKo s c k) (hc : c ≤ 12) : ∀ k, k < c → ∀ p, 5 ≤ p → p < 17 → s (4 * k + 3) = nI p → p - 5 < c := by
  intro k hk p p5 p17 e
  obtain ⟨_, _, ⟨q, hq, eq⟩, _⟩ := h4 k hk
  have : p = q := (nI_eq (by omega) (by omega)).mp (e.symm.trans eq)
  omega
theorem CW_congr {v v' : gV} {w : Nat} {s : Nat → Int32} {c : Nat} (h : CW v w s c) (he : ∀ k, w ≤ k → k < w + 4 → v' k = v k) : CW v' w s c := by
  obtain ⟨h1, h2, h3, h4⟩ := h
  unfold CW
  rw [he w (by omega) (by omega), he (w + 1) (by omega) (by omega), he (w + 2) (by omega) (by omega), he (w + 3) (by omega) (by omega)]
  exact ⟨h1, h2, h3, h4⟩
theorem of_tab : ∀ k, k < 12 → ∀ j, j < 4 → ¬ (((1 + (4 * nI k)) + nI j) < 0 ∨ 122 ≤ ((1 + (4 * nI k)) + nI j).toNatClampNeg) ∧ ((1 + (4 * nI k)) + nI j).toNatClampNeg = 4 * k + 1 + j := by decide +kernel
theorem of_j {v : gV} {k j : Nat} {x : Int32} (hx : x = nI j) (hk : k < 12) (hj : j < 4) : sX6_of v (nI k) x = some (v 84 (4 * k + 1 + j)) := by
  subst hx
  have h := of_tab k hk j hj
  unfold sX6_of
  rw [if_pos h.1, h.2]
theorem of_0 {v : gV} {k : Nat} (hk : k < 12) : sX6_of v (nI k) 0 = some (v 84 (4 * k + 1)) := of_j (j := 0) rfl hk (by decide)
theorem of_1 {v : gV} {k : Nat} (hk : k < 12) : sX6_of v (nI k) 1 = some (v 84 (4 * k + 2)) := of_j (j := 1) rfl hk (by decide)
theorem of_2 {v : gV} {k : Nat} (hk : k < 12) : sX6_of v (nI k) 2 = some (v 84 (4 * k + 3)) := of_j (j := 2) rfl hk (by decide)
theorem of_3 {v : gV} {k : Nat} (hk : k < 12) : sX6_of v (nI k) 3 = some (v 84 (4 * k + 4)) := of_j (j := 3) rfl hk (by decide)
theorem m_near (v : gV) (p : Int32) : sX6_isNear v p = some (bI (nrB (v 84) p)) := by
  unfold sX6_isNear nrB
  by_cases h : p = v 84 49
  · rw [if_pos h]; simp [h, bI]
  · rw [if_neg h]
    by_cases h2 : p = 4
    · rw [if_pos h2]; simp [h2, bI]
    · rw [if_neg h2]; simp [h, h2, bI]
theorem le_4 {p : Nat} (hp : p < 2 ^ 31) : nI p ≤ 4 ↔ p ≤ 4 := nI_leI (b := 4) hp (by decide)
theorem sub_5 {p : Nat} (hp : 5 ≤ p) : nI p - 5 = nI (p - 5) := pk_sub (b := 5) hp
theorem add_5 (p : Nat) : 5 + nI p = nI (5 + p) := nI_add 5 p
theorem m_vis {v : gV} {c k : Nat} (h : OKs (v 84) c) (hk : k < c) : sX6_isVisible v (nI k) = some (bI (visB (v 84) k)) := by
  obtain ⟨hc, h0, hr, ho, h5⟩ := h
  obtain ⟨_, _, ⟨p, hp, ep⟩, _⟩ := ho k hk
  unfold sX6_isVisible visB nxB
  rw [of_2 (by omega), ob, m_near, ob]
  cases hq : nrB (v 84) (v 84 (4 * k + 3)) with
  | true => rw [if_neg (by decide)]; rfl
  | false =>
    rw [if_pos (by decide)]
    have hix : ixP (v 84) k = p - 5 := by unfold ixP; rw [ep, nI_clamp (by omega)]
    rw [hix, ep]
    by_cases h4 : p ≤ 4
    · rw [if_pos ((le_4 (by omega)).mpr h4)]
      simp [(le_4 (p := p) (by omega)).mpr h4, bI]
    · rw [if_neg (fun q => h4 ((le_4 (by omega)).mp q)), sub_5 (by omega), of_3 (by omega), ob]
      unfold opB
      have hlt : p - 5 < 12 := by omega
      by_cases h1 : v 84 (4 * (p - 5) + 4) = 1
      · rw [if_pos h1, of_2 (by omega), ob, m_near, ob]
        cases hz : nrB (v 84) (v 84 (4 * (p - 5) + 3)) with
        | true => rw [if_neg (by decide)]; simp [le_4 (p := p) (by omega), h4, h1, hlt, bI]
        | false => rw [if_pos (by decide)]; simp [bI]
      · rw [if_neg h1]; simp [h1, bI]
theorem m_cnt {v : gV} {k : Nat} (hk : k < 12) : sX6_isContainer v (nI k) = some (bI (cntB (v 84) k)) := by
  unfold sX6_isContainer cntB
  rw [of_0 hk, ob, ob]
  by_cases h : v 84 (4 * k + 1) = 1
  · rw [if_pos h]; simp [h, bI]
  · rw [if_neg h]
    by_cases h2 : v 84 (4 * k + 1) = 5
    · rw [if_pos h2]; simp [h2, bI]
    · rw [if_neg h2]; simp [h, h2, bI]
theorem m_tgt {v : gV} {c k : Nat} (h : OKs (v 84) c) (hk : k < c) : sX6_isTarget v (nI k) = some (bI (tgtB (v 84) k)) := by
  unfold sX6_isTarget tgtB
  rw [m_vis h hk, ob, of_3 (by have := h.1; omega), ob]
  unfold opB
  cases visB (v 84) k with
  | false => rw [if_pos (by decide)]; rfl
  | true =>
    rw [if_neg (by decide)]
    by_cases h1 : v 84 (4 * k + 4) = 1
    · rw [if_pos h1]; simp [h1, bI]
    · rw [if_neg h1]; simp [h1, bI]
theorem m_suits {v : gV} {c k w : Nat} (h : OKs (v 84) c) (hk : k < c) (hw : w < 5) : sX6_suits v (nI k) (nI w) = some (bI (suitB (v 84) w k)) := by
  have hc := h.1
  obtain ⟨_, _, _, ho4⟩ := h.2.2.2.1 k hk
  unfold sX6_suits suitB
  rw [m_vis h hk, m_cnt (by omega), m_tgt h hk, of_2 (by omega), of_3 (by omega)]
  simp only [ob]
  unfold inB opB
  have hcases : w = 0 ∨ w = 1 ∨ w = 2 ∨ w = 3 ∨ w = 4 := by omega
  rcases hcases with e | e | e | e | e <;> subst e
  · rw [if_pos (by decide)]
    cases visB (v 84) k <;> by_cases h4 : v 84 (4 * k + 3) = 4 <;> simp [h4, bI]
  · rw [if_neg (by decide), if_pos (by decide)]
    by_cases h4 : v 84 (4 * k + 3) = 4 <;> simp [h4, bI]
  · rw [if_neg (by decide), if_neg (by decide), if_pos (by decide)]
    cases cntB (v 84) k <;> by_cases h4 : v 84 (4 * k + 3) = 4 <;> simp [h4, bI]
  · rw [if_neg (by decide), if_neg (by decide), if_neg (by decide), if_pos (by decide)]
    cases visB (v 84) k <;> cases cntB (v 84) k <;> rcases ho4 with h4 | h4 <;> simp [h4, bI]
  · rw [if_neg (by decide), if_neg (by decide), if_neg (by decide), if_neg (by decide), bI_m]
    simp
theorem s_le {c i : Nat} {x : Int32} (h0 : x = nI c) (h : i < c) (hc : c ≤ 12) : ¬ x ≤ nI i := by subst h0; exact nI_ge h (by omega)
theorem s_ge {c i : Nat} {x : Int32} (h0 : x = nI c) (h : i = c) (hc : c ≤ 12) : x ≤ nI i := by subst h0; subst h; exact nI_le (Nat.le_refl _) (by omega)
theorem mk_s1 {i : Nat} {P : Nat → Bool} (h : P i = true) : mk i P ||| ((1 : Int32) <<< (nI i &&& 31)) = mk (i + 1) P := by
  show mk i P ||| pw i = _
  conv => rhs; unfold mk
  rw [if_pos h]
theorem mk_s0 {i : Nat} {P : Nat → Bool} (h : P i = false) : mk i P = mk (i + 1) P := by
  conv => rhs; unfold mk
  rw [h, if_neg (by decide)]
theorem m_visOnes {v : gV} {c : Nat} (h : OKs (v 84) c) : sX6_visibleOnes 1000 v = some (mk c (visB (v 84))) := by
  have L : ∀ k i, i ≤ c → c - i < k → sX6_visibleOnes_4 1000 k v (mk i (visB (v 84))) (nI i) = some (mk c (visB (v 84))) := by
    intro k
    induction k with
    | zero => intro i _ hz; omega
    | succ k ih =>
      intro i hi hz
      unfold sX6_visibleOnes_4
      by_cases e : i = c
      · rw [if_pos (s_ge h.2.1 e h.1), e]
      · rw [if_neg (s_le h.2.1 (by omega) h.1), m_vis h (by omega), ob, or_0, nI_1]
        cases hq : visB (v 84) i with
        | false => rw [if_pos (by decide), mk_s0 hq]; exact ih _ (by omega) (by omega)
        | true => rw [if_neg (by decide), mk_s1 hq]; exact ih _ (by omega) (by omega)
  exact L 1000 0 (by omega) (by have := h.1; omega)
theorem m_suitOnes {v : gV} {c w : Nat} (h : OKs (v 84) c) (hw : w < 5) : sX6_suitableOnes 1000 v (nI w) = some (mk c (suitB (v 84) w)) := by
  have L : ∀ k i, i ≤ c → c - i < k → sX6_suitableOnes_4 1000 k v (nI w) (mk i (suitB (v 84) w)) (nI i) = some (mk c (suitB (v 84) w)) := by
    intro k
    induction k with
    | zero => intro i _ hz; omega
    | succ k ih =>
      intro i hi hz
      unfold sX6_suitableOnes_4
      by_cases e : i = c
      · rw [if_pos (s_ge h.2.1 e h.1), e]
      · rw [if_neg (s_le h.2.1 (by omega) h.1), if_pos (nI_pos' (by omega)), m_suits h (by omega) hw, ob, or_0, nI_1]
        cases hq : suitB (v 84) w i with
        | false => rw [if_pos (by decide), mk_s0 hq]; exact ih _ (by omega) (by omega)
        | true => rw [if_neg (by decide), mk_s1 hq]; exact ih _ (by omega) (by omega)
  exact L 1000 0 (by omega) (by have := h.1; omega)
theorem m_tgtOnes {v : gV} {c : Nat} (h : OKs (v 84) c) : sX6_suitableOnes 1000 v (-1) = some (mk c (tgtB (v 84))) := by
  have L : ∀ k i, i ≤ c → c - i < k → sX6_suitableOnes_4 1000 k v (-1) (mk i (tgtB (v 84))) (nI i) = some (mk c (tgtB (v 84))) := by
    intro k
    induction k with
    | zero => intro i _ hz; omega
    | succ k ih =>
      intro i hi hz
      unfold sX6_suitableOnes_4
      by_cases e : i = c
      · rw [if_pos (s_ge h.2.1 e h.1), e]
      · rw [if_neg (s_le h.2.1 (by omega) h.1), if_neg (by decide), m_tgt h (by omega), ob, or_0, nI_1]
        cases hq : tgtB (v 84) i with
        | false => rw [if_pos (by decide), mk_s0 hq]; exact ih _ (by omega) (by omega)
        | true => rw [if_neg (by decide), mk_s1 hq]; exact ih _ (by omega) (by omega)
  exact L 1000 0 (by omega) (by have := h.1; omega)
theorem m_fit {v : gV} {c : Nat} {a b : Int32} (h : OKs (v 84) c) (ha : a ≠ -1) (hb : b = -1 ∨ ¬ b < 0) : sX6_fittingOnes 1000 v a b = some (mk c (fitB (v 84) a b)) := by
  have L : ∀ k i, i ≤ c → c - i < k → sX6_fittingOnes_5 1000 k v a b (mk i (fitB (v 84) a b)) (nI i) = some (mk c (fitB (v 84) a b)) := by
    intro k
    induction k with
    | zero => intro i _ hz; omega
    | succ k ih =>
      intro i hi hz
      unfold sX6_fittingOnes_5
      by_cases e : i = c
      · rw [if_pos (s_ge h.2.1 e h.1), e]
      · have hc := h.1
        rw [if_neg (s_le h.2.1 (by omega) h.1), of_0 (by omega), ob, of_1 (by omega), ob, or_0, nI_1]
        by_cases h1 : v 84 (4 * i + 1) = a
        · rw [if_pos h1]
          by_cases h2 : b < 0
          · have hb1 : b = -1 := by rcases hb with q | q; exact q; exact absurd h2 q
            rw [if_pos h2, mk_s1 (by simp [fitB, h1, hb1])]
            exact ih _ (by omega) (by omega)
          · have hb1 : b ≠ -1 := by intro q; rw [q] at h2; exact h2 (by decide)
            rw [if_neg h2]
            by_cases h3 : v 84 (4 * i + 2) = b
            · rw [if_pos h3, mk_s1 (by simp [fitB, h1, h3])]
              exact ih _ (by omega) (by omega)
            · rw [if_neg h3, mk_s0 (by simp [fitB, h1, h3, hb1])]
              exact ih _ (by omega) (by omega)
        · rw [if_neg h1, mk_s0 (by simp [fitB, h1, ha])]
          exact ih _ (by omega) (by omega)
  exact L 1000 0 (by omega) (by have := h.1; omega)
theorem m_at {v : gV} {c : Nat} (h : OKs (v 84) c) (p : Int32) : sX6_at 1000 v p = some (nI (cn c (inB (v 84) p))) := by
  have L : ∀ k i, i ≤ c → c - i < k → sX6_at_4 1000 k v p (nI (cn i (inB (v 84) p))) (nI i) = some (nI (cn c (inB (v 84) p))) := by
    intro k
    induction k with
    | zero => intro i _ hz; omega
    | succ k ih =>
      intro i hi hz
      unfold sX6_at_4
      by_cases e : i = c
      · rw [if_pos (s_ge h.2.1 e h.1), e]
      · have hc := h.1
        rw [if_neg (s_le h.2.1 (by omega) h.1), of_2 (by omega), ob, nI_1, nI_1]
        have ih := ih (i + 1) (by omega) (by omega)
        by_cases h1 : v 84 (4 * i + 3) = p
        · rw [if_pos h1]
          have e : cn (i + 1) (inB (v 84) p) = cn i (inB (v 84) p) + 1 := by simp [cn, inB, h1]
          rw [← e]; exact ih
        · rw [if_neg h1]
          have e : cn (i + 1) (inB (v 84) p) = cn i (inB (v 84) p) := by simp [cn, inB, h1]
          rw [show nI (cn i (inB (v 84) p)) + 0 = nI (cn (i + 1) (inB (v 84) p)) by rw [e]; exact nI_add _ 0]; exact ih
  exact L 1000 0 (by omega) (by have := h.1; omega)
