/-! the law's descriptions and commands are read to their ends -/
def DS (ds : List Nat) : Prop := ∃ n, n < 6 ∧ (ds = [n] ∨ ds = [21, n] ∨ ∃ b, b < 4 ∧ (ds = [6 + b, n] ∨ ds = [21, 6 + b, n]))
theorem len6 : ∀ n, n < 10 → lenW n ≤ 4 := by decide +kernel
theorem DS_sum {ds : List Nat} (h : DS ds) : sumW ds ≤ 14 := by
  obtain ⟨n, hn, h⟩ := h
  have h1 := len6 n (by omega)
  have h21 : lenW 21 = 3 := rfl
  rcases h with e | e | ⟨b, hb, e | e⟩
  · rw [e]; show lenW n + 1 + 0 ≤ 14; omega
  · rw [e]; show lenW 21 + 1 + (lenW n + 1 + 0) ≤ 14; omega
  · have h2 := len6 (6 + b) (by omega)
    rw [e]; show lenW (6 + b) + 1 + (lenW n + 1 + 0) ≤ 14; omega
  · have h2 := len6 (6 + b) (by omega)
    rw [e]; show lenW 21 + 1 + (lenW (6 + b) + 1 + (lenW n + 1 + 0)) ≤ 14; omega
def rnE (o : Option (Nat × Nat)) (q j : Nat) : Bool := match o with
  | none => false
  | some r => decide (r.1 = q) && decide (r.2 = j)
theorem rnE_of {o : Option (Nat × Nat)} {q j : Nat} (h : rnE o q j = true) : o = some (q, j) := by
  cases o with
  | none => cases h
  | some r =>
    have h : (decide (r.1 = q) && decide (r.2 = j)) = true := h
    rw [Bool.and_eq_true, decide_eq_true_iff, decide_eq_true_iff] at h
    rw [← h.1, ← h.2]
set_option maxRecDepth 100000 in
theorem des_a : ∀ ask, ask < 2 → ∀ V, V < 5 → ∀ n, n < 6 → (rnE (rn ask 1 (V + 1) [n]) 7 (V + 1) && rnE (rn ask 1 (V + 1) [21, n]) 7 (V + 1) && rnE (rn ask 4 (V + 1) [n]) 7 (V + 1) && rnE (rn ask 4 (V + 1) [21, n]) 7 (V + 1)) = true := by decide +kernel
set_option maxRecDepth 100000 in
theorem des_b : ∀ ask, ask < 2 → ∀ V, V < 5 → ∀ n, n < 6 → ∀ b, b < 4 → (rnE (rn ask 1 (V + 1) [6 + b, n]) 7 (V + 1) && rnE (rn ask 1 (V + 1) [21, 6 + b, n]) 7 (V + 1) && rnE (rn ask 4 (V + 1) [6 + b, n]) 7 (V + 1) && rnE (rn ask 4 (V + 1) [21, 6 + b, n]) 7 (V + 1)) = true := by decide +kernel
set_option maxRecDepth 100000 in
theorem des_c : ∀ ask, ask < 2 → ∀ n, n < 6 → ∀ b, b < 4 → (rnE (rn ask 8 3 [n]) 13 3 && rnE (rn ask 8 3 [21, n]) 13 3 && rnE (rn ask 8 3 [6 + b, n]) 13 3 && rnE (rn ask 8 3 [21, 6 + b, n]) 13 3) = true := by decide +kernel
theorem and4 {a b c d : Bool} (h : (a && b && c && d) = true) : a = true ∧ b = true ∧ c = true ∧ d = true := by
  cases a <;> cases b <;> cases c <;> cases d <;> first | exact ⟨rfl, rfl, rfl, rfl⟩ | cases h
theorem des_tab1 (ask : Nat) (ha : ask < 2) (V : Nat) (hV : V < 5) (n : Nat) (hn : n < 6) : (rn ask 1 (V + 1) [n] = some (7, V + 1) ∧ rn ask 1 (V + 1) [21, n] = some (7, V + 1) ∧ rn ask 4 (V + 1) [n] = some (7, V + 1) ∧ rn ask 4 (V + 1) [21, n] = some (7, V + 1)) ∧ ∀ b, b < 4 → rn ask 1 (V + 1) [6 + b, n] = some (7, V + 1) ∧ rn ask 1 (V + 1) [21, 6 + b, n] = some (7, V + 1) ∧ rn ask 4 (V + 1) [6 + b, n] = some (7, V + 1) ∧ rn ask 4 (V + 1) [21, 6 + b, n] = some (7, V + 1) := by
  obtain ⟨a1, a2, a3, a4⟩ := and4 (des_a ask ha V hV n hn)
  refine ⟨⟨rnE_of a1, rnE_of a2, rnE_of a3, rnE_of a4⟩, fun b hb => ?_⟩
  obtain ⟨b1, b2, b3, b4⟩ := and4 (des_b ask ha V hV n hn b hb)
  exact ⟨rnE_of b1, rnE_of b2, rnE_of b3, rnE_of b4⟩
theorem des_tab2 (ask : Nat) (ha : ask < 2) (n : Nat) (hn : n < 6) : (rn ask 8 3 [n] = some (13, 3) ∧ rn ask 8 3 [21, n] = some (13, 3)) ∧ ∀ b, b < 4 → rn ask 8 3 [6 + b, n] = some (13, 3) ∧ rn ask 8 3 [21, 6 + b, n] = some (13, 3) := by
  obtain ⟨a1, a2, _⟩ := and4 (des_c ask ha n hn 0 (by decide))
  refine ⟨⟨rnE_of a1, rnE_of a2⟩, fun b hb => ?_⟩
  obtain ⟨_, _, b3, b4⟩ := and4 (des_c ask ha n hn b hb)
  exact ⟨rnE_of b3, rnE_of b4⟩
theorem DS_1 {ds : List Nat} (h : DS ds) {V : Nat} (hV : V < 5) : ∀ ask, ask < 2 → rn ask 1 (V + 1) ds = some (7, V + 1) := by
  intro ask ha
  obtain ⟨n, hn, h⟩ := h
  obtain ⟨t1, t2⟩ := des_tab1 ask ha V hV n hn
  rcases h with e | e | ⟨b, hb, e | e⟩
  · rw [e]; exact t1.1
  · rw [e]; exact t1.2.1
  · rw [e]; exact (t2 b hb).1
  · rw [e]; exact (t2 b hb).2.1
theorem DS_4 {ds : List Nat} (h : DS ds) {V : Nat} (hV : V < 5) : ∀ ask, ask < 2 → rn ask 4 (V + 1) ds = some (7, V + 1) := by
  intro ask ha
  obtain ⟨n, hn, h⟩ := h
  obtain ⟨t1, t2⟩ := des_tab1 ask ha V hV n hn
  rcases h with e | e | ⟨b, hb, e | e⟩
  · rw [e]; exact t1.2.2.1
  · rw [e]; exact t1.2.2.2
  · rw [e]; exact (t2 b hb).2.2.1
  · rw [e]; exact (t2 b hb).2.2.2
theorem DS_8 {ds : List Nat} (h : DS ds) : ∀ ask, ask < 2 → rn ask 8 3 ds = some (13, 3) := by
  intro ask ha
  obtain ⟨n, hn, h⟩ := h
  obtain ⟨t1, t2⟩ := des_tab2 ask ha n hn
  rcases h with e | e | ⟨b, hb, e | e⟩
  · rw [e]; exact t1.1
  · rw [e]; exact t1.2
  · rw [e]; exact (t2 b hb).1
  · rw [e]; exact (t2 b hb).2
theorem p_d115 {v w : gV} {ws : List Nat} {n : Nat} (h : INV v w) (hT : TYW w ws) (hn : n < 6) (hS : sumW ws ≤ 56) : ∃ v' w', sL_describe_115 1000 v (nI n) = some v' ∧ INV v' w' ∧ KP v v' w w' ∧ TYW w' (ws ++ [n]) := by
  obtain ⟨r, v', w', g1, g2, g3, g4⟩ := p_append h hT (show n < 25 by omega) (by have := len6 n (by omega); omega)
  unfold sL_describe_115
  rw [g1, ob]
  exact ⟨v', w', rfl, g2, g3, g4⟩
theorem p_d94 {v w : gV} {ws : List Nat} {c : Nat} {w1 w2 w3 : Int32} (h : INV v w) (hb : IB v w c) (hT : TYW w ws) (hS : sumW ws ≤ 56) (h3 : w3 = 0 ∨ (w3 = 1 ∧ ∃ k, k < c ∧ w2 = nI k)) : ∃ n v' w', n < 6 ∧ sL_describe_94 1000 v w1 w2 w3 = some v' ∧ INV v' w' ∧ KP v v' w w' ∧ TYW w' (ws ++ [n]) := by
  unfold sL_describe_94
  rcases h3 with e | ⟨e, k, hk, e2⟩
  · obtain ⟨n, hn, el⟩ := l_low (w1 >>> (4 &&& 31)) (n := 6) (by decide) (by decide)
    rw [if_pos e, show sL_low (w1 >>> (4 &&& 31)) 6 = some (nI n) from el, ob]
    obtain ⟨v', w', g⟩ := p_d115 h hT hn hS
    exact ⟨n, v', w', hn, g⟩
  · obtain ⟨⟨n, hn, en⟩, _⟩ := hb.1.2.2.2.1 k hk
    rw [e, if_neg one_ne, e2, q_noun hb hk, ob, en]
    obtain ⟨v', w', g⟩ := p_d115 h hT hn hS
    exact ⟨n, v', w', hn, g⟩
theorem p_d57 {v w : gV} {ws : List Nat} {c : Nat} {w1 w2 w3 : Int32} (h : INV v w) (hb : IB v w c) (hT : TYW w ws) (hS : sumW ws ≤ 51) (h3 : w3 = 0 ∨ (w3 = 1 ∧ ∃ k, k < c ∧ w2 = nI k)) : ∃ n ds v' w', n < 6 ∧ (ds = [n] ∨ ∃ b, b < 4 ∧ ds = [6 + b, n]) ∧ sL_describe_57 1000 v w1 w2 w3 = some v' ∧ INV v' w' ∧ KP v v' w w' ∧ TYW w' (ws ++ ds) := by
  have go : ∀ b, b < 4 → ∃ n ds v' w', n < 6 ∧ (ds = [n] ∨ ∃ b, b < 4 ∧ ds = [6 + b, n]) ∧ sL_describe_89 1000 v w1 w2 w3 6 (nI b) = some v' ∧ INV v' w' ∧ KP v v' w w' ∧ TYW w' (ws ++ ds) := by
    intro b hb4
    have hl := len6 (6 + b) (by omega)
    obtain ⟨r, v1, w1', g1, g2, g3, g4⟩ := p_append h hT (show 6 + b < 25 by omega) (by omega)
    unfold sL_describe_89
    rw [show (6 : Int32) + nI b = nI (6 + b) from nI_add 6 b, g1, ob]
    obtain ⟨n, v', w', hn, k1, k2, k3, k4⟩ := p_d94 (w1 := w1) g2 (KP_IB g3 hb) g4 (by rw [sumW_app]; show sumW ws + (lenW (6 + b) + 1 + 0) ≤ 56; omega) h3
    refine ⟨n, [6 + b, n], v', w', hn, Or.inr ⟨b, hb4, rfl⟩, k1, k2, KP_trans g3 k3, ?_⟩
    rw [List.append_assoc] at k4
    exact k4
  unfold sL_describe_57
  by_cases z : ((w1 >>> (6 &&& 31)) &&& 1) = 0
  · rw [if_pos z]
    rcases h3 with e | ⟨e, k, hk, e2⟩
    · obtain ⟨b, hb4, el⟩ := l_low (w1 >>> (7 &&& 31)) (n := 4) (by decide) (by decide)
      rw [if_pos e, show sL_low (w1 >>> (7 &&& 31)) 4 = some (nI b) from el, ob]
      exact go b hb4
    · obtain ⟨_, ⟨b, hb4, eb⟩, _⟩ := hb.1.2.2.2.1 k hk
      have := go b hb4
      rw [if_neg (by rw [e]; exact one_ne), e2, q_adjective hb hk, ob, eb, ← e2]
      exact this
  · rw [if_neg z]
    obtain ⟨n, v', w', hn, k⟩ := p_d94 (w1 := w1) h hb hT (by omega) h3
    exact ⟨n, [n], v', w', hn, Or.inl rfl, k⟩
theorem p_d41 {v w : gV} {ws : List Nat} {c : Nat} {w1 w2 w3 : Int32} (h : INV v w) (hb : IB v w c) (hT : TYW w ws) (hS : sumW ws ≤ 47) (h3 : w3 = 0 ∨ (w3 = 1 ∧ ∃ k, k < c ∧ w2 = nI k)) : ∃ ds v' w', DS ds ∧ sL_describe_41 1000 v w1 w2 w3 = some v' ∧ INV v' w' ∧ KP v v' w w' ∧ TYW w' (ws ++ ds) := by
  unfold sL_describe_41
  by_cases z : ((w1 >>> (5 &&& 31)) &&& 1) = 0
  · obtain ⟨r, v1, w1', g1, g2, g3, g4⟩ := p_append h hT (show 21 < 25 by omega) (by have : lenW 21 = 3 := rfl; omega)
    rw [if_pos z, show sX5_appendWord 1000 v 21 = some (r, v1) from g1, ob]
    obtain ⟨n, ds, v', w', hn, hd, k1, k2, k3, k4⟩ := p_d57 (w1 := w1) g2 (KP_IB g3 hb) g4 (by rw [sumW_app]; show sumW ws + (3 + 1 + 0) ≤ 51; omega) h3
    rw [List.append_assoc] at k4
    refine ⟨[21] ++ ds, v', w', ⟨n, hn, ?_⟩, k1, k2, KP_trans g3 k3, k4⟩
    rcases hd with e | ⟨b, hb4, e⟩
    · rw [e]; exact Or.inr (Or.inl rfl)
    · rw [e]; exact Or.inr (Or.inr ⟨b, hb4, Or.inr rfl⟩)
  · rw [if_neg z]
    obtain ⟨n, ds, v', w', hn, hd, k⟩ := p_d57 (w1 := w1) h hb hT (by omega) h3
    refine ⟨ds, v', w', ⟨n, hn, ?_⟩, k⟩
    rcases hd with e | ⟨b, hb4, e⟩
    · exact Or.inl e
    · exact Or.inr (Or.inr ⟨b, hb4, Or.inl e⟩)
theorem p_describe {v w : gV} {ws : List Nat} (h : INV v w) (hT : TYW w ws) (hS : sumW ws ≤ 47) (x : Int32) : ∃ ds v' w', DS ds ∧ sL_describe 1000 v x = some v' ∧ INV v' w' ∧ KP v v' w w' ∧ TYW w' (ws ++ ds) := by
  obtain ⟨c, hb⟩ := INV_b h
  have hb : IB v w c := hb
  have h12 := hb.1.1
  unfold sL_describe sL_describe_21
  rw [q_objects hb, ob, ob]
  by_cases z : c = 0
  · subst z
    rw [if_pos (show nI 0 = 0 from rfl), if_pos (show nI 0 ≤ 0 by decide)]
    exact p_d41 h hb hT hS (Or.inl rfl)
  · obtain ⟨k, hk, el⟩ := l_low (x >>> (3 &&& 31)) (n := c) (by omega) (by omega)
    rw [if_neg (show ¬ nI c = 0 from fun q => z ((nI_eq (b := 0) (by omega) (by decide)).mp q)), ob, el, ob, ob, if_neg (nI_nle (by omega) (by omega))]
    by_cases y : (x &&& 7) ≤ 0
    · rw [if_pos y]
      exact p_d41 h hb hT hS (Or.inl rfl)
    · rw [if_neg y]
      exact p_d41 h hb hT hS (Or.inr ⟨rfl, k, hk, rfl⟩)
def ST (ws : List Nat) (p i : Nat) : Prop := ∀ ask, ask < 2 → rn ask 0 0 ws = some (p, i)
theorem ST_app {ws ds : List Nat} {p i p' i' : Nat} (h : ST ws p i) (h2 : ∀ ask, ask < 2 → rn ask p i ds = some (p', i')) : ST (ws ++ ds) p' i' := fun ask ha => by
  rw [rn_app, h ask ha, ob]
  exact h2 ask ha
set_option maxRecDepth 100000 in
theorem ty_a : ∀ ask, ask < 2 → ∀ V, V < 5 → (rnE (rn ask 0 0 [10 + V]) 1 (V + 1) && rnE (rn ask 1 (V + 1) [17]) 2 (V + 1) && rnE (rn ask 2 (V + 1) [18]) 4 (V + 1) && rnE (rn ask 1 (V + 1) [22]) 3 (V + 1)) = true := by decide +kernel
set_option maxRecDepth 100000 in
theorem ty_b : ∀ ask, ask < 2 → ∀ V, V < 5 → (rnE (rn ask 1 (V + 1) [23]) 3 (V + 1) && rnE (rn ask 7 (V + 1) [19]) 4 (V + 1) && rnE (rn ask 2 3 [20]) 8 3 && rnE (rn ask 3 3 [20]) 8 3) = true := by decide +kernel
set_option maxRecDepth 100000 in
theorem ty_c : ∀ ask, ask < 2 → (rnE (rn ask 0 0 [15]) 13 6 && rnE (rn ask 0 0 [16]) 13 7 && rnE (rn ask 7 3 [20]) 8 3 && rnE (rn ask 8 3 [22]) 13 3) = true := by decide +kernel
theorem ty_tab (ask : Nat) (ha : ask < 2) : (∀ V, V < 5 → rn ask 0 0 [10 + V] = some (1, V + 1) ∧ rn ask 1 (V + 1) [17] = some (2, V + 1) ∧ rn ask 2 (V + 1) [18] = some (4, V + 1) ∧ rn ask 1 (V + 1) [22] = some (3, V + 1) ∧ rn ask 1 (V + 1) [23] = some (3, V + 1) ∧ rn ask 7 (V + 1) [19] = some (4, V + 1)) ∧ rn ask 0 0 [15] = some (13, 6) ∧ rn ask 0 0 [16] = some (13, 7) ∧ rn ask 2 3 [20] = some (8, 3) ∧ rn ask 3 3 [20] = some (8, 3) ∧ rn ask 7 3 [20] = some (8, 3) ∧ rn ask 8 3 [22] = some (13, 3) := by
  obtain ⟨c1, c2, c3, c4⟩ := and4 (ty_c ask ha)
  obtain ⟨_, _, d3, d4⟩ := and4 (ty_b ask ha 0 (by decide))
  refine ⟨fun V hV => ?_, rnE_of c1, rnE_of c2, rnE_of d3, rnE_of d4, rnE_of c3, rnE_of c4⟩
  obtain ⟨a1, a2, a3, a4⟩ := and4 (ty_a ask ha V hV)
  obtain ⟨b1, b2, _⟩ := and4 (ty_b ask ha V hV)
  exact ⟨rnE_of a1, rnE_of a2, rnE_of a3, rnE_of a4, rnE_of b1, rnE_of b2⟩
