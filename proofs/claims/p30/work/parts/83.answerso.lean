/-! isAnswerSo says yes -/
theorem TY0 {v w : gV} (h : INV v w) (h11 : v 1 1 = 0) : TYW w [] := by
  obtain ⟨⟨l, hB⟩, _⟩ := h
  have hl := hB.1
  have e : nI l = nI 0 := hB.2.1.symm.trans h11
  have : l = 0 := (nI_eq (by omega) (by decide)).mp e
  subst this
  exact ⟨0, by decide, hB.2.2.1, Or.inl ⟨rfl, rfl⟩⟩
theorem ask_of {v w : gV} (h : INV v w) (hq : v 8 7 ≠ 0) : ∃ c P, IB v w c ∧ w 84 55 = 1 ∧ w 84 57 = mk c P ∧ 1 < cn c P := by
  obtain ⟨c, hb, h2⟩ := h.2.2.1
  have hb : IB v w c := hb
  rcases h2 with ⟨_, _, e⟩ | ⟨e55, m, P, vb, L, j, _, _, _, _, _, _, _, _, _, e7, hc⟩
  · exact absurd (hb.2.2.2.2.2.2.2.1.trans e) hq
  · exact ⟨c, _, hb, e55, e7, hc⟩
theorem p_a15 {v : gV} {c j : Nat} {P : Nat → Bool} (x1 : Int32) (h12 : c ≤ 12) (hP : 0 < cn c P) (hj : j < 12) : ∃ o, o < c ∧ P o = true ∧ sL_isAnswerSo_15 1000 1000 v x1 (mk c P) (nI j) 0 = sL_isAnswerSo_49 1000 1000 v x1 (mk c P) (nI o) 0 0 := by
  have go : ∀ d t K, t + d = 12 → (∀ i, i < t → (decide ((j + i) % 12 < c) && P ((j + i) % 12)) = false) → ∃ o, o < c ∧ P o = true ∧ sL_isAnswerSo_15 1000 (K + 1 + d) v x1 (mk c P) (nI ((j + t) % 12)) (nI t) = sL_isAnswerSo_49 1000 1000 v x1 (mk c P) (nI o) 0 0 := by
    intro d
    induction d with
    | zero =>
      intro t K ht hz
      exfalso
      have : cn c P = 0 := by
        rw [cn_0]
        intro k hk
        have := hz ((k + 12 - j) % 12) (by omega)
        rw [show (j + (k + 12 - j) % 12) % 12 = k by omega, decide_eq_true hk, Bool.true_and] at this
        exact this
      omega
    | succ d ih =>
      intro t K ht hz
      have hm := Nat.mod_lt (j + t) (show 12 > 0 by decide)
      show ∃ o, o < c ∧ P o = true ∧ sL_isAnswerSo_15 1000 ((K + 1 + d) + 1) v x1 (mk c P) (nI ((j + t) % 12)) (nI t) = sL_isAnswerSo_49 1000 1000 v x1 (mk c P) (nI o) 0 0
      cases z : (decide ((j + t) % 12 < c) && P ((j + t) % 12)) with
      | false =>
        obtain ⟨o, o1, o2, o3⟩ := ih (t + 1) K (by omega) (fun i hi => by
          by_cases e : i = t
          · rw [e]; exact z
          · exact hz i (by omega))
        refine ⟨o, o1, o2, ?_⟩
        rw [← o3]
        conv => lhs; unfold sL_isAnswerSo_15
        rw [if_neg (show ¬ (12 : Int32) ≤ nI t from nI_ge (b := 12) (by omega) (by decide)), shr1 h12 P (by omega), z, if_pos bIf_eq, nI_1, nI_1, show nI ((j + t) % 12 + 1) - nI ((j + t) % 12 + 1) / 12 * 12 = nI (((j + t) % 12 + 1) % 12) from pk_rem (a := (j + t) % 12 + 1) (d := 12) (by omega) (by decide) (by decide), show ((j + t) % 12 + 1) % 12 = (j + (t + 1)) % 12 by omega]
      | true =>
        rw [Bool.and_eq_true, decide_eq_true_iff] at z
        refine ⟨(j + t) % 12, z.1, z.2, ?_⟩
        conv => lhs; unfold sL_isAnswerSo_15
        rw [if_neg (show ¬ (12 : Int32) ≤ nI t from nI_ge (b := 12) (by omega) (by decide)), shr1 h12 P (by omega), decide_eq_true z.1, z.2, if_neg (by decide)]
  obtain ⟨o, o1, o2, o3⟩ := go 12 0 987 (by decide) (fun i hi => by omega)
  refine ⟨o, o1, o2, ?_⟩
  rw [show (j + 0) % 12 = j by omega] at o3
  exact o3
/-- how many of them are like o -/
def alk (s : Nat → Int32) (P : Nat → Bool) (o k : Nat) : Bool := P k && decide (s (4 * k + 2) = s (4 * o + 2))
def sA (v : gV) (x1 w4 a : Int32) : Option (Int32 × gV) := (sX5_appendWord 1000 v (6 + a)).bind fun q_5 => if ((x1 >>> (4 &&& 31)) &&& 1) = 0 then ((sX5_appendWord 1000 q_5.2 24).bind fun q_8 => sL_isAnswerSo_126 1000 q_8.2 x1 w4) else (sL_isAnswerSo_126 1000 q_5.2 x1 w4)
theorem p_a49 {v w : gV} {c o : Nat} {P : Nat → Bool} (x1 : Int32) (hb : IB v w c) (ho : o < c) : sL_isAnswerSo_49 1000 1000 v x1 (mk c P) (nI o) 0 0 = sA v x1 (nI (cn c (alk (w 84) P o))) (w 84 (4 * o + 2)) := by
  have h12 := hb.1.1
  have go : ∀ d i K, i + d = c → sL_isAnswerSo_49 1000 (K + 1 + d) v x1 (mk c P) (nI o) (nI (cn i (alk (w 84) P o))) (nI i) = sA v x1 (nI (cn c (alk (w 84) P o))) (w 84 (4 * o + 2)) := by
    intro d
    induction d with
    | zero =>
      intro i K hi
      have : i = c := by omega
      subst this
      show sL_isAnswerSo_49 1000 (K + 1) v x1 (mk i P) (nI o) (nI (cn i (alk (w 84) P o))) (nI i) = _
      unfold sL_isAnswerSo_49
      rw [q_objects hb, ob, if_pos (s_ge (c := i) rfl rfl h12), q_adjective hb ho, ob]
      rfl
    | succ d ih =>
      intro i K hi
      have e := ih (i + 1) K (by omega)
      rw [← e]
      show sL_isAnswerSo_49 1000 ((K + 1 + d) + 1) v x1 (mk c P) (nI o) (nI (cn i (alk (w 84) P o))) (nI i) = _
      conv => lhs; unfold sL_isAnswerSo_49
      have ec : ∀ b : Bool, alk (w 84) P o i = b → cn (i + 1) (alk (w 84) P o) = cn i (alk (w 84) P o) + (if b = true then 1 else 0) := by
        intro b hb
        show cn i (alk (w 84) P o) + (if alk (w 84) P o i = true then 1 else 0) = _
        rw [hb]
      have z0 : ∀ m : Nat, nI m + 0 = nI m := fun m => Int32.add_zero (nI m)
      rw [q_objects hb, ob, if_neg (s_le (c := c) rfl (by omega) h12), shr1 h12 P (by omega), decide_eq_true (show i < c by omega), Bool.true_and]
      cases z : P i with
      | false =>
        rw [if_neg (by decide), nI_1, z0, ec false (by unfold alk; rw [z]; rfl)]
        rfl
      | true =>
        rw [if_pos bI_t, q_adjective hb (by omega), ob, q_adjective hb ho, ob]
        by_cases y : w 84 (4 * i + 2) = w 84 (4 * o + 2)
        · rw [if_pos y, nI_1, nI_1, ec true (by unfold alk; rw [z, decide_eq_true y]; rfl)]
          rfl
        · rw [if_neg y, nI_1, z0, ec false (by unfold alk; rw [z, decide_eq_false y]; rfl)]
          rfl
  have e := go c 0 (999 - c) (by omega)
  rw [show (999 - c) + 1 + c = 1000 by omega] at e
  exact e
def rnC (o : Option (Nat × Nat)) : Bool := match o with
  | none => false
  | some r => compB r.1 r.2
theorem rnC_of {o : Option (Nat × Nat)} (h : rnC o = true) : ∃ q j, o = some (q, j) ∧ compB q j = true := by
  cases o with
  | none => cases h
  | some r => exact ⟨r.1, r.2, rfl, h⟩
set_option maxRecDepth 100000 in
theorem ans_tab : ∀ b, b < 4 → rnC (rn 1 0 0 [6 + b]) = true ∧ rnC (rn 1 0 0 [6 + b, 24]) = true := by decide +kernel
theorem EQ_n5 {R : Int32} {s s' : Nat → Int32} (h : PO R s s') : R ≠ -5 := by
  rcases h with ⟨e, _⟩ | ⟨e | e | e, _⟩ | ⟨n, hn, e, _⟩
  · rw [e]; decide
  · rw [e]; decide
  · rw [e]; decide
  · rw [e]; decide
  · rw [e]; exact (show ∀ n, n < 13 → nI n ≠ -5 by decide +kernel) n (by omega)
theorem p_126 {v w : gV} {c b e o : Nat} {ws : List Nat} {P : Nat → Bool} (x1 : Int32) (h : INV v w) (hb : IB v w c) (hT : TYW w ws) (h55 : w 84 55 = 1) (h57 : w 84 57 = mk c P) (ho : o < c) (hPo : P o = true) (hb4 : b < 4) (eo : w 84 (4 * o + 2) = nI b) (hws : ws = [6 + b] ∨ ws = [6 + b, 24]) (hC : CTA v e) (he : e < 1000) : ∃ v' w', sL_isAnswerSo_126 1000 v x1 (nI (cn c (alk (w 84) P o))) = some (1, v') ∧ INV v' w' ∧ v' 1 1 = 0 ∧ CTA v' (e + 1) := by
  have h12 := hb.1.1
  have hne : ws ≠ [] := by rcases hws with q | q <;> rw [q] <;> simp
  have hl0 : 0 < ws.length := by rcases hws with q | q <;> rw [q] <;> simp
  have hl2 : ws.length ≤ 2 := by rcases hws with q | q <;> rw [q] <;> simp
  have hB0 : ws.getD 0 0 = 6 + b := by rcases hws with q | q <;> rw [q] <;> rfl
  have hacc1 : ∃ q j, rn 1 0 0 ws = some (q, j) ∧ compB q j = true := by
    rcases hws with q | q
    · rw [q]; exact rnC_of (ans_tab b hb4).1
    · rw [q]; exact rnC_of (ans_tab b hb4).2
  have hacc : ACC w ws := by
    intro ask ha h5
    have : ask = 1 := (nI_eq (b := 1) (by omega) (by decide)).mp (h5.symm.trans h55)
    rw [this]
    exact hacc1
  obtain ⟨q, j, hr, hc⟩ := hacc1
  obtain ⟨w1, r1, r2, r3, r4⟩ := p_read h hT hne (ask := 1) (by decide) h55 hr hc
  obtain ⟨R, V, W, m, m1, m2, _, b4, _, ⟨v1, i1, i2, i3⟩, _, _⟩ := p_both h r1 r2
  have em : m = ws.length := (nI_eq (by omega) (by omega)).mp (m1.symm.trans r3)
  have eB0 : w1 88 0 = nI (6 + b) := by rw [r4 0 hl0, hB0]
  have hcl := cn_le c (alk (w 84) P o)
  have hself : alk (w 84) P o o = true := by unfold alk; rw [hPo, decide_eq_true rfl]; rfl
  have hpos : cn c (alk (w 84) P o) ≠ 0 := fun q => by
    have := cn_0.mp q o ho
    rw [hself] at this
    exact absurd this (by decide)
  have key : (R = -5 ∧ 1 < cn c (alk (w 84) P o)) ∨ (R ≠ -5 ∧ cn c (alk (w 84) P o) ≤ 1) := by
    rcases b4 with ⟨_, vb, hv, q⟩ | ⟨a0, b', X, h1, h2, h3, h4, h5⟩
    · exfalso
      have := (nI_eq (by omega) (by omega)).mp (eB0.symm.trans q)
      omega
    · have ea : a0 = 0 := by
        rcases h1 with ⟨q, _⟩ | ⟨_, q⟩
        · exfalso
          have := (nI_eq (a := 6 + b) (b := 21) (by omega) (by decide)).mp (eB0.symm.trans q)
          omega
        · exact q
      subst ea
      have eb : b' = b := by
        have := (nI_eq (by omega) (by omega)).mp (h3.symm.trans eB0)
        omega
      subst eb
      have eX : X = -1 := by
        rcases h4 with ⟨q, _⟩ | ⟨x, hx, hm, _, q⟩
        · exact q
        · exfalso
          rw [em] at hm
          rcases hws with z | z
          · rw [z] at hm; exact absurd hm (by simp)
          · have := r4 1 hm
            rw [z] at this
            have := (nI_eq (a := x) (b := 24) (by omega) (by decide)).mp (q.symm.trans this)
            omega
      subst eX
      have ecn : cn c (fun k => bt (w 84 57) k && fitB (w 84) (-1) (nI b') k) = cn c (alk (w 84) P o) := by
        refine cn_congr fun k hk => ?_
        rw [h57, bt_mk (by omega)]
        unfold fitB alk
        rw [decide_eq_true hk, eo, decide_eq_true (rfl : (-1 : Int32) = -1), decide_eq_false (show ¬ nI b' = -1 from nI_m1 (by omega)), Bool.true_or, Bool.true_and, Bool.true_and, Bool.false_or]
      rcases h5 with ⟨q1, _, q2⟩ | ⟨q1, q2⟩
      · have := q2 c hb.1
        rw [ecn] at this
        exact Or.inl ⟨q1, by omega⟩
      · have := q2 c hb.1
        rw [ecn] at this
        exact Or.inr ⟨EQ_n5 q1, by omega⟩
  have fin : ∀ t, ∃ v' w', sL_isAnswerSo_155 1000 v1 x1 t t = some (1, v') ∧ INV v' w' ∧ v' 1 1 = 0 ∧ CTA v' (e + 1) := by
    intro t
    have hC1 : CTA v1 e := CTA_cell hC (fun k q => i3 k (by omega))
    have go : ∀ u, ∃ v' w', sL_isAnswerSo_172 1000 v1 u = some (1, v') ∧ INV v' w' ∧ v' 1 1 = 0 ∧ CTA v' (e + 1) := by
      intro u
      obtain ⟨v', w', k1, k2, k3, _, k5⟩ := p_isEnterSo (u := u) i2 hT hne hacc (Or.inl h55) hC1 he
      unfold sL_isAnswerSo_172
      rw [k1, ob, if_neg one_ne]
      exact ⟨v', w', rfl, k2, k3, k5⟩
    unfold sL_isAnswerSo_155
    rw [if_pos rfl]
    split
    · exact go 1
    · exact go 0
  unfold sL_isAnswerSo_126 sL_isAnswerSo_144
  rw [i1, ob]
  dsimp only
  rcases key with ⟨q1, q2⟩ | ⟨q1, q2⟩
  · rw [if_pos q1, if_neg (show ¬ nI _ ≤ 1 from nI_ge (a := 1) q2 (by omega))]
    exact fin 1
  · rw [if_neg q1, if_pos (show nI _ ≤ 1 from nI_le (b := 1) q2 (by decide))]
    exact fin 0
theorem p_isAnswerSo {v w : gV} {e : Nat} (h : INV v w) (h11 : v 1 1 = 0) (hq : v 8 7 ≠ 0) (hC : CTA v e) (he : e < 1000) (x : Int32) : ∃ v' w', sL_isAnswerSo 1000 v x = some (1, v') ∧ INV v' w' ∧ v' 1 1 = 0 ∧ CTA v' (e + 1) := by
  obtain ⟨c, P, hb, h55, h57, hcn⟩ := ask_of h hq
  have h12 := hb.1.1
  obtain ⟨j, hj, ej⟩ := l_low x (n := 12) (by decide) (by decide)
  obtain ⟨o, ho, hPo, e15⟩ := p_a15 (v := v) x h12 (by omega : 0 < cn c P) hj
  obtain ⟨_, ⟨b, hb4, eb⟩, _⟩ := hb.1.2.2.2.1 o ho
  unfold sL_isAnswerSo
  rw [q_candidates hb, ob, show sL_low x 12 = some (nI j) from ej, ob, h57, e15, p_a49 x hb ho]
  unfold sA
  have hl := len6 (6 + b) (by omega)
  obtain ⟨r, v1, w1, g1, g2, g3, g4⟩ := p_append h (TY0 h h11) (show 6 + b < 25 by omega) (by show 0 + lenW (6 + b) ≤ 60; omega)
  have e84 := g3.2.1 84 (by decide) (by decide)
  have ec : alk (w 84) P o = alk (w1 84) P o := by rw [e84]
  have hC1 : CTA v1 e := CTA_cell hC (fun k q => g3.1 k (by omega) (by omega))
  rw [eb, show (6 : Int32) + nI b = nI (6 + b) from nI_add 6 b, g1, ob, ec]
  dsimp only
  by_cases z : ((x >>> (4 &&& 31)) &&& 1) = 0
  · obtain ⟨r2, v2, w2, k1, k2, k3, k4⟩ := p_append g2 g4 (show 24 < 25 by omega) (by have : lenW 24 = 3 := rfl; show (lenW (6 + b) + 1 + 0) + lenW 24 ≤ 60; omega)
    have e842 := k3.2.1 84 (by decide) (by decide)
    have hC2 : CTA v2 e := CTA_cell hC1 (fun k q => k3.1 k (by omega) (by omega))
    rw [if_pos z, show sX5_appendWord 1000 v1 24 = some (r2, v2) from k1, ob, show alk (w1 84) P o = alk (w2 84) P o by rw [e842]]
    exact p_126 x k2 (KP_IB k3 (KP_IB g3 hb)) k4 (by rw [e842, e84]; exact h55) (by rw [e842, e84]; exact h57) ho hPo hb4 (by rw [e842, e84]; exact eb) (Or.inr rfl) hC2 he
  · rw [if_neg z]
    exact p_126 x g2 (KP_IB g3 hb) g4 (by rw [e84]; exact h55) (by rw [e84]; exact h57) ho hPo hb4 (by rw [e84]; exact eb) (Or.inl rfl) hC1 he
