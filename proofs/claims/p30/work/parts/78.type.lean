/-! a command is typed -/
/-- typed on: the verb, the picture's rest as it was, a longer list of words -/
def TR (v w : gV) (ws : List Nat) (V : Nat) (R : Option (Int32 × gV)) : Prop := ∃ v' w' ds q, R = some (nI V, v') ∧ INV v' w' ∧ KP v v' w w' ∧ TYW w' (ws ++ ds) ∧ ST (ws ++ ds) q (V + 1) ∧ compB q (V + 1) = true
theorem TR_app {v v1 w w1 : gV} {ws ds : List Nat} {V : Nat} {R : Option (Int32 × gV)} (h : KP v v1 w w1) (hR : TR v1 w1 (ws ++ ds) V R) : TR v w ws V R := by
  obtain ⟨v', w', ds', q, a1, a2, a3, a4, a5, a6⟩ := hR
  rw [List.append_assoc] at a4 a5
  exact ⟨v', w', ds ++ ds', q, a1, a2, KP_trans h a3, a4, a5, a6⟩
theorem TR_0 {v w : gV} {ws : List Nat} {V q : Nat} (h : INV v w) (hT : TYW w ws) (hs : ST ws q (V + 1)) (hc : compB q (V + 1) = true) : TR v w ws V (some (nI V, v)) := ⟨v, w, [], q, rfl, h, KP_refl _ _, by rw [List.append_nil]; exact hT, by rw [List.append_nil]; exact hs, hc⟩
theorem and3 (x : Int32) : ∃ b, b < 4 ∧ (x &&& 3) = nI b := pk_andE x (m := 3) 2 (by decide)
theorem p_t172 {v w : gV} {ws : List Nat} (w1 : Int32) (h : INV v w) (hT : TYW w ws) (hs : ST ws 8 3) (hS : sumW ws ≤ 47) : TR v w ws 2 (sL_type_151 1000 v w1 2) := by
  have e2 : ∀ U, sL_type_172 1000 U w1 2 = if ((w1 >>> (12 &&& 31)) &&& 3) ≤ 0 then (some ((2 : Int32), U)) else ((sL_describe 1000 U (w1 >>> (2 &&& 31))).bind fun q_6 => some ((2 : Int32), q_6)) := by
    intro U
    unfold sL_type_172
    rw [if_pos rfl]
  unfold sL_type_151
  rw [if_pos rfl, e2]
  obtain ⟨b, hb, eb⟩ := and3 (w1 >>> (12 &&& 31))
  rw [eb]
  by_cases z : b = 0
  · subst z
    obtain ⟨r, v1, w1', g1, g2, g3, g4⟩ := p_append h hT (show 22 < 25 by omega) (by have : lenW 22 = 2 := rfl; omega)
    rw [if_pos (show nI 0 = 0 from rfl), show sX5_appendWord 1000 v 22 = some (r, v1) from g1, ob, e2, eb, if_pos (show nI 0 ≤ 0 by decide)]
    exact TR_app g3 (TR_0 (V := 2) (q := 13) g2 g4 (ST_app hs (fun ask ha => (ty_tab ask ha).2.2.2.2.2.2)) (by decide))
  · rw [if_neg (show ¬ nI b = 0 from fun q => z ((nI_eq (b := 0) (by omega) (by decide)).mp q)), if_neg (nI_nle (by omega) (by omega))]
    obtain ⟨ds, v', w', hd, g1, g2, g3, g4⟩ := p_describe h hT hS (w1 >>> (2 &&& 31))
    rw [g1, ob]
    exact TR_app g3 (TR_0 (V := 2) (q := 13) g2 g4 (ST_app hs (DS_8 hd)) (by decide))
theorem nI2 {V : Nat} (hV : V < 7) : nI V = 2 ↔ V = 2 := nI_eq (b := 2) (by omega) (by decide)
def bnd (V x : Nat) : Nat := if V = 2 then x else x + 2
theorem bnd_le (V x : Nat) : bnd V x ≤ x + 2 := by unfold bnd; split <;> omega
theorem bnd_2 {V : Nat} (h : V = 2) (x : Nat) : bnd V x = x := if_pos h
theorem bnd_ge (V x : Nat) : x ≤ bnd V x := by unfold bnd; split <;> omega
theorem bnd_add (V x y : Nat) : bnd V (x + y) = bnd V x + y := by unfold bnd; split <;> omega
theorem bnd_mono {V x y : Nat} (h : x ≤ y) : bnd V x ≤ bnd V y := by unfold bnd; split <;> omega
theorem p_t139 {v w : gV} {ws : List Nat} {V q : Nat} (w1 : Int32) (h : INV v w) (hT : TYW w ws) (hV : V < 5) (hq : q = 2 ∨ q = 3 ∨ q = 7) (hs : ST ws q (V + 1)) (hS : sumW ws ≤ bnd V 44) : TR v w ws V (sL_type_139 1000 v w1 (nI V)) := by
  by_cases z : V = 2
  · subst z
    rw [bnd_2 rfl] at hS
    obtain ⟨r, v1, w1', g1, g2, g3, g4⟩ := p_append h hT (show 20 < 25 by omega) (by have : lenW 20 = 2 := rfl; omega)
    unfold sL_type_139
    rw [if_pos (show nI 2 = 2 from rfl), show sX5_appendWord 1000 v 20 = some (r, v1) from g1, ob]
    refine TR_app g3 (p_t172 w1 g2 g4 (ST_app hs fun ask ha => ?_) (by rw [sumW_app]; show sumW ws + (2 + 1 + 0) ≤ 47; omega))
    obtain ⟨_, _, _, t1, t2, t3, _⟩ := ty_tab ask ha
    rcases hq with e | e | e
    · rw [e]; exact t1
    · rw [e]; exact t2
    · rw [e]; exact t3
  · have n2 : ¬ nI V = 2 := fun e => z ((nI2 (by omega)).mp e)
    unfold sL_type_139 sL_type_151 sL_type_172
    rw [if_neg n2, if_neg n2, if_neg n2]
    refine TR_0 h hT hs ?_
    unfold compB
    rw [decide_eq_false (show ¬ V + 1 = 3 by omega)]
    rcases hq with e | e | e <;> rw [e] <;> rfl
theorem p_t116 {v w : gV} {ws : List Nat} {V : Nat} (w1 w2 : Int32) (h : INV v w) (hT : TYW w ws) (hV : V < 5) (hs : ST ws 7 (V + 1)) (hS : sumW ws ≤ bnd V 26) : TR v w ws V (sL_type_116 1000 v w1 w2 (nI V)) := by
  have b1 := bnd_le V 26
  unfold sL_type_116
  by_cases z : ((w2 >>> (11 &&& 31)) &&& 3) = 0
  · obtain ⟨r, v1, w1', g1, g2, g3, g4⟩ := p_append h hT (show 19 < 25 by omega) (by have : lenW 19 = 3 := rfl; omega)
    have e4 : sumW (ws ++ [19]) = sumW ws + 4 := by rw [sumW_app]; rfl
    obtain ⟨ds, v', w', hd, k1, k2, k3, k4⟩ := p_describe g2 g4 (by omega) (w2 >>> (4 &&& 31))
    have e5 := DS_sum hd
    have e6 : bnd V 44 = bnd V 26 + 18 := bnd_add V 26 18
    rw [if_pos z, show sX5_appendWord 1000 v 19 = some (r, v1) from g1, ob]
    dsimp only
    rw [k1, ob]
    exact TR_app g3 (TR_app k3 (p_t139 w1 k2 k4 hV (Or.inr (Or.inr rfl)) (ST_app (ST_app hs fun ask ha => ((ty_tab ask ha).1 V hV).2.2.2.2.2) (DS_4 hd hV)) (by rw [sumW_app]; omega)))
  · rw [if_neg z]
    exact p_t139 w1 h hT hV (Or.inr (Or.inr rfl)) hs (Nat.le_trans hS (bnd_mono (by decide)))
theorem p_t99 {v w : gV} {ws : List Nat} {V kd p : Nat} (w1 w2 : Int32) (h : INV v w) (hT : TYW w ws) (hV : V < 5) (hk : kd = 1 ∨ 3 < kd) (hk8 : kd < 8) (hp : p = 1 ∨ p = 4) (hs : ST ws p (V + 1)) (hS : sumW ws ≤ bnd V 12) : TR v w ws V (sL_type_99 1000 v w1 w2 (nI V) (nI kd)) := by
  have b1 := bnd_le V 12
  obtain ⟨ds, v', w', hd, k1, k2, k3, k4⟩ := p_describe h hT (by omega) w2
  have e5 := DS_sum hd
  have e6 : bnd V 26 = bnd V 12 + 14 := bnd_add V 12 14
  unfold sL_type_99 sL_type_104
  rw [k1, ob]
  have go : TR v w ws V (sL_type_116 1000 v' w1 w2 (nI V)) := TR_app k3 (p_t116 w1 w2 k2 k4 hV (ST_app hs (by
    rcases hp with e | e
    · rw [e]; exact DS_1 hd hV
    · rw [e]; exact DS_4 hd hV)) (by rw [sumW_app]; omega))
  rcases hk with e | e
  · rw [if_pos (show nI kd = 1 by rw [e]; rfl)]
    exact go
  · rw [if_neg (show ¬ nI kd = 1 from fun y => by have := (nI_eq (b := 1) (by omega) (by decide)).mp y; omega), if_neg (show ¬ nI kd ≤ 3 from nI_ge (a := 3) e (by omega))]
    exact go
theorem p_type {v w : gV} (h : INV v w) (hT : TYW w []) (x1 x2 : Int32) : ∃ V, V < 7 ∧ TR v w [] V (sL_type 1000 v x1 x2) := by
  obtain ⟨q, hq, el⟩ := l_low (x1 >>> (4 &&& 31)) (n := 8) (by decide) (by decide)
  have eV : nI q - nI q / 7 * 7 = nI (q % 7) := pk_rem (a := q) (d := 7) (by omega) (by decide) (by decide)
  refine ⟨q % 7, Nat.mod_lt _ (by decide), ?_⟩
  have hV7 : q % 7 < 7 := Nat.mod_lt _ (by decide)
  unfold sL_type
  rw [show sL_low (x1 >>> (4 &&& 31)) 8 = some (nI q) from el, ob, eV, show (10 : Int32) + nI (q % 7) = nI (10 + q % 7) from nI_add 10 (q % 7)]
  generalize q % 7 = V at hV7 ⊢
  have hl := (show ∀ V, V < 7 → lenW (10 + V) + 1 ≤ bnd V 4 by decide +kernel) V hV7
  have b4 := bnd_le V 4
  obtain ⟨r, v1, w1', g1, g2, g3, g4⟩ := p_append h hT (show 10 + V < 25 by omega) (by show 0 + lenW (10 + V) ≤ 60; omega)
  rw [g1, ob]
  by_cases z : V ≤ 4
  · rw [if_pos (show nI V ≤ 4 from nI_le (b := 4) z (by decide))]
    have hV : V < 5 := by omega
    have hs1 : ST ([] ++ [10 + V]) 1 (V + 1) := fun ask ha => ((ty_tab ask ha).1 V hV).1
    have e1 : sumW ([] ++ [10 + V]) ≤ bnd V 4 := by show lenW (10 + V) + 1 + 0 ≤ bnd V 4; omega
    obtain ⟨kd, hk, ek⟩ := l_low (x1 >>> (8 &&& 31)) (n := 8) (by decide) (by decide)
    rw [show sL_low (x1 >>> (8 &&& 31)) 8 = some (nI kd) from ek, ob]
    have nk : ∀ j, j < 8 → kd ≠ j → ¬ nI kd = nI j := fun j hj ne q => ne ((nI_eq (by omega) (by omega)).mp q)
    have n1 : kd ≠ 1 → ¬ nI kd = 1 := fun ne => nk 1 (by decide) ne
    have n2 : kd ≠ 2 → ¬ nI kd = 2 := fun ne => nk 2 (by decide) ne
    have n3 : kd ≠ 3 → ¬ nI kd = 3 := fun ne => nk 3 (by decide) ne
    have a1 : bnd V 8 = bnd V 4 + 4 := bnd_add V 4 4
    have a2 : bnd V 12 = bnd V 8 + 4 := bnd_add V 8 4
    have a3 : bnd V 9 = bnd V 4 + 5 := bnd_add V 4 5
    refine TR_app (ds := [10 + V]) g3 ?_
    dsimp only
    by_cases k0 : kd = 0
    · subst k0
      obtain ⟨r2, v2, w2', f1, f2, f3, f4⟩ := p_append g2 g4 (show 17 < 25 by omega) (by have : lenW 17 = 3 := rfl; omega)
      rw [if_neg (show ¬ (2 : Int32) ≤ nI 0 by decide), show sX5_appendWord 1000 v1 17 = some (r2, v2) from f1, ob]
      unfold sL_type_52 sL_type_65 sL_type_87 sL_type_104
      rw [if_neg (n1 (by decide)), if_neg (n2 (by decide)), if_neg (n3 (by decide)), if_neg (n1 (by decide)), if_pos (show nI 0 ≤ 3 by decide), if_neg (n1 (by decide)), if_pos (show nI 0 ≤ 3 by decide)]
      exact TR_app f3 (p_t139 x1 f2 f4 hV (Or.inl rfl) (ST_app hs1 fun ask ha => ((ty_tab ask ha).1 V hV).2.1) (Nat.le_trans (by rw [sumW_app]; show _ + (3 + 1 + 0) ≤ bnd V 8; omega) (bnd_mono (show 8 ≤ 44 by decide))))
    · by_cases k1 : kd = 1
      · subst k1
        obtain ⟨r2, v2, w2', f1, f2, f3, f4⟩ := p_append g2 g4 (show 17 < 25 by omega) (by have : lenW 17 = 3 := rfl; omega)
        have e8 : sumW (([] ++ [10 + V]) ++ [17]) ≤ bnd V 8 := by rw [sumW_app]; show _ + (3 + 1 + 0) ≤ bnd V 8; omega
        have b8 := bnd_le V 8
        obtain ⟨r3, v3, w3', d1, d2, d3, d4⟩ := p_append f2 f4 (show 18 < 25 by omega) (by have : lenW 18 = 3 := rfl; omega)
        rw [if_neg (show ¬ (2 : Int32) ≤ nI 1 by decide), show sX5_appendWord 1000 v1 17 = some (r2, v2) from f1, ob]
        unfold sL_type_52
        dsimp only
        rw [if_pos (show nI 1 = 1 from rfl), show sX5_appendWord 1000 v2 18 = some (r3, v3) from d1, ob]
        unfold sL_type_65 sL_type_87
        rw [if_neg (n2 (by decide)), if_neg (n3 (by decide)), if_pos (show nI 1 = 1 from rfl)]
        exact TR_app f3 (TR_app d3 (p_t99 x1 x2 d2 d4 hV (Or.inl rfl) (by decide) (Or.inr rfl) (ST_app (ST_app hs1 fun ask ha => ((ty_tab ask ha).1 V hV).2.1) fun ask ha => ((ty_tab ask ha).1 V hV).2.2.1) (by rw [sumW_app]; show _ + (3 + 1 + 0) ≤ bnd V 12; omega)))
      · rw [if_pos (show (2 : Int32) ≤ nI kd from nI_le (a := 2) (by omega) (by omega))]
        unfold sL_type_52 sL_type_65
        rw [if_neg (n1 k1)]
        have f23 : ∀ wd p', wd = 22 ∨ wd = 23 → (∀ ask, ask < 2 → rn ask 1 (V + 1) [wd] = some (3, V + 1)) → nI kd ≤ 3 → p' = 3 → TR v1 w1' ([] ++ [10 + V]) V ((sX5_appendWord 1000 v1 (nI wd)).bind fun q_4 => sL_type_87 1000 q_4.2 x1 x2 (nI V) (nI kd)) := by
          intro wd p' hwd hrn hle _
          have hlw : lenW wd ≤ 4 := by rcases hwd with e | e <;> rw [e] <;> decide
          have hlt : wd < 25 := by omega
          obtain ⟨r2, v2, w2', f1, f2, f3, f4⟩ := p_append g2 g4 hlt (by omega)
          rw [f1, ob]
          unfold sL_type_87 sL_type_104
          rw [if_neg (n1 k1), if_pos hle, if_neg (n1 k1), if_pos hle]
          exact TR_app f3 (p_t139 x1 f2 f4 hV (Or.inr (Or.inl rfl)) (ST_app hs1 hrn) (Nat.le_trans (by rw [sumW_app]; show _ + (lenW wd + 1 + 0) ≤ bnd V 9; omega) (bnd_mono (show 9 ≤ 44 by decide))))
        by_cases k2 : kd = 2
        · have := f23 22 3 (Or.inl rfl) (fun ask ha => ((ty_tab ask ha).1 V hV).2.2.2.1) (by rw [k2]; decide) rfl
          rw [if_pos (show nI kd = 2 by rw [k2]; rfl)]
          unfold sL_type_77
          rw [show (20 : Int32) + nI kd = nI 22 by rw [k2]; rfl]
          exact this
        · by_cases k3 : kd = 3
          · have := f23 23 3 (Or.inr rfl) (fun ask ha => ((ty_tab ask ha).1 V hV).2.2.2.2.1) (by rw [k3]; decide) rfl
            rw [if_neg (n2 k2), if_pos (show nI kd = 3 by rw [k3]; rfl)]
            unfold sL_type_77
            rw [show (20 : Int32) + nI kd = nI 23 by rw [k3]; rfl]
            exact this
          · rw [if_neg (n2 k2), if_neg (n3 k3)]
            unfold sL_type_87
            rw [if_neg (n1 k1), if_neg (show ¬ nI kd ≤ 3 from nI_ge (a := 3) (by omega) (by omega))]
            exact p_t99 x1 x2 g2 g4 hV (Or.inr (by omega)) hk (Or.inl rfl) hs1 (Nat.le_trans e1 (bnd_mono (by decide)))
  · rw [if_neg (show ¬ nI V ≤ 4 from nI_ge (a := 4) (by omega) (by omega))]
    refine TR_app (ds := [10 + V]) g3 (TR_0 (q := 13) g2 g4 (fun ask ha => ?_) (by unfold compB; rfl))
    obtain ⟨_, t5, t6, _⟩ := ty_tab ask ha
    have : V = 5 ∨ V = 6 := by omega
    rcases this with e | e
    · rw [e]; exact t5
    · rw [e]; exact t6
