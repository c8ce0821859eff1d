/-! each word's step; completion -/
theorem PI_congr {v v' : gV} {W : Nat → Int32} {p i m f : Nat} (h : PI v W p i m f) (h4 : v' 4 = v 4) (h5 : v' 5 = v 5) (h6 : v' 6 = v 6) : PI v' W p i m f := by
  unfold PI H0 HL H2 H7 HT HA HB Fin FinA LI CmdR at h ⊢
  rw [h4, h5, h6]
  exact h
theorem PI_and {v : gV} {W : Nat → Int32} {p i m f : Nat} (h : PI v W p i m f) : (p = 0 → H0 v m ∧ i = 0) ∧ (p = 1 → HL v W i m f 0 ∧ m = 1) ∧ (p = 2 → H2 v W i m f 1) ∧ (p = 3 → H2 v W i m f 2 ∨ H2 v W i m f 3) ∧ (p = 4 → HL v W i m f 0) ∧ (p = 5 → HL v W i m f 1) ∧ (p = 6 → HL v W i m f 2) ∧ (p = 7 → H7 v W i m f) ∧ (p = 8 → HT v W i m 0) ∧ (p = 9 → HT v W i m 1) ∧ (p = 10 → HT v W i m 2) ∧ (p = 11 → HA v W i m) ∧ (p = 12 → HB v W i m) ∧ (p = 13 → Fin v W m) := by
  unfold PI at h
  rcases h with ⟨e, h⟩ | ⟨e, h⟩ | ⟨e, h⟩ | ⟨e, h⟩ | ⟨e, h⟩ | ⟨e, h⟩ | ⟨e, h⟩ | ⟨e, h⟩ | ⟨e, h⟩ | ⟨e, h⟩ | ⟨e, h⟩ | ⟨e, h⟩ | ⟨e, h⟩ | ⟨e, h⟩ <;> subst e <;> refine ⟨?_, ?_, ?_, ?_, ?_, ?_, ?_, ?_, ?_, ?_, ?_, ?_, ?_, ?_⟩ <;> intro q <;> first | exact h | (exfalso; omega)
theorem PI_step {v u : gV} {W : Nat → Int32} {p ask i w q m f f' : Nat} (h : PI v W p i m f) (hW : eW W m) (ht : trB p ask i w q = true) (hw : w < 25) (hm : 3 * m ≤ f) (h60 : f + lenW w ≤ 60) (hf : f' = f + lenW w + 1) (hn : sX1_note v 4 (nI w) = some u) : PI u (upd W m (nI w)) q (idx i w) (m + 1) f' := by
  have hl2 := (len_tab w hw).1
  have hl3 := len3 w
  have ix : ¬ (10 ≤ w ∧ w < 17) → idx i w = i := fun q => if_neg q
  obtain ⟨g0, g1, g2, g3, g4, g5, g6, g7, g8, g9, g10, g11, g12, _⟩ := PI_and h
  simp only [trB, Bool.or_eq_true, decide_eq_true_eq] at ht
  unfold PI
  rcases ht with ⟨hp, hw1, hw2, hq⟩ | ⟨hp, hw1, hw2, hq⟩ | ⟨hp, hask, hw1, hq⟩ | ⟨hp, hask, hw1, hw2, hq⟩ | ⟨hp, hw1, hq⟩ | ⟨hp, hw1, hq⟩ | ⟨hp, hw1, hq⟩ | ⟨hp, hw1, hw2, hq⟩ | ⟨hp, hw1, hq⟩ | ⟨hp, hw1, hq⟩ | ⟨hp, hw1, hi, hq⟩ | ⟨hp, hw1, hq⟩ | ⟨hp, hw1, hq⟩ | ⟨hp, hw1, hq⟩ | ⟨hp, hw1, hw2, hq⟩ | ⟨hp, hw1, hq⟩ | ⟨hp, hw1, hw2, hq⟩ | ⟨hp, hw1, hq⟩
  · have h0 := (g0 hp).1
    right; left
    refine ⟨hq, ?_, by rw [h0.1]⟩
    rw [show idx i w = w - 9 from if_pos ⟨hw1, by omega⟩]
    exact H0_verb h0 hW (by omega) ⟨hw1, hw2⟩ hn
  · iterate 13 right
    exact ⟨hq, H0_walk (g0 hp).1 ⟨hw1, hw2⟩ hn⟩
  · subst hw1
    rw [ix (by omega), (g0 hp).2]
    iterate 11 right
    left
    exact ⟨hq, H0_the (g0 hp).1 hn⟩
  · rw [ix (by omega), (g0 hp).2]
    iterate 12 right
    left
    refine ⟨hq, ?_⟩
    obtain ⟨b, hb, e⟩ : ∃ b, b < 4 ∧ w = b + 6 := ⟨w - 6, by omega, by omega⟩
    subst e
    exact H0_adj (g0 hp).1 hb hn
  · subst hw1
    rw [ix (by omega)]
    iterate 2 right
    left
    exact ⟨hq, HL_form (g1 hp).1 (g1 hp).2 hW (by omega) (Or.inl ⟨rfl, rfl⟩) hn⟩
  · rw [ix (by omega)]
    iterate 3 right
    left
    refine ⟨hq, ?_⟩
    rcases hw1 with e | e
    · subst e
      exact Or.inl (HL_form (g1 hp).1 (g1 hp).2 hW (by omega) (Or.inr (Or.inl ⟨rfl, rfl⟩)) hn)
    · subst e
      exact Or.inr (HL_form (g1 hp).1 (g1 hp).2 hW (by omega) (Or.inr (Or.inr ⟨rfl, rfl⟩)) hn)
  · subst hw1
    rw [ix (by omega)]
    rw [note_o (by decide), (no_o v).2.2.2.2.1] at hn
    have hu := (Option.some.inj hn).symm
    subst hu
    iterate 5 right
    left
    refine ⟨hq, ?_⟩
    rcases hp with hp | hp
    · exact HL_the (g1 hp).1 hW (by omega)
    · exact HL_the (g4 hp) hW (by omega)
  · rw [ix (by omega)]
    obtain ⟨b, hb, e⟩ : ∃ b, b < 4 ∧ w = b + 6 := ⟨w - 6, by omega, by omega⟩
    have hl3 := hl3 (by omega)
    subst e
    iterate 6 right
    left
    refine ⟨hq, ?_⟩
    rcases hp with hp | hp | hp
    · exact HL_adj (g1 hp).1 (by decide) hW (by omega) hb (by omega) hn
    · exact HL_adj (g4 hp) (by decide) hW (by omega) hb (by omega) hn
    · exact HL_adj (g5 hp) (by decide) hW (by omega) hb (by omega) hn
  · rw [ix (by omega)]
    have hl3 := hl3 (by omega)
    iterate 7 right
    left
    refine ⟨hq, ?_⟩
    rcases hp with hp | hp | hp | hp
    · exact HL_noun (g1 hp).1 hW (by omega) hw1 (by omega) hn
    · exact HL_noun (g4 hp) hW (by omega) hw1 (by omega) hn
    · exact HL_noun (g5 hp) hW (by omega) hw1 (by omega) hn
    · exact HL_noun (g6 hp) hW (by omega) hw1 (by omega) hn
  · subst hw1
    rw [ix (by omega)]
    iterate 4 right
    left
    exact ⟨hq, H2_but (g2 hp) hW (by omega) hn⟩
  · subst hw1
    rw [ix (by omega)]
    iterate 8 right
    left
    refine ⟨hq, ?_⟩
    subst hi
    have h2 : ∀ form, (form = 1 ∨ form = 2 ∨ form = 3) → H2 v W 3 m f form → HT u (upd W m (nI 20)) 3 (m + 1) 0 := by
      intro form hform hh
      obtain ⟨vb, P, a1, a2, a3, a4, a5, a6, a7, a8⟩ := hh
      have : vb = 2 := by omega
      subst this
      exact HT_in a2 hW (fun q => by omega) (fun _ => ⟨a3, hform⟩) a4 (a6 0 (by decide)) a8 hn
    rcases hp with hp | hp | hp
    · exact h2 1 (Or.inl rfl) (g2 hp)
    · rcases g3 hp with g | g
      · exact h2 2 (Or.inr (Or.inl rfl)) g
      · exact h2 3 (Or.inr (Or.inr rfl)) g
    · obtain ⟨vb, form, L, P, a1, a2, a3, a4, a5, a6, a7, a8, a9, a10⟩ := g7 hp
      have : vb = 2 := by omega
      subst this
      exact HT_in a2 hW (fun _ => a6) (fun q => by omega) a4 a8 a10 hn
  · subst hw1
    rw [ix (by omega)]
    iterate 4 right
    left
    have hl19 : lenW 19 = 3 := by decide
    exact ⟨hq, H7_and (g7 hp) hW (by omega) hn⟩
  · subst hw1
    iterate 13 right
    exact ⟨hq, HT_it (g8 hp) (by omega) hW hn⟩
  · subst hw1
    rw [ix (by omega)]
    iterate 9 right
    left
    exact ⟨hq, HT_the (g8 hp) hW hn⟩
  · rw [ix (by omega)]
    obtain ⟨b, hb, e⟩ : ∃ b, b < 4 ∧ w = b + 6 := ⟨w - 6, by omega, by omega⟩
    subst e
    iterate 10 right
    left
    refine ⟨hq, ?_⟩
    rcases hp with hp | hp
    · exact HT_adj (g8 hp) (by decide) hW hb hn
    · exact HT_adj (g9 hp) (by decide) hW hb hn
  · iterate 13 right
    refine ⟨hq, ?_⟩
    rcases hp with hp | hp | hp
    · exact HT_noun (g8 hp) (by omega) hW hw1 hn
    · exact HT_noun (g9 hp) (by omega) hW hw1 hn
    · exact HT_noun (g10 hp) (by omega) hW hw1 hn
  · rw [ix (by omega)]
    obtain ⟨b, hb, e⟩ : ∃ b, b < 4 ∧ w = b + 6 := ⟨w - 6, by omega, by omega⟩
    subst e
    iterate 12 right
    left
    exact ⟨hq, HA_adj (g11 hp) hb hn⟩
  · iterate 13 right
    refine ⟨hq, ?_⟩
    rcases hw1 with e | e
    · subst e
      exact HB_one (g12 hp) hn
    · exact HB_noun (g12 hp) e hn
