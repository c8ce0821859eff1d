/-! the buffer's methods, both sides -/
def MS (v w : gV) (a b : Nat) (C : Option ((Nat ⊕ Int32) × gV)) (R : Option (Int32 × gV)) : Prop := ∃ o v' r w', C = some (o, v') ∧ R = some (r, w') ∧ CF v v' ∧ RF w w' ∧ INV v' w' ∧ MT a b o r w'
theorem MS_0 {v w : gV} {a b : Nat} {C : Option ((Nat ⊕ Int32) × gV)} {R : Option (Int32 × gV)} {y : Int32} {v' w' : gV} (hC : C = some (.inr y, v')) (hR : R = some (y, w')) (h1 : CF v v') (h2 : RF w w') (h3 : INV v' w') (h4 : w' 81 8 = 0) : MS v w a b C R := ⟨_, _, _, _, hC, hR, h1, h2, h3, Or.inr (Or.inr ⟨y, rfl, rfl, h4⟩)⟩
theorem MS_1 {v w : gV} {a b : Nat} {C : Option ((Nat ⊕ Int32) × gV)} {R : Option (Int32 × gV)} (h : INV v w) (hC : C = some (.inl a, v)) (hR : R = some (0, up (up w 81 8 0) 81 8 1)) : MS v w a b C R := ⟨_, _, _, _, hC, hR, CF_refl _, RF_trans (RF_81 _ _ _) (RF_81 _ _ _), INV_81 (INV_81 h (by decide) (by decide) _) (by decide) (by decide) _, Or.inl ⟨rfl, up_s _ _ _ _⟩⟩
theorem MS_2 {v w : gV} {a b : Nat} {C : Option ((Nat ⊕ Int32) × gV)} {R : Option (Int32 × gV)} (hab : a ≠ b) (h : INV v w) (hC : C = some (.inl b, v)) (hR : R = some (0, up (up w 81 8 0) 81 8 2)) : MS v w a b C R := ⟨_, _, _, _, hC, hR, CF_refl _, RF_trans (RF_81 _ _ _) (RF_81 _ _ _), INV_81 (INV_81 h (by decide) (by decide) _) (by decide) (by decide) _, Or.inr (Or.inl ⟨hab, rfl, up_s _ _ _ _⟩)⟩
/-- the buffer with one more character -/
def adC (v : gV) (l : Nat) (y : Int32) : gV := up (up v 2 l y) 1 1 (nI (l + 1))
def adM (w : gV) (l : Nat) (y : Int32) : gV := up (up w 87 l y) 81 7 (nI (l + 1))
set_option maxRecDepth 100000 in
theorem chr_tab : ∀ x, x < 128 → vp_nar .char (nI x) = nI x ∧ ((nI x).toUInt32 % 65536).toInt32 = nI x := by decide +kernel
theorem BR_ad {v w : gV} {l x : Nat} (h : BR v w l) (hl : l < 60) (hx : x < 128) : BR (adC v l (nI x)) (adM w l (nI x)) (l + 1) := by
  obtain ⟨h1, h2, h3, h4⟩ := h
  unfold adC adM
  refine ⟨by omega, up_s _ _ _ _, up_s _ _ _ _, fun i hi => ?_⟩
  rw [up_r _ _ _ _ (by decide : (2 : Nat) ≠ 1), up_r _ _ _ _ (by decide : (87 : Nat) ≠ 81)]
  by_cases e : i = l
  · rw [e, up_s, up_s]
    exact ⟨rfl, x, hx, rfl⟩
  · rw [up_c _ _ _ _ e, up_c _ _ _ _ e]
    exact h4 i (by omega)
theorem k_add {v w : gV} {l x : Nat} (h : BR v w l) (hl : l < 60) (hx : x < 128) : sX0_add v (nI x) = some (adC v l (nI x)) := by
  unfold sX0_add adC
  rw [h.2.1, if_neg (nI_pos (by omega)), if_neg (show ¬ (60 : Int32) ≤ nI l from nI_ge (b := 60) hl (by decide)), if_pos (nI_in (by omega) (by decide)), nI_clamp (by omega), ob, ob, (chr_tab x hx).1, up_r _ _ _ _ (by decide : (1 : Nat) ≠ 2), h.2.1, nI_1]
theorem adC_k (v : gV) (l : Nat) (y : Int32) {k : Nat} (h : k ≠ 1) (h2 : k ≠ 2) : adC v l y k = v k := by
  unfold adC
  rw [up_r _ _ _ _ h, up_r _ _ _ _ h2]
theorem adM_k (w : gV) (l : Nat) (y : Int32) {k : Nat} (h : k ≠ 81) (h2 : k ≠ 87) : adM w l y k = w k := by
  unfold adM
  rw [up_r _ _ _ _ h, up_r _ _ _ _ h2]
theorem adM_81 (w : gV) (l : Nat) (y : Int32) {j : Nat} (h : j ≠ 7) : adM w l y 81 j = w 81 j := by
  unfold adM
  rw [up_c _ _ _ _ h, up_r _ _ _ _ (by decide)]
/-- all but the buffer -/
def INVr (v w : gV) : Prop := TB w ∧ SR v 8 (w 84) ∧ RG v w
theorem INV_r {v w : gV} (h : INV v w) : INVr v w := h.2
theorem INVr_congr {v v' w w' : gV} (h : INVr v w) (h1 : ∀ k, k = 0 ∨ (7 < k ∧ k < 17) ∨ (26 < k ∧ k < 81) → v' k = v k) (h2 : ∀ k, k = 82 ∨ k = 83 ∨ k = 84 ∨ k = 86 → w' k = w k) (h5 : w' 81 5 = w 81 5) : INVr v' w' := by
  obtain ⟨ht, hS, n, x, hn, hx, r5, r6, r7, hr⟩ := h
  have e84 := h2 84 (by decide)
  refine ⟨?_, ?_, n, x, hn, hx, ?_, ?_, ?_, fun t q => ?_⟩
  · unfold TB
    rw [h2 82 (by decide), h2 83 (by decide)]
    exact ht
  · rw [e84]; exact SR_congr hS (fun k q1 q2 => h1 k (by omega)) (fun _ _ => rfl)
  · rw [h1 0 (by decide)]; exact r5
  · rw [h1 0 (by decide)]; exact r6
  · rw [h5]; exact r7
  · refine SR_congr (hr t q) (fun k q1 q2 => h1 k (by omega)) (fun j _ => ?_)
    show w' 86 _ = w 86 _
    rw [h2 86 (by decide)]
theorem INVr_ad {v w : gV} (h : INVr v w) (l : Nat) (y : Int32) : INVr (adC v l y) (adM w l y) := INVr_congr h (fun k q => adC_k _ _ _ (by omega) (by omega)) (fun k q => adM_k _ _ _ (by omega) (by omega)) (adM_81 _ _ _ (by decide))
theorem m_adM {w : gV} {l : Nat} {y : Int32} (h7 : w 81 7 = nI l) : up (up w 87 l y) 81 7 (up w 87 l y 81 7 + 1) = adM w l y := by
  unfold adM
  rw [up_r _ _ _ _ (by decide : (81 : Nat) ≠ 87), h7, nI_1]
theorem t_append {v w : gV} (h : INV v w) (x : Int32) : MS v w 0 1 (tX5_append v x) (sX6_append w x) := by
  have h0 := h
  obtain ⟨⟨l, hB⟩, hr⟩ := h
  have hl := hB.1
  have e7 : up w 81 8 0 81 7 = nI l := by rw [up_c _ _ _ _ (by decide)]; exact hB.2.2.1
  have out : x < 32 ∨ 126 < x → MS v w 0 1 (tX5_append v x) (sX6_append w x) := by
    intro q
    refine MS_1 h0 ?_ ?_
    · unfold tX5_append tX5_append_12
      rcases q with q | q
      · rw [if_pos q]
      · rw [if_neg (Int32.not_le.mpr q)]
        split <;> rfl
    · unfold sX6_append
      rw [ob, in_no q, ob, if_pos rfl, m_thr, ob]
  rcases pk_ix x (n := 127) (by decide) with q | q | ⟨k, hk, e⟩
  · exact out (Or.inl (Int32.lt_trans q (by decide)))
  · exact out (Or.inr (lt_of_le (n := 126) (by decide) q))
  · by_cases z : k < 32
    · exact out (Or.inl (by rw [e]; exact nI_lt (b := 32) z (by decide)))
    · have n1 : ¬ x < 32 := by rw [e]; exact nI_nlt (b := 32) (by omega) (by omega)
      have n2 : x ≤ 126 := by rw [e]; exact nI_le (b := 126) (by omega) (by decide)
      by_cases y : l = 60
      · refine MS_2 (by decide) h0 ?_ ?_
        · unfold tX5_append sX0_hasSpaceFor
          rw [if_neg n1, if_pos n2, hB.2.1, nI_1, if_pos (show (60 : Int32) < nI (l + 1) from nI_lt (a := 60) (by omega) (by omega)), ob, if_pos rfl]
        · unfold sX6_append
          rw [ob, in_yes n1 (Int32.not_lt.mpr n2), ob, if_neg one_ne, e7, if_pos (show nI l = 60 by rw [y]; rfl), m_thr, ob]
      · have hl6 : l < 60 := by omega
        have hB' : BR v (up w 81 8 0) l := ⟨hl, hB.2.1, e7, by rw [up_r _ _ _ _ (by decide)]; exact hB.2.2.2⟩
        refine MS_0 (y := nI (l + 1)) (v' := adC v l x) (w' := adM (up w 81 8 0) l x) ?_ ?_ (fun k q => adC_k _ _ _ (by omega) (by omega)) (RF_trans (RF_81 w 8 0) (fun k q => adM_k _ _ _ (by omega) (by omega))) ?_ ?_
        · unfold tX5_append sX0_hasSpaceFor
          rw [if_neg n1, if_pos n2, hB.2.1, nI_1, if_neg (show ¬ (60 : Int32) < nI (l + 1) from nI_nlt (a := 60) (by omega) (by decide)), ob, if_neg one_ne, e, (chr_tab k (by omega)).2, k_add hB hl6 (by omega), ob]
          rfl
        · unfold sX6_append
          rw [ob, in_yes n1 (Int32.not_lt.mpr n2), ob, if_neg one_ne, e7, if_neg (show ¬ nI l = 60 from fun q => y ((nI_eq (b := 60) (by omega) (by decide)).mp q)), if_pos (nI_in (by omega) (by decide)), nI_clamp (by omega), ob, ob, m_adM e7]
          rfl
        · rw [e]
          exact ⟨⟨l + 1, BR_ad hB' hl6 (by omega)⟩, INVr_ad (INV_r (INV_81 h0 (by decide) (by decide) _)) _ _⟩
        · rw [adM_81 _ _ _ (by decide), up_s]
theorem t_clear {v w : gV} (h : INV v w) : ∃ r v' w', sX5_clearBuffer v = some (r, v') ∧ sX6_clearBuffer w = some (r, w') ∧ CF v v' ∧ RF w w' ∧ INV v' w' := by
  obtain ⟨⟨l, hB⟩, hr⟩ := h
  have e7 : up w 81 8 0 81 7 = nI l := by rw [up_c _ _ _ _ (by decide)]; exact hB.2.2.1
  refine ⟨nI l, up v 1 1 0, up (up w 81 8 0) 81 7 0, ?_, ?_, fun k q => up_r _ _ _ _ (by omega), RF_trans (RF_81 _ _ _) (RF_81 _ _ _), ⟨0, by omega, by rw [up_s]; rfl, by rw [up_s]; rfl, fun i q => by omega⟩, ?_⟩
  · unfold sX5_clearBuffer
    rw [ob, hB.2.1]
  · unfold sX6_clearBuffer
    rw [ob, ob, e7]
  · refine INVr_congr (v := v) (w := w) hr (fun k q => up_r _ _ _ _ (by omega)) (fun k q => ?_) ?_
    · rw [up_r _ _ _ _ (by omega), up_r _ _ _ _ (by omega)]
    · rw [up_c _ _ _ _ (by decide), up_c _ _ _ _ (by decide)]
/-- the letters of a word go into the buffer -/
theorem b_letters {wd : Nat} (hw : wd < 25) : ∀ d i v w l kc km, i + d = lenW wd → BR v w l → l + d ≤ 60 → INVr v w → d < kc → d < km → ∃ v' w', tX5_appendWord_103 1000 kc v (nI wd) (nI (lenW wd)) (nI i) = some (.inr (nI (l + d)), v') ∧ sX6_appendWord_113 1000 km w (nI wd) (nI (begW wd + i)) = some (nI (l + d), w') ∧ CF v v' ∧ RF w w' ∧ BR v' w' (l + d) ∧ INVr v' w' ∧ w' 81 8 = w 81 8 := by
  have hlt := len_tab wd hw
  intro d
  induction d with
  | zero =>
    intro i v w l kc km hi hB hl hr hk1 hk2
    obtain ⟨kc, rfl⟩ : ∃ n, kc = n + 1 := ⟨kc - 1, by omega⟩
    obtain ⟨km, rfl⟩ : ∃ n, km = n + 1 := ⟨km - 1, by omega⟩
    have ht := hr.1
    have e : i = lenW wd := by omega
    unfold tX5_appendWord_103 sX6_appendWord_113
    rw [nI_1 wd, if_pos (nI_in (c := wd + 1) (N := 26) (by omega) (by decide)), nI_clamp (n := wd + 1) (by omega), ht.2 _ (by omega), hlt.2.2.2.2, if_pos (nI_le (by omega) (by omega)), if_pos (nI_le (by omega) (by omega)), hB.2.1, hB.2.2.1]
    exact ⟨v, w, rfl, rfl, CF_refl _, fun _ _ => rfl, hB, hr, rfl⟩
  | succ d ih =>
    intro i v w l kc km hi hB hl hr hk1 hk2
    obtain ⟨kc, rfl⟩ : ∃ n, kc = n + 1 := ⟨kc - 1, by omega⟩
    obtain ⟨km, rfl⟩ : ∃ n, km = n + 1 := ⟨km - 1, by omega⟩
    have ht := hr.1
    obtain ⟨x, hx, _, ex⟩ := ltr_tab wd hw i (by omega) (by omega)
    unfold tX5_appendWord_103 sX6_appendWord_113
    rw [nI_1 wd, if_pos (nI_in (c := wd + 1) (N := 26) (by omega) (by decide)), nI_clamp (n := wd + 1) (by omega), ht.2 _ (by omega), hlt.2.2.2.2, if_neg (nI_ge (by omega) (by omega)), if_neg (nI_ge (by omega) (by omega)), k_let hw (by omega), ob, ex, k_add hB (by omega) hx, ob, hB.2.2.1, if_pos (nI_in (c := begW wd + i) (N := 85) (by omega) (by decide)), if_pos (nI_in (c := l) (N := 60) (by omega) (by decide)), nI_clamp (n := l) (by omega), nI_clamp (n := begW wd + i) (by omega), ht.1 _ (by omega), (let_tab wd hw i (by omega)).2 (by omega), ex, ob, ob, m_adM hB.2.2.1, nI_1, nI_1]
    obtain ⟨v', w', g1, g2, g3, g4, g5, g6, g7⟩ := ih (i + 1) (adC v l (nI x)) (adM w l (nI x)) (l + 1) kc km (by omega) (BR_ad hB (by omega) hx) (by omega) (INVr_ad hr _ _) (by omega) (by omega)
    rw [show l + 1 + d = l + (d + 1) by omega] at g1 g2 g5
    exact ⟨v', w', g1, g2, fun k q => (g3 k q).trans (adC_k _ _ _ (by omega) (by omega)), fun k q => (g4 k q).trans (adM_k _ _ _ (by omega) (by omega)), g5, g6, g7.trans (adM_81 _ _ _ (by decide))⟩
theorem t_appendWord {v w : gV} (h : INV v w) (x : Int32) : MS v w 2 1 (tX5_appendWord 1000 v x) (sX6_appendWord 1000 w x) := by
  have h0 := h
  obtain ⟨⟨l, hB⟩, hr⟩ := h
  have hl := hB.1
  have h1 : INV v (up w 81 8 0) := INV_81 h0 (by decide) (by decide) _
  have e7 : up w 81 8 0 81 7 = nI l := by rw [up_c _ _ _ _ (by decide)]; exact hB.2.2.1
  have e8 : up w 81 8 0 81 8 = 0 := up_s _ _ _ _
  have e87 : up w 81 8 0 87 = w 87 := up_r _ _ _ _ (by decide)
  have hB' : BR v (up w 81 8 0) l := ⟨hl, hB.2.1, e7, by rw [e87]; exact hB.2.2.2⟩
  rcases pk_ix x (n := 25) (by decide) with q | q | ⟨wd, hw, e⟩
  · refine MS_1 h0 ?_ ?_
    · unfold tX5_appendWord tX5_appendWord_10
      rw [if_pos q]
    · unfold sX6_appendWord
      rw [ob, in_no (Or.inl q), ob, if_pos rfl, m_thr, ob]
  · refine MS_1 h0 ?_ ?_
    · unfold tX5_appendWord tX5_appendWord_10
      rw [if_neg (show ¬ x < 25 from nlt_of_le q)]
      split <;> rfl
    · unfold sX6_appendWord
      rw [ob, in_no (Or.inr (show (24 : Int32) < x from lt_of_le (n := 24) (by decide) q)), ob, if_pos rfl, m_thr, ob]
  · subst e
    have hlt := len_tab wd hw
    generalize hW : up w 81 8 0 = W at *
    have ht : TB W := h1.2.1
    have hWr : RF w W := by rw [← hW]; exact RF_81 _ _ _
    have fin : ∀ b : Bool, MS v w 2 1 (tX5_appendWord_52 1000 v (nI wd) (bI b)) (sX6_appendWord_49 1000 W (nI wd) (bI b)) := by
      intro b
      have eM : sX6_appendWord_49 1000 W (nI wd) (bI b) = sX6_appendWord_63 1000 W (nI wd) (bI b) (nI l) (bI b) := by
        unfold sX6_appendWord_49
        rw [e7]
        cases b with
        | false => rw [if_pos bIf_eq]; rfl
        | true => rw [if_neg bIt_ne]; rfl
      have eC : tX5_appendWord_52 1000 v (nI wd) (bI b) = tX5_appendWord_73 1000 v (nI wd) (bI b) (nI (lenW wd)) (nI (lenW wd + if b = true then 1 else 0)) := by
        unfold tX5_appendWord_52
        rw [k_len hw, ob]
        cases b with
        | false => rw [if_pos bIf_eq]; rfl
        | true => rw [if_neg bIt_ne, nI_1]; rfl
      rw [eM, eC]
      unfold tX5_appendWord_73 sX6_appendWord_63 sX0_hasSpaceFor
      rw [m_len ht hw, ob, hB.2.1, nI_add, show bI b = nI (if b = true then 1 else 0) by cases b <;> rfl, nI_add, nI_add]
      generalize hp : (if b = true then 1 else 0 : Nat) = p
      have hp1 : p ≤ 1 := by rw [← hp]; split <;> omega
      by_cases z : 60 < l + (lenW wd + p)
      · rw [if_pos (show (60 : Int32) < nI (l + (lenW wd + p)) from nI_lt (a := 60) z (by omega)), ob, if_pos rfl, if_neg (show ¬ nI (l + p + lenW wd) ≤ 60 from nI_ge (a := 60) (by omega) (by omega)), m_thr, ob]
        exact MS_2 (by decide) h0 rfl (by rw [← hW])
      · rw [if_neg (show ¬ (60 : Int32) < nI (l + (lenW wd + p)) from nI_nlt (a := 60) (by omega) (by decide)), ob, if_neg one_ne, if_pos (show nI (l + p + lenW wd) ≤ 60 from nI_le (b := 60) (by omega) (by decide))]
        have hp2 : p = 0 ∨ p = 1 := by omega
        rcases hp2 with e | e
        · subst e
          rw [if_pos (show nI 0 = 0 from rfl), if_pos (show nI 0 = 0 from rfl), if_pos (nI_in (c := wd) (N := 26) (by omega) (by decide)), nI_clamp (by omega), ht.2 _ (by omega), hlt.2.2.2.1]
          obtain ⟨v', w', g1, g2, g3, g4, g5, g6, g7⟩ := b_letters hw (lenW wd) 0 v W l 1000 1000 (by omega) hB' (by omega) h1.2 (by omega) (by omega)
          exact MS_0 g1 g2 g3 (RF_trans hWr g4) ⟨⟨_, g5⟩, g6⟩ (g7.trans e8)
        · subst e
          have hB2 := BR_ad (x := 32) hB' (by omega) (by decide)
          have hr2 := INVr_ad h1.2 l (nI 32)
          rw [if_neg (show ¬ nI 1 = 0 by decide), if_neg (show ¬ nI 1 = 0 by decide), show (32 : Int32) = nI 32 from rfl, k_add hB' (by omega) (by decide), ob, e7, if_pos (nI_in (c := l) (N := 60) (by omega) (by decide)), nI_clamp (by omega), ob, ob, m_adM e7, if_pos (nI_in (c := wd) (N := 26) (by omega) (by decide)), nI_clamp (by omega), hr2.1.2 _ (by omega), hlt.2.2.2.1]
          obtain ⟨v', w', g1, g2, g3, g4, g5, g6, g7⟩ := b_letters hw (lenW wd) 0 (adC v l (nI 32)) (adM W l (nI 32)) (l + 1) 1000 1000 (by omega) hB2 (by omega) hr2 (by omega) (by omega)
          exact MS_0 g1 g2 (fun k q => (g3 k q).trans (adC_k _ _ _ (by omega) (by omega))) (RF_trans hWr (fun k q => (g4 k q).trans (adM_k _ _ _ (by omega) (by omega)))) ⟨⟨_, g5⟩, g6⟩ (g7.trans ((adM_81 _ _ _ (by decide)).trans e8))
    unfold tX5_appendWord sX6_appendWord
    rw [ob, hW, if_neg (nI_pos (by omega)), if_pos (show nI wd < 25 from nI_lt (b := 25) hw (by decide)), in_yes (nI_pos (by omega)) (show ¬ (24 : Int32) < nI wd from nI_nlt (a := 24) (by omega) (by decide)), ob, if_neg one_ne, hB.2.1, e7]
    by_cases z : l = 0
    · rw [if_pos (show nI l ≤ 0 by rw [z]; decide), if_pos (show nI l ≤ 0 by rw [z]; decide)]
      exact fin false
    · rw [if_neg (nI_nle (by omega) (by omega)), if_neg (nI_nle (by omega) (by omega)), show nI l - 1 = nI (l - 1) from pk_sub (b := 1) (by omega), k_space hB' (by omega), ob, if_pos (nI_in (by omega) (by decide)), nI_clamp (by omega)]
      by_cases y : W 87 (l - 1) = 32
      · rw [if_neg (show ¬ bI (decide (W 87 (l - 1) = 32)) = 0 by simp [y, bI]), if_pos y]
        exact fin false
      · rw [if_pos (show bI (decide (W 87 (l - 1) = 32)) = 0 by simp [y, bI]), if_neg y]
        exact fin true
