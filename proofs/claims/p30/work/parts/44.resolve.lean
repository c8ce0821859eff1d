/-! resolving: lists, everything, it, them, the target; both sides at once -/
def OutQ (v v' v2 v2' : gV) (R r2 : Int32) (a c : Nat) (J : Nat → Prop) (P : Nat → Nat) (G : Nat → Nat → Bool) (S : Nat → Bool) : Prop :=
  fr v2 v2' ∧ ((∃ Q : Nat → Bool, (∃ k, k < c ∧ Q k = true) ∧ R = mk c Q ∧ r2 = mk c Q ∧ v' = v ∧ v2' 81 13 = 0 ∧ v2' 84 = v2 84 ∧ ∀ k, k < c → Q k = true → S k = true) ∨
   ((R = -2 ∨ R = -3 ∨ R = -4) ∧ v' = v ∧ v2' 81 13 = R ∧ v2' 84 = v2 84) ∨
   (∃ j, J j ∧ R = -1 ∧ 1 < cn c (G j) ∧ v' = up (up v a 8 (nI j)) a 7 (mk c (G j)) ∧ v2' 81 13 = -1 ∧ v2' 84 = upd (upd (v2 84) 56 (nI (P j))) 57 (mk c (G j))))
theorem mk_opw {c k : Nat} (hc : c ≤ 12) (hk : k < c) (Q : Nat → Bool) : mk c Q ||| pw k = mk c (fun j => Q j || decide (j = k)) := mk_orp (by omega) hk Q
theorem pw_pos {k : Nat} (hk : k < 12) : 0 ≤ pw k := (show ∀ k, k < 12 → 0 ≤ pw k by decide +kernel) k hk
theorem one_ne : ¬ (1 : Int32) = 0 := by decide
theorem b_list {v : gV} {a c vb L : Nat} {s : Nat → Int32} {P : Nat → Nat} (h : CW v (a + 1) s c) (ho : OKs s c) (hvb : vb < 5) (hS : ∀ k, k < c → suitB s vb k = true → visB s k = true) (hL : v (a + 5) 6 = nI L) (hL7 : L ≤ 7)
    (hD : ∀ j, 1 ≤ j → j ≤ L → Des (Wv s) (P j) (v ((a + 5) + 1) j) (v ((a + 5) + 2) j) ∧ (j < L → Wv s (dE (Wv s) (P j)) = 19 ∧ P (j + 1) = dE (Wv s) (P j) + 1) ∧ (j = L → Wv s (dE (Wv s) (P j)) ≠ 18 ∧ Wv s (dE (Wv s) (P j)) ≠ 19)) (hP : ∀ j, j ≤ L → P j ≤ 25)
    (hA : ∀ j, 1 ≤ j → j ≤ L → AnsR v (a + 5) s c j (P j) (psB s (v ((a + 5) + 1) j) (v ((a + 5) + 2) j) (suitB s vb))) :
    ∀ d i v2 Q kc km, i + d = L → 1 ≤ i → v2 84 = s → v2 81 13 = 0 → v2 81 12 = nI (P i) → (∀ k, k < c → Q k = true → suitB s vb k = true) → d + 1 < kc → d + 1 < km →
     ∃ R v' r2 v2', sX3_resolveList_5 1000 a kc v (mk c (visB s)) (mk c (suitB s vb)) (mk c Q) (nI i) = some (R, v') ∧ sX6_resolveObjects_194 1000 km v2 (nI vb) (mk c Q) 1 = some (r2, v2') ∧ OutQ v v' v2 v2' R r2 a c (fun j => 1 ≤ j ∧ j ≤ L) P (fun j => psB s (v ((a + 5) + 1) j) (v ((a + 5) + 2) j) (suitB s vb)) (suitB s vb) := by
  have hc := ho.1
  intro d
  induction d with
  | zero =>
    intro i v2 Q kc km hi h1 h84 h13 h12 hQ hk1 hk2
    obtain ⟨kc, rfl⟩ : ∃ n, kc = n + 1 + 1 := ⟨kc - 2, by omega⟩
    obtain ⟨km, rfl⟩ : ∃ n, km = n + 1 + 1 := ⟨km - 2, by omega⟩
    have hPi := hP i (by omega)
    obtain ⟨hd1, _, hd3⟩ := hD i h1 (by omega)
    have hd3 := hd3 (by omega)
    have hdE := dE_le (Wv s) (P i)
    obtain ⟨R, v', v2', e1, e2, f2, e12, hcase⟩ := b_desc (x := nI vb) (S := suitB s vb) (j := i) (p := P i) (v2 := v2) (by rw [h84]; exact h) (by rw [h84]; exact ho) (by omega) (by rw [h84]; exact hS) (by
      intro V hV
      have := m_suitOnes (v := V) (c := c) (w := vb) (by rw [hV, h84]; exact ho) hvb
      rw [hV, h84] at this
      exact this) h12 (by omega) (by rw [h84]; exact hd1) (by rw [h84]; exact hA i h1 (by omega))
    rw [h84] at e1 e12 hcase
    unfold sX3_resolveList_5 sX6_resolveObjects_194
    rw [hL, if_neg (nI_nlt (by omega) (by omega)), if_neg (ge_8 (by omega)), e1, ob, if_neg one_ne, e2, ob]
    dsimp only
    rcases hcase with ⟨k, q1, q2, q3, q4, q5, q6, q7⟩ | ⟨q1, q3, q4, q5⟩ | ⟨q1, q2, q3, q4, q5⟩
    · have hQ' : ∀ j, j < c → (Q j || decide (j = k)) = true → suitB s vb j = true := by
        intro j hj hq
        rw [Bool.or_eq_true, decide_eq_true_iff] at hq
        rcases hq with q | q
        · exact hQ j hj q
        · rw [q]; exact q7
      subst q3
      rw [h13] at q4
      rw [q2, if_pos (pw_pos (k := k) (by omega)), q4, if_pos (by decide), q5]
      unfold sX3_resolveList_5 sX6_resolveObjects_221
      rw [hL, nI_1, if_pos (nI_lt (by omega) (by omega)), q4, if_pos rfl, e12, m_word (by omega), q6, ob, if_neg hd3.2]
      unfold sX6_resolveObjects_248
      rw [ob]
      unfold sX6_resolveObjects_194
      rw [if_pos rfl, show (1 : Int32) <<< (nI k &&& 31) = pw k from rfl, mk_opw hc q1]
      refine ⟨_, _, _, _, rfl, rfl, fr_81 f2 (by decide) _, Or.inl ⟨_, ⟨k, q1, by simp⟩, rfl, rfl, rfl, ?_, ?_, hQ'⟩⟩
      · rw [u81, if_neg (by decide), q4]
      · rw [u84, q6, h84]
    · subst q3
      have hneg : ¬ 0 ≤ R := by rcases q1 with q | q <;> rw [q] <;> decide
      have hnz : ¬ v2' 81 13 = 0 := by rw [q4]; rcases q1 with q | q <;> rw [q] <;> decide
      rw [if_neg hneg, if_neg (by rw [q4]; exact hneg)]
      unfold sX6_resolveObjects_221
      rw [if_neg hnz]
      unfold sX6_resolveObjects_248
      rw [ob]
      unfold sX6_resolveObjects_194
      rw [if_pos rfl]
      refine ⟨_, _, _, _, rfl, rfl, fr_81 f2 (by decide) _, Or.inr (Or.inl ⟨?_, rfl, ?_, ?_⟩)⟩
      · rcases q1 with q | q
        · exact Or.inl q
        · exact Or.inr (Or.inl q)
      · rw [u81, if_neg (by decide), q4]
      · rw [u84, q5, h84]
    · rw [q1, if_neg (by decide), q4, if_neg (by decide)]
      unfold sX6_resolveObjects_221
      rw [if_neg (by rw [q4]; decide)]
      unfold sX6_resolveObjects_248
      rw [ob]
      unfold sX6_resolveObjects_194
      rw [if_pos rfl]
      refine ⟨_, _, _, _, rfl, rfl, fr_81 f2 (by decide) _, Or.inr (Or.inr ⟨i, ⟨h1, by omega⟩, rfl, q2, q3, ?_, ?_⟩)⟩
      · rw [u81, if_neg (by decide), q4]
      · rw [u84, q5, h84]
  | succ d ih =>
    intro i v2 Q kc km hi h1 h84 h13 h12 hQ hk1 hk2
    obtain ⟨kc, rfl⟩ : ∃ n, kc = n + 1 + 1 := ⟨kc - 2, by omega⟩
    obtain ⟨km, rfl⟩ : ∃ n, km = n + 1 + 1 := ⟨km - 2, by omega⟩
    have hPi := hP i (by omega)
    obtain ⟨hd1, hd3, _⟩ := hD i h1 (by omega)
    have hd3 := hd3 (by omega)
    have hdE := dE_le (Wv s) (P i)
    obtain ⟨R, v', v2', e1, e2, f2, e12, hcase⟩ := b_desc (x := nI vb) (S := suitB s vb) (j := i) (p := P i) (v2 := v2) (by rw [h84]; exact h) (by rw [h84]; exact ho) (by omega) (by rw [h84]; exact hS) (by
      intro V hV
      have := m_suitOnes (v := V) (c := c) (w := vb) (by rw [hV, h84]; exact ho) hvb
      rw [hV, h84] at this
      exact this) h12 (by omega) (by rw [h84]; exact hd1) (by rw [h84]; exact hA i h1 (by omega))
    rw [h84] at e1 e12 hcase
    unfold sX3_resolveList_5 sX6_resolveObjects_194
    rw [hL, if_neg (nI_nlt (by omega) (by omega)), if_neg (ge_8 (by omega)), e1, ob, if_neg one_ne, e2, ob]
    dsimp only
    rcases hcase with ⟨k, q1, q2, q3, q4, q5, q6, q7⟩ | ⟨q1, q3, q4, q5⟩ | ⟨q1, q2, q3, q4, q5⟩
    · have hQ' : ∀ j, j < c → (Q j || decide (j = k)) = true → suitB s vb j = true := by
        intro j hj hq
        rw [Bool.or_eq_true, decide_eq_true_iff] at hq
        rcases hq with q | q
        · exact hQ j hj q
        · rw [q]; exact q7
      subst q3
      rw [h13] at q4
      rw [q2, if_pos (pw_pos (k := k) (by omega)), q4, if_pos (by decide), q5]
      unfold sX6_resolveObjects_221
      rw [q4, if_pos rfl, e12, m_word (by omega), q6, ob, if_pos hd3.1]
      unfold sX6_resolveObjects_248
      rw [ob, show (1 : Int32) <<< (nI k &&& 31) = pw k from rfl, mk_opw hc q1, nI_1]
      obtain ⟨R', w', r2, w2, g1, g2, g3, g4⟩ := ih (i + 1) (up v2' 81 12 (v2' 81 12 + 1)) (fun j => Q j || decide (j = k)) (kc + 1) (km + 1) (by omega) (by omega) (by rw [u84, q6]) (by rw [u81, if_neg (by decide), q4]) (by rw [u81, if_pos rfl, e12, nI_1, hd3.2]) hQ' (by omega) (by omega)
      refine ⟨R', w', r2, w2, g1, g2, fr_trans (fr_81 f2 (by decide) _) g3, ?_⟩
      rw [u84, q6] at g4
      rw [h84]
      exact g4
    · subst q3
      have hneg : ¬ 0 ≤ R := by rcases q1 with q | q <;> rw [q] <;> decide
      have hnz : ¬ v2' 81 13 = 0 := by rw [q4]; rcases q1 with q | q <;> rw [q] <;> decide
      rw [if_neg hneg, if_neg (by rw [q4]; exact hneg)]
      unfold sX6_resolveObjects_221
      rw [if_neg hnz]
      unfold sX6_resolveObjects_248
      rw [ob]
      unfold sX6_resolveObjects_194
      rw [if_pos rfl]
      refine ⟨_, _, _, _, rfl, rfl, fr_81 f2 (by decide) _, Or.inr (Or.inl ⟨?_, rfl, ?_, ?_⟩)⟩
      · rcases q1 with q | q
        · exact Or.inl q
        · exact Or.inr (Or.inl q)
      · rw [u81, if_neg (by decide), q4]
      · rw [u84, q5, h84]
    · rw [q1, if_neg (by decide), q4, if_neg (by decide)]
      unfold sX6_resolveObjects_221
      rw [if_neg (by rw [q4]; decide)]
      unfold sX6_resolveObjects_248
      rw [ob]
      unfold sX6_resolveObjects_194
      rw [if_pos rfl]
      refine ⟨_, _, _, _, rfl, rfl, fr_81 f2 (by decide) _, Or.inr (Or.inr ⟨i, ⟨h1, by omega⟩, rfl, q2, q3, ?_, ?_⟩)⟩
      · rw [u81, if_neg (by decide), q4]
      · rw [u84, q5, h84]
/-- everything but the listed: both sides' loops -/
theorem b_but {v : gV} {a c L : Nat} {s : Nat → Int32} {P : Nat → Nat} {S : Nat → Bool} (h : CW v (a + 1) s c) (ho : OKs s c) (hL : v (a + 5) 6 = nI L) (hL7 : L ≤ 7)
    (hD : ∀ j, 1 ≤ j → j ≤ L → Des (Wv s) (P j) (v ((a + 5) + 1) j) (v ((a + 5) + 2) j) ∧ (j < L → Wv s (dE (Wv s) (P j)) = 19 ∧ P (j + 1) = dE (Wv s) (P j) + 1) ∧ (j = L → Wv s (dE (Wv s) (P j)) ≠ 18 ∧ Wv s (dE (Wv s) (P j)) ≠ 19)) (hP : ∀ j, j ≤ L → P j ≤ 25) :
    ∀ d i v2 U pl kc km, i + d = L + 1 → 1 ≤ i → v2 84 = s → v2 81 12 = nI pl → pl < 29 → (i ≤ L → (Wv s pl = 18 ∨ Wv s pl = 19) ∧ P i = pl + 1) → (i = L + 1 → Wv s pl ≠ 18 ∧ Wv s pl ≠ 19) → d < kc → d < km →
     ∃ Q v2', sX3_listedSet_4 1000 a kc v (mk c U) (nI i) = some (mk c Q) ∧ sX6_resolveObjects_28 1000 km v2 (mk c (fun k => S k && !U k)) = some (mk c (fun k => S k && !Q k), v2') ∧ fr v2 v2' ∧ v2' 84 = s ∧ v2' 81 13 = (if cn c (fun k => S k && !Q k) = 0 then -3 else 0) := by
  have hc := ho.1
  intro d
  induction d with
  | zero =>
    intro i v2 U pl kc km hi h1 h84 h12 hpl _ hn hk1 hk2
    obtain ⟨kc, rfl⟩ : ∃ n, kc = n + 1 := ⟨kc - 1, by omega⟩
    obtain ⟨km, rfl⟩ : ∃ n, km = n + 1 := ⟨km - 1, by omega⟩
    have hn := hn (by omega)
    unfold sX3_listedSet_4 sX6_resolveObjects_28
    rw [hL, if_pos (nI_lt (by omega) (by omega)), h12, m_word (by omega), ob, h84, if_neg hn.1, ob, if_neg hn.2]
    by_cases z : cn c (fun k => S k && !U k) = 0
    · rw [if_pos ((mk_ne hc).mpr z), ob]
      exact ⟨U, _, rfl, rfl, fr_81 (fr_refl _) (by decide) _, by rw [u84, h84], by rw [u81, if_pos rfl, if_pos z]⟩
    · rw [if_neg (fun q => z ((mk_ne hc).mp q)), ob]
      exact ⟨U, _, rfl, rfl, fr_81 (fr_refl _) (by decide) _, by rw [u84, h84], by rw [u81, if_pos rfl, if_neg z]⟩
  | succ d ih =>
    intro i v2 U pl kc km hi h1 h84 h12 hpl hy _ hk1 hk2
    obtain ⟨kc, rfl⟩ : ∃ n, kc = n + 1 := ⟨kc - 1, by omega⟩
    obtain ⟨km, rfl⟩ : ∃ n, km = n + 1 := ⟨km - 1, by omega⟩
    obtain ⟨hy1, hy2⟩ := hy (by omega)
    have hPi := hP i (by omega)
    obtain ⟨hd1, hd3, hd4⟩ := hD i h1 (by omega)
    have hdE := dE_le (Wv s) (P i)
    obtain ⟨hb1, hb2, x, hx, hb3⟩ := hd1
    have hin : ¬ (nI i < 0 ∨ 8 ≤ (nI i).toNatClampNeg) := nI_in (by omega) (by decide)
    have key : ∀ z : Int32, (if z = 18 then sX6_resolveObjects_54 1000 (sX6_resolveObjects_28 1000 km) v2 (mk c (fun k => S k && !U k)) else sX6_resolveObjects_54 1000 (sX6_resolveObjects_28 1000 km) v2 (mk c (fun k => S k && !U k))) = sX6_resolveObjects_54 1000 (sX6_resolveObjects_28 1000 km) v2 (mk c (fun k => S k && !U k)) := by
      intro z
      split <;> rfl
    have e0 : sX6_resolveObjects_28 1000 (km + 1) v2 (mk c (fun k => S k && !U k)) = sX6_resolveObjects_54 1000 (sX6_resolveObjects_28 1000 km) v2 (mk c (fun k => S k && !U k)) := by
      conv => lhs; unfold sX6_resolveObjects_28
      rw [h12, m_word (by omega), ob, h84]
      by_cases z : Wv s pl = 18
      · rw [if_pos z]
      · rw [if_neg z, ob, if_pos (hy1.resolve_left z)]
    rw [e0]
    unfold sX3_listedSet_4 sX6_resolveObjects_54
    rw [hL, if_neg (nI_nlt (by omega) (by omega)), if_neg (ge_8 (by omega)), if_pos hin, if_pos hin, nI_clamp (by omega), k_fit h hc, ob, ob]
    have h12' : up v2 81 12 (v2 81 12 + 1) 81 12 = nI (P i) := by rw [u81, if_pos rfl, h12, nI_1, hy2]
    rw [m_rd h12' (by omega), ob]
    have h84' : up v2 81 12 (v2 81 12 + 1) 84 = s := by rw [u84, h84]
    rw [h84']
    obtain ⟨V, hV⟩ : ∃ V, V = up (up (up (up (up (up v2 81 12 (v2 81 12 + 1)) 81 12 (nI (dA (Wv s) (P i)))) 81 16 (dX (Wv s) (P i))) 81 12 (nI (dN (Wv s) (P i)))) 81 15 (Wv s (dN (Wv s) (P i)))) 81 12 (nI (dE (Wv s) (P i))) := ⟨_, rfl⟩
    rw [← hV]
    have f0 : fr v2 V := by
      rw [hV]
      exact fr_81 (fr_81 (fr_81 (fr_81 (fr_81 (fr_81 (fr_refl _) (by decide) _) (by decide) _) (by decide) _) (by decide) _) (by decide) _) (by decide) _
    have g84 : V 84 = s := by rw [hV]; simp only [u84]; exact h84
    have g12 : V 81 12 = nI (dE (Wv s) (P i)) := by rw [hV, u81, if_pos rfl]
    have g15 : V 81 15 = Wv s (dN (Wv s) (P i)) := by rw [hV]; simp [u81]
    have g16 : V 81 16 = dX (Wv s) (P i) := by rw [hV]; simp [u81]
    clear hV
    have ha1 : Wv s (dN (Wv s) (P i)) ≠ -1 := by
      rw [hb3]
      intro q
      exact nI_pos (n := x) (by omega) (by rw [q]; decide)
    have hmf := m_fit (v := V) (c := c) (by rw [g84]; exact ho) ha1 (dX_ok (Wv s) (P i))
    rw [g15, g16, hmf, ob, g84, ← hb1, ← hb2, mk_or (by omega), mk_andn (by omega), nI_1]
    obtain ⟨Q, w, i1, i2, i3, i4, i5⟩ := ih (i + 1) V (fun k => U k || fitB s (v ((a + 5) + 1) i) (v ((a + 5) + 2) i) k) (dE (Wv s) (P i)) kc km (by omega) (by omega) g84 g12 (by omega) (fun q => ⟨Or.inr (hd3 (by omega)).1, (hd3 (by omega)).2⟩) (fun q => hd4 (by omega)) (by omega) (by omega)
    refine ⟨Q, w, i1, ?_, fr_trans f0 i3, i4, i5⟩
    rw [← i2]
    congr 1
    refine mk_congr fun k _ => ?_
    cases S k <;> cases U k <;> simp
theorem bIt_ne : ¬ bI true = 0 := by decide
theorem bIf_eq : bI false = 0 := rfl
/-- it: both sides -/
theorem b_it {v v2 : gV} {a c pl : Nat} {S : Nat → Bool} {x : Int32} (ho : OKs (v2 84) c) (h2 : v a 2 = v2 84 50) (hSx : ∀ V : gV, V 84 = v2 84 → sX6_suitableOnes 1000 V x = some (mk c S)) (hp : v2 81 12 = nI pl) (h13 : v2 81 13 = 0) :
    ∃ R v2', sX3_resolveSingle v a (mk c (visB (v2 84))) (mk c S) = some R ∧ sX6_resolveIt 1000 v2 x = some v2' ∧ fr v2 v2' ∧ v2' 84 = v2 84 ∧ ((∃ k, k < c ∧ R = pw k ∧ v2' 81 13 = 0 ∧ v2' 81 14 = nI k ∧ S k = true) ∨ ((R = -2 ∨ R = -3 ∨ R = -4) ∧ v2' 81 13 = R)) := by
  have hc := ho.1
  unfold sX3_resolveSingle sX6_resolveIt sX3_orNothingSuitable
  rw [h2]
  simp only [ob]
  have e14 : up (up v2 81 12 (v2 81 12 + 1)) 81 14 (up v2 81 12 (v2 81 12 + 1) 84 50) 81 14 = v2 84 50 := by rw [u81, if_pos rfl, u84]
  rw [e14]
  obtain ⟨V, hV⟩ : ∃ V, V = up (up v2 81 12 (v2 81 12 + 1)) 81 14 (up v2 81 12 (v2 81 12 + 1) 84 50) := ⟨_, rfl⟩
  rw [← hV]
  rw [← hV] at e14
  have f0 : fr v2 V := by rw [hV]; exact fr_81 (fr_81 (fr_refl _) (by decide) _) (by decide) _
  have g84 : V 84 = v2 84 := by rw [hV, u84, u84]
  have g13 : V 81 13 = 0 := by rw [hV]; simp [u81, h13]
  clear hV
  rcases ho.2.2.2.2.1 with e | ⟨k, hk, e⟩
  · rw [e, if_pos rfl, if_neg (by decide)]
    exact ⟨_, _, rfl, rfl, fr_81 f0 (by decide) _, by rw [u84, g84], Or.inr ⟨Or.inr (Or.inr rfl), by rw [u81, if_pos rfl]⟩⟩
  · have hne : ¬ nI k = -1 := fun q => nI_pos (n := k) (by omega) (by rw [q]; decide)
    have hm := m_vis (v := V) (c := c) (k := k) (by rw [g84]; exact ho) hk
    rw [e, if_neg hne, if_pos (nI_pos' (by omega)), hm, ob, hSx V g84, ob, shr1 hc S (by omega), show (1 : Int32) <<< (nI k &&& 31) = pw k from rfl, g84]
    have hw1 := pw_and (x := mk c (visB (v2 84))) (k := k) (by omega)
    rw [bt_mk (by omega)] at hw1
    have hd : decide (k < c) = true := by simp [hk]
    rw [hd, Bool.true_and] at hw1
    cases z : visB (v2 84) k with
    | false =>
      rw [if_pos (hw1.mpr z), if_pos bIf_eq]
      exact ⟨_, _, rfl, rfl, fr_81 f0 (by decide) _, by rw [u84, g84], Or.inr ⟨Or.inl rfl, by rw [u81, if_pos rfl]⟩⟩
    | true =>
      rw [if_neg (fun q => by rw [hw1.mp q] at z; cases z), if_neg bIt_ne]
      have hw2 := pw_and (x := mk c S) (k := k) (by omega)
      rw [bt_mk (by omega), hd, Bool.true_and] at hw2
      rw [hd, Bool.true_and]
      cases z2 : S k with
      | false =>
        rw [if_pos (hw2.mpr z2), if_pos bIf_eq]
        exact ⟨_, _, rfl, rfl, fr_81 f0 (by decide) _, by rw [u84, g84], Or.inr ⟨Or.inr (Or.inl rfl), by rw [u81, if_pos rfl]⟩⟩
      | true =>
        rw [if_neg (fun q => by rw [hw2.mp q] at z2; cases z2), if_neg bIt_ne]
        refine ⟨_, _, rfl, rfl, f0, g84, Or.inl ⟨k, hk, ?_, g13, by rw [e14, e], z2⟩⟩
        refine bt_ext fun j _ => ?_
        rw [bt_and, bt_pw (by omega), bt_mk (by omega)]
        by_cases q : j = k
        · subst q; simp [z2, hk]
        · simp [q]
theorem des_first {W : Nat → Int32} {p : Nat} {x y : Int32} (h : Des W p x y) : W p ≠ 17 ∧ W p ≠ 18 ∧ W p ≠ 19 ∧ W p ≠ 20 ∧ W p ≠ 22 ∧ W p ≠ 23 := by
  obtain ⟨_, _, z, hz, e⟩ := h
  have h1 : W p = 21 ∨ adjW (W p) = true ∨ ∃ z, z < 6 ∧ W p = nI z := by
    unfold dN dA at e
    by_cases q : W p = 21
    · exact Or.inl q
    · rw [if_neg q] at e
      by_cases q2 : adjW (W p) = true
      · exact Or.inr (Or.inl q2)
      · rw [if_neg q2] at e
        exact Or.inr (Or.inr ⟨z, hz, e⟩)
  rcases h1 with q | q | ⟨z, hz, q⟩
  · rw [q]; decide
  · obtain ⟨b, hb, e⟩ := adjW_x q
    rw [e]
    exact (show ∀ b, b < 4 → nI (b + 6) ≠ 17 ∧ nI (b + 6) ≠ 18 ∧ nI (b + 6) ≠ 19 ∧ nI (b + 6) ≠ 20 ∧ nI (b + 6) ≠ 22 ∧ nI (b + 6) ≠ 23 by decide +kernel) b hb
  · rw [q]
    exact (show ∀ b, b < 6 → nI b ≠ 17 ∧ nI b ≠ 18 ∧ nI b ≠ 19 ∧ nI b ≠ 20 ∧ nI b ≠ 22 ∧ nI b ≠ 23 by decide +kernel) z hz
