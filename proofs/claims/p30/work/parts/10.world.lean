/-! the world: the cells of the class and of the reference by their places 0..80; v k j: what the cell k holds at its place j; u: what the law's own row of one long holds -/
def gKd : List Nat := [5, 0, 10, 2, 1, 11, 11, 11, 3, 4, 12, 12, 12, 1, 11, 11, 11, 3, 4, 12, 12, 12, 1, 11, 11, 11, 13, 3, 4, 12, 12, 12, 1, 11, 11, 11, 3, 4, 12, 12, 12, 1, 11, 11, 11, 3, 4, 12, 12, 12, 1, 11, 11, 11, 3, 4, 12, 12, 12, 1, 11, 11, 11, 3, 4, 12, 12, 12, 1, 11, 11, 11, 3, 4, 12, 12, 12, 1, 11, 11, 11]
def kd (k : Nat) : Nat := gKd.getD k 99
theorem kd_lt {k c : Nat} (h : kd k = c) (hc : c ≠ 99) : k < 81 := by
  rcases Nat.lt_or_ge k 81 with q | q
  · exact q
  · exfalso
    apply hc
    rw [← h]
    unfold kd
    rw [List.getD_eq_getElem?_getD, List.getElem?_eq_none (show gKd.length ≤ k from q)]
    rfl
theorem kd_3_1 {a : Nat} (h : kd a = 3) : kd (a + 1) = 4 := (show ∀ a, a < 81 → kd a = 3 → kd (a + 1) = 4 by decide +kernel) a (kd_lt h (by decide)) h
theorem kd_3_5 {a : Nat} (h : kd a = 3) : kd (a + 5) = 1 := (show ∀ a, a < 81 → kd a = 3 → kd (a + 5) = 1 by decide +kernel) a (kd_lt h (by decide)) h
theorem kd_4_1 {a : Nat} (h : kd a = 4) : kd (a + 1) = 12 := (show ∀ a, a < 81 → kd a = 4 → kd (a + 1) = 12 by decide +kernel) a (kd_lt h (by decide)) h
theorem kd_4_2 {a : Nat} (h : kd a = 4) : kd (a + 2) = 12 := (show ∀ a, a < 81 → kd a = 4 → kd (a + 2) = 12 by decide +kernel) a (kd_lt h (by decide)) h
theorem kd_4_3 {a : Nat} (h : kd a = 4) : kd (a + 3) = 12 := (show ∀ a, a < 81 → kd a = 4 → kd (a + 3) = 12 by decide +kernel) a (kd_lt h (by decide)) h
theorem kd_1_1 {a : Nat} (h : kd a = 1) : kd (a + 1) = 11 := (show ∀ a, a < 81 → kd a = 1 → kd (a + 1) = 11 by decide +kernel) a (kd_lt h (by decide)) h
theorem kd_1_2 {a : Nat} (h : kd a = 1) : kd (a + 2) = 11 := (show ∀ a, a < 81 → kd a = 1 → kd (a + 2) = 11 by decide +kernel) a (kd_lt h (by decide)) h
theorem kd_1_3 {a : Nat} (h : kd a = 1) : kd (a + 3) = 11 := (show ∀ a, a < 81 → kd a = 1 → kd (a + 3) = 11 by decide +kernel) a (kd_lt h (by decide)) h
theorem kd0 : kd 0 = 5 := by decide +kernel
theorem kd1 : kd 1 = 0 := by decide +kernel
theorem kd2 : kd 2 = 10 := by decide +kernel
theorem kd3 : kd 3 = 2 := by decide +kernel
theorem kd4 : kd 4 = 1 := by decide +kernel
theorem kd5 : kd 5 = 11 := by decide +kernel
theorem kd6 : kd 6 = 11 := by decide +kernel
theorem kd7 : kd 7 = 11 := by decide +kernel
theorem kd8 : kd 8 = 3 := by decide +kernel
theorem kd9 : kd 9 = 4 := by decide +kernel
theorem kd10 : kd 10 = 12 := by decide +kernel
theorem kd11 : kd 11 = 12 := by decide +kernel
theorem kd12 : kd 12 = 12 := by decide +kernel
theorem kd13 : kd 13 = 1 := by decide +kernel
theorem kd17 : kd 17 = 3 := by decide +kernel
theorem kd26 : kd 26 = 13 := by decide +kernel
theorem kd_sv {j : Nat} (h : j < 6) : kd (27 + 9 * j) = 3 := (show ∀ j, j < 6 → kd (27 + 9 * j) = 3 by decide +kernel) j h
def gEr (cy : Nat → ClassId) (ad : Nat → Nat) (u : Int64) (k : Nat) (r : Nat → Int32) (c : Nat) : va_E := match c with
  | 0 => .inr (0, [.ref (ad (k + 1)), .int (r 1)])
  | 1 => .inr (1, [.ref (ad (k + 1)), .ref (ad (k + 2)), .ref (ad (k + 3)), .int (r 3), .int (r 4), .int (r 5), .int (r 6), .int (r 7)])
  | 2 => .inr (2, [.ref (ad (k + 1)), .int (r 1), .int (r 2)])
  | 3 => .inr (3, [.ref (ad (k + 1)), .ref (ad (k + 5)), .int (r 2), .int (r 3), .int (r 4), .int (r 5), .int (r 6), .int (r 7), .int (r 8)])
  | 4 => .inr (4, [.ref (ad (k + 1)), .ref (ad (k + 2)), .ref (ad (k + 3)), .int (r 3), .int (r 4), .int (r 5)])
  | 5 => .inr (5, [.ref (ad 1), .ref (ad 3), .ref (ad 8), .ref (ad 17), .ref (ad 26), .int (r 5), .int (r 6)])
  | 10 => .inl (cy 1, 60, .inl r)
  | 11 => .inl (cy 0, 8, .inl r)
  | 12 => .inl (cy 0, 12, .inl r)
  | 13 => .inl (cy 2, 6, .inr (.inr (.inr (.inr (fun j => some (ad (27 + 9 * j)))))))
  | _ => .inl (cy 0, 0, .inl r)
abbrev gV : Type := Nat → Nat → Int32
def gW (cy : Nat → ClassId) (ad : Nat → Nat) (v : gV) (u : Int64) : va_W := (List.range 81).map (fun k => (ad k, gEr cy ad u k (v k) (kd k)))
def up (v : gV) (k j : Nat) (x : Int32) : gV := fun a b => if a = k ∧ b = j then x else v a b
def gT (cy : Nat → ClassId) : List (ClassId × FieldType) := [(cy 0, .int), (cy 1, .char), (cy 2, .object RX3)]
section GW
variable {cy : Nat → ClassId} {ad : Nat → Nat} {v : gV} {u : Int64}
theorem up_s (v : gV) (k j : Nat) (x : Int32) : up v k j x k j = x := by simp [up]
theorem up_r (v : gV) (k j : Nat) (x : Int32) {a : Nat} (h : a ≠ k) : up v k j x a = v a := by funext b; simp [up, h]
theorem up_c (v : gV) (k j : Nat) (x : Int32) {a b : Nat} (h : b ≠ j) : up v k j x a b = v a b := by simp [up, h]
theorem up_n (v : gV) (k j : Nat) (x : Int32) {a b : Nat} (h : ¬ (a = k ∧ b = j)) : up v k j x a b = v a b := by simp only [up, if_neg h]
theorem up_u (v : gV) (k j : Nat) (x : Int32) : up v k j x k = upd (v k) j x := by funext b; simp [up, upd]
theorem gW_at {k : Nat} (h : k < 81) : (gW cy ad v u)[k]? = some (ad k, gEr cy ad u k (v k) (kd k)) := by
  unfold gW
  rw [List.getElem?_map, List.getElem?_range h]
  rfl
theorem gW_len : (gW cy ad v u).length = 81 := by simp [gW]
theorem gW_k {k c : Nat} (h : kd k = c) (hc : c ≠ 99) : (gW cy ad v u)[k]? = some (ad k, gEr cy ad u k (v k) c) := by rw [gW_at (kd_lt h hc), h]
theorem gW_set {k c : Nat} (h : kd k = c) (hc : c ≠ 99) {v' : gV} {u' : Int64} {e : va_E} (hne : ∀ i, i ≠ k → ∀ c2, gEr cy ad u' i (v' i) (kd i) = gEr cy ad u i (v i) (kd i) ∨ c2 = c2 + 1) (he : gEr cy ad u' k (v' k) c = e) : (gW cy ad v u).set k (ad k, e) = gW cy ad v' u' := by
  apply List.ext_getElem?
  intro i
  rw [List.getElem?_set]
  by_cases hi : k = i
  · subst hi
    rw [if_pos rfl, if_pos (by rw [gW_len]; exact kd_lt h hc), gW_k h hc, he]
  · rw [if_neg hi]
    rcases Nat.lt_or_ge i 81 with q | q
    · rw [gW_at q, gW_at q]
      rcases hne i (fun z => hi z.symm) 0 with z | z
      · rw [z]
      · exact absurd z (by decide)
    · rw [List.getElem?_eq_none (by rw [gW_len]; exact q), List.getElem?_eq_none (by rw [gW_len]; exact q)]
theorem gW_setv {k c : Nat} (h : kd k = c) (hc : c ≠ 99) {j : Nat} {x : Int32} {e : va_E} (he : gEr cy ad u k (up v k j x k) c = e) : (gW cy ad v u).set k (ad k, e) = gW cy ad (up v k j x) u :=
  gW_set h hc (fun i hi _ => Or.inl (by rw [up_r v k j x hi])) he
theorem gW_0 {a : Nat} (h : kd a = 0) : (gW cy ad v u)[a]? = some (ad a, .inr (0, [.ref (ad (a + 1)), .int (v a 1)])) := gW_k h (by decide)
theorem gW_1 {a : Nat} (h : kd a = 1) : (gW cy ad v u)[a]? = some (ad a, .inr (1, [.ref (ad (a + 1)), .ref (ad (a + 2)), .ref (ad (a + 3)), .int (v a 3), .int (v a 4), .int (v a 5), .int (v a 6), .int (v a 7)])) := gW_k h (by decide)
theorem gW_2 {a : Nat} (h : kd a = 2) : (gW cy ad v u)[a]? = some (ad a, .inr (2, [.ref (ad (a + 1)), .int (v a 1), .int (v a 2)])) := gW_k h (by decide)
theorem gW_3 {a : Nat} (h : kd a = 3) : (gW cy ad v u)[a]? = some (ad a, .inr (3, [.ref (ad (a + 1)), .ref (ad (a + 5)), .int (v a 2), .int (v a 3), .int (v a 4), .int (v a 5), .int (v a 6), .int (v a 7), .int (v a 8)])) := gW_k h (by decide)
theorem gW_4 {a : Nat} (h : kd a = 4) : (gW cy ad v u)[a]? = some (ad a, .inr (4, [.ref (ad (a + 1)), .ref (ad (a + 2)), .ref (ad (a + 3)), .int (v a 3), .int (v a 4), .int (v a 5)])) := gW_k h (by decide)
theorem gW_5 {a : Nat} (h : kd a = 5) : (gW cy ad v u)[a]? = some (ad a, .inr (5, [.ref (ad 1), .ref (ad 3), .ref (ad 8), .ref (ad 17), .ref (ad 26), .int (v a 5), .int (v a 6)])) := gW_k h (by decide)
theorem gW_10 {a : Nat} (h : kd a = 10) : (gW cy ad v u)[a]? = some (ad a, .inl (cy 1, 60, .inl (v a))) := gW_k h (by decide)
theorem gW_11 {a : Nat} (h : kd a = 11) : (gW cy ad v u)[a]? = some (ad a, .inl (cy 0, 8, .inl (v a))) := gW_k h (by decide)
theorem gW_12 {a : Nat} (h : kd a = 12) : (gW cy ad v u)[a]? = some (ad a, .inl (cy 0, 12, .inl (v a))) := gW_k h (by decide)
theorem gW_13 {a : Nat} (h : kd a = 13) : (gW cy ad v u)[a]? = some (ad a, .inl (cy 2, 6, .inr (.inr (.inr (.inr (fun j => some (ad (27 + 9 * j)))))))) := gW_k h (by decide)
theorem gS_0_1 {a : Nat} (h : kd a = 0) (x : Int32) : (gW cy ad v u).set a (ad a, .inr (0, ([.ref (ad (a + 1)), .int (v a 1)] : List Value).set 1 (.int x))) = gW cy ad (up v a 1 x) u := gW_setv h (by decide) (by simp [gEr, up])
theorem gS_1_3 {a : Nat} (h : kd a = 1) (x : Int32) : (gW cy ad v u).set a (ad a, .inr (1, ([.ref (ad (a + 1)), .ref (ad (a + 2)), .ref (ad (a + 3)), .int (v a 3), .int (v a 4), .int (v a 5), .int (v a 6), .int (v a 7)] : List Value).set 3 (.int x))) = gW cy ad (up v a 3 x) u := gW_setv h (by decide) (by simp [gEr, up])
theorem gS_1_4 {a : Nat} (h : kd a = 1) (x : Int32) : (gW cy ad v u).set a (ad a, .inr (1, ([.ref (ad (a + 1)), .ref (ad (a + 2)), .ref (ad (a + 3)), .int (v a 3), .int (v a 4), .int (v a 5), .int (v a 6), .int (v a 7)] : List Value).set 4 (.int x))) = gW cy ad (up v a 4 x) u := gW_setv h (by decide) (by simp [gEr, up])
theorem gS_1_5 {a : Nat} (h : kd a = 1) (x : Int32) : (gW cy ad v u).set a (ad a, .inr (1, ([.ref (ad (a + 1)), .ref (ad (a + 2)), .ref (ad (a + 3)), .int (v a 3), .int (v a 4), .int (v a 5), .int (v a 6), .int (v a 7)] : List Value).set 5 (.int x))) = gW cy ad (up v a 5 x) u := gW_setv h (by decide) (by simp [gEr, up])
theorem gS_1_6 {a : Nat} (h : kd a = 1) (x : Int32) : (gW cy ad v u).set a (ad a, .inr (1, ([.ref (ad (a + 1)), .ref (ad (a + 2)), .ref (ad (a + 3)), .int (v a 3), .int (v a 4), .int (v a 5), .int (v a 6), .int (v a 7)] : List Value).set 6 (.int x))) = gW cy ad (up v a 6 x) u := gW_setv h (by decide) (by simp [gEr, up])
theorem gS_1_7 {a : Nat} (h : kd a = 1) (x : Int32) : (gW cy ad v u).set a (ad a, .inr (1, ([.ref (ad (a + 1)), .ref (ad (a + 2)), .ref (ad (a + 3)), .int (v a 3), .int (v a 4), .int (v a 5), .int (v a 6), .int (v a 7)] : List Value).set 7 (.int x))) = gW cy ad (up v a 7 x) u := gW_setv h (by decide) (by simp [gEr, up])
theorem gS_2_1 {a : Nat} (h : kd a = 2) (x : Int32) : (gW cy ad v u).set a (ad a, .inr (2, ([.ref (ad (a + 1)), .int (v a 1), .int (v a 2)] : List Value).set 1 (.int x))) = gW cy ad (up v a 1 x) u := gW_setv h (by decide) (by simp [gEr, up])
theorem gS_2_2 {a : Nat} (h : kd a = 2) (x : Int32) : (gW cy ad v u).set a (ad a, .inr (2, ([.ref (ad (a + 1)), .int (v a 1), .int (v a 2)] : List Value).set 2 (.int x))) = gW cy ad (up v a 2 x) u := gW_setv h (by decide) (by simp [gEr, up])
theorem gS_3_2 {a : Nat} (h : kd a = 3) (x : Int32) : (gW cy ad v u).set a (ad a, .inr (3, ([.ref (ad (a + 1)), .ref (ad (a + 5)), .int (v a 2), .int (v a 3), .int (v a 4), .int (v a 5), .int (v a 6), .int (v a 7), .int (v a 8)] : List Value).set 2 (.int x))) = gW cy ad (up v a 2 x) u := gW_setv h (by decide) (by simp [gEr, up])
theorem gS_3_3 {a : Nat} (h : kd a = 3) (x : Int32) : (gW cy ad v u).set a (ad a, .inr (3, ([.ref (ad (a + 1)), .ref (ad (a + 5)), .int (v a 2), .int (v a 3), .int (v a 4), .int (v a 5), .int (v a 6), .int (v a 7), .int (v a 8)] : List Value).set 3 (.int x))) = gW cy ad (up v a 3 x) u := gW_setv h (by decide) (by simp [gEr, up])
theorem gS_3_4 {a : Nat} (h : kd a = 3) (x : Int32) : (gW cy ad v u).set a (ad a, .inr (3, ([.ref (ad (a + 1)), .ref (ad (a + 5)), .int (v a 2), .int (v a 3), .int (v a 4), .int (v a 5), .int (v a 6), .int (v a 7), .int (v a 8)] : List Value).set 4 (.int x))) = gW cy ad (up v a 4 x) u := gW_setv h (by decide) (by simp [gEr, up])
theorem gS_3_5 {a : Nat} (h : kd a = 3) (x : Int32) : (gW cy ad v u).set a (ad a, .inr (3, ([.ref (ad (a + 1)), .ref (ad (a + 5)), .int (v a 2), .int (v a 3), .int (v a 4), .int (v a 5), .int (v a 6), .int (v a 7), .int (v a 8)] : List Value).set 5 (.int x))) = gW cy ad (up v a 5 x) u := gW_setv h (by decide) (by simp [gEr, up])
theorem gS_3_6 {a : Nat} (h : kd a = 3) (x : Int32) : (gW cy ad v u).set a (ad a, .inr (3, ([.ref (ad (a + 1)), .ref (ad (a + 5)), .int (v a 2), .int (v a 3), .int (v a 4), .int (v a 5), .int (v a 6), .int (v a 7), .int (v a 8)] : List Value).set 6 (.int x))) = gW cy ad (up v a 6 x) u := gW_setv h (by decide) (by simp [gEr, up])
theorem gS_3_7 {a : Nat} (h : kd a = 3) (x : Int32) : (gW cy ad v u).set a (ad a, .inr (3, ([.ref (ad (a + 1)), .ref (ad (a + 5)), .int (v a 2), .int (v a 3), .int (v a 4), .int (v a 5), .int (v a 6), .int (v a 7), .int (v a 8)] : List Value).set 7 (.int x))) = gW cy ad (up v a 7 x) u := gW_setv h (by decide) (by simp [gEr, up])
theorem gS_3_8 {a : Nat} (h : kd a = 3) (x : Int32) : (gW cy ad v u).set a (ad a, .inr (3, ([.ref (ad (a + 1)), .ref (ad (a + 5)), .int (v a 2), .int (v a 3), .int (v a 4), .int (v a 5), .int (v a 6), .int (v a 7), .int (v a 8)] : List Value).set 8 (.int x))) = gW cy ad (up v a 8 x) u := gW_setv h (by decide) (by simp [gEr, up])
theorem gS_4_3 {a : Nat} (h : kd a = 4) (x : Int32) : (gW cy ad v u).set a (ad a, .inr (4, ([.ref (ad (a + 1)), .ref (ad (a + 2)), .ref (ad (a + 3)), .int (v a 3), .int (v a 4), .int (v a 5)] : List Value).set 3 (.int x))) = gW cy ad (up v a 3 x) u := gW_setv h (by decide) (by simp [gEr, up])
theorem gS_4_4 {a : Nat} (h : kd a = 4) (x : Int32) : (gW cy ad v u).set a (ad a, .inr (4, ([.ref (ad (a + 1)), .ref (ad (a + 2)), .ref (ad (a + 3)), .int (v a 3), .int (v a 4), .int (v a 5)] : List Value).set 4 (.int x))) = gW cy ad (up v a 4 x) u := gW_setv h (by decide) (by simp [gEr, up])
theorem gS_4_5 {a : Nat} (h : kd a = 4) (x : Int32) : (gW cy ad v u).set a (ad a, .inr (4, ([.ref (ad (a + 1)), .ref (ad (a + 2)), .ref (ad (a + 3)), .int (v a 3), .int (v a 4), .int (v a 5)] : List Value).set 5 (.int x))) = gW cy ad (up v a 5 x) u := gW_setv h (by decide) (by simp [gEr, up])
theorem gS_5_5 {a : Nat} (h : kd a = 5) (x : Int32) : (gW cy ad v u).set a (ad a, .inr (5, ([.ref (ad 1), .ref (ad 3), .ref (ad 8), .ref (ad 17), .ref (ad 26), .int (v a 5), .int (v a 6)] : List Value).set 5 (.int x))) = gW cy ad (up v a 5 x) u := gW_setv h (by decide) (by simp [gEr, up])
theorem gS_5_6 {a : Nat} (h : kd a = 5) (x : Int32) : (gW cy ad v u).set a (ad a, .inr (5, ([.ref (ad 1), .ref (ad 3), .ref (ad 8), .ref (ad 17), .ref (ad 26), .int (v a 5), .int (v a 6)] : List Value).set 6 (.int x))) = gW cy ad (up v a 6 x) u := gW_setv h (by decide) (by simp [gEr, up])
theorem gS_10 {a : Nat} (h : kd a = 10) (i : Nat) (x : Int32) : (gW cy ad v u).set a (ad a, .inl (cy 1, 60, .inl (upd (v a) i x))) = gW cy ad (up v a i x) u := gW_setv h (by decide) (by rw [up_u]; rfl)
theorem gS_11 {a : Nat} (h : kd a = 11) (i : Nat) (x : Int32) : (gW cy ad v u).set a (ad a, .inl (cy 0, 8, .inl (upd (v a) i x))) = gW cy ad (up v a i x) u := gW_setv h (by decide) (by rw [up_u]; rfl)
theorem gS_12 {a : Nat} (h : kd a = 12) (i : Nat) (x : Int32) : (gW cy ad v u).set a (ad a, .inl (cy 0, 12, .inl (upd (v a) i x))) = gW cy ad (up v a i x) u := gW_setv h (by decide) (by rw [up_u]; rfl)
end GW
/-- what the class's own table of letters holds -/
def gLet : List Int32 := [108, 97, 109, 112, 32, 98, 111, 120, 32, 32, 107, 101, 121, 32, 32, 99, 111, 105, 110, 32, 98, 97, 108, 108, 32, 98, 97, 103, 32, 32, 114, 101, 100, 32, 32, 98, 108, 117, 101, 32, 111, 108, 100, 32, 32, 98, 105, 103, 32, 32, 116, 97, 107, 101, 32, 100, 114, 111, 112, 32, 112, 117, 116, 32, 32, 111, 112, 101, 110, 32, 99, 108, 111, 115, 101, 101, 97, 115, 116, 32, 119, 101, 115, 116, 32, 97, 108, 108, 32, 32, 98, 117, 116, 32, 32, 97, 110, 100, 32, 32, 105, 110, 32, 32, 32, 116, 104, 101, 32, 32, 105, 116, 32, 32, 32, 116, 104, 101, 109, 32, 111, 110, 101, 32, 32]
def gLetV (j : Nat) : Value := .int (gLet.getD j 0)
/-- what may be written: what was made behind the law's entry -/
def gA (z0 : Nat) : Nat → Prop := fun q => z0 ≤ q
def gI (z0 : Nat) (ad : Nat → Nat) : Prop := (∀ i j : Nat, i < 81 → j < 81 → ad i = ad j → i = j) ∧ ∀ k : Nat, k < 81 → z0 ≤ ad k
/-- the nest mates' links -/
def gNest : List Cond := [.methodLinkNest RX4 38 yX5_isContainerNoun RX5, .methodLinkNest RX4 31 yX5_isRoom RX5, .methodLinkNest RX2 63 yX5_isNoun RX5, .methodLinkNest RX2 60 yX5_isAdjectiveWord RX5, .methodLinkNest RX2 57 yX5_isVerbWord RX5, .methodLinkNest RX1 52 yX5_isAdjectiveWord RX5, .methodLinkNest RX1 45 yX5_isNoun RX5, .methodLinkNest RX1 42 yX5_isVerbWord RX5, .methodLinkNest RX0 27 yX5_letterOf RX5, .methodLinkNest RX0 23 yX5_lengthOf RX5, .methodLinkNest RX5 25 yX3_init RX5, .methodLinkNest RX5 18 yX2_init RX5, .methodLinkNest RX5 11 yX0_init RX5, .methodLinkNest RX3 20 yX1_init RX5, .methodLinkNest RX3 11 yX4_init RX5, .methodLinkNest RX2 11 yX1_init RX5]
/-- the tables, the class's static row of letters, the nest mates' links -/
def gK (D : va_G) (cy : Nat → ClassId) (tL z0 : Nat) (U : State) (H : Heap) : Prop := va_K D vwCl (gT cy) U ∧ va_Z "AdventureParser" "LETTERS" "[C" (.ref tL) (gA z0) U H ∧ va_T .char tL 125 gLetV (gA z0) U H ∧ (∀ w ∈ gNest, va_Nw w U) ∧ va_AO RX3 U
def gB (D : va_G) (cy : Nat → ClassId) (ad : Nat → Nat) (tL z0 : Nat) (v : gV) (u : Int64) (U : State) : Prop := va_P D vwCl (gW cy ad v u) U.heap ∧ gK D cy tL z0 U U.heap
section GB
variable {D : va_G} {cy : Nat → ClassId} {ad : Nat → Nat} {tL z0 : Nat} {v : gV} {u : Int64} {H : Heap} {s : State} {locs : List Loc}
theorem gD (hI : gI z0 ad) : va_D (gA z0) (gW cy ad v u) := by
  have key : ∀ (k : Nat) (q : Nat × va_E), (gW cy ad v u)[k]? = some q → k < 81 ∧ q.1 = ad k := by
    intro k q h
    have hk : k < 81 := by
      rcases Nat.lt_or_ge k 81 with z | z
      · exact z
      · rw [List.getElem?_eq_none (by rw [gW_len]; exact z)] at h
        cases h
    rw [gW_at hk] at h
    cases h
    exact ⟨hk, rfl⟩
  refine ⟨fun i j p q hp hq e => ?_, fun k q hq => ?_⟩
  · obtain ⟨a1, a2⟩ := key i p hp
    obtain ⟨b1, b2⟩ := key j q hq
    exact hI.1 i j a1 b1 (by rw [← a2, ← b2, e])
  · obtain ⟨a1, a2⟩ := key k q hq
    show z0 ≤ q.1
    rw [a2]
    exact hI.2 k a1
theorem gNest_warm {U : State} (hW : s.WarmedH U.vm) (h : ∀ w ∈ gNest, va_Nw w s) : ∀ w ∈ gNest, va_Nw w U := by
  intro w hw
  have hz := h w hw
  unfold gNest at hw
  simp only [List.mem_cons, List.not_mem_nil, or_false] at hw
  rcases hw with rfl | rfl | rfl | rfl | rfl | rfl | rfl | rfl | rfl | rfl | rfl | rfl | rfl | rfl | rfl | rfl <;> exact va_Nw.warmM hW hz
theorem gNest_same {U : State} (e : s.vm = U.vm) (h : ∀ w ∈ gNest, va_Nw w s) : ∀ w ∈ gNest, va_Nw w U := by
  intro w hw
  have hz := h w hw
  unfold gNest at hw
  simp only [List.mem_cons, List.not_mem_nil, or_false] at hw
  rcases hw with rfl | rfl | rfl | rfl | rfl | rfl | rfl | rfl | rfl | rfl | rfl | rfl | rfl | rfl | rfl | rfl <;> exact va_Nw.same rfl e hz
theorem gB_of {U : State} (hK : gK D cy tL z0 s s.heap) (hP : va_P D vwCl (gW cy ad v u) H) (hS : va_S (gA z0) s.heap H locs) (hU : U.heap = H) (hW : s.WarmedH U.vm) : gB D cy ad tL z0 v u U := by
  obtain ⟨k1, k2, k3, k4, x6⟩ := hK
  refine ⟨by rw [hU]; exact hP, k1.moved hW.alike, ?_, ?_, gNest_warm hW k4, x6.moved hW.alike⟩
  · rw [hU]
    exact (k2.kept hS.2.1).moved hW.alike
  · rw [hU]
    exact (k3.kept hS.2.1).moved hW.alike
theorem gBlind (av : List Value) : FrameBlind (va_Pc av (gB D cy ad tL z0 v u)) := by
  intro a U g mk q
  obtain ⟨q0, q1, k1, k2, k3, k4, x6⟩ := q
  have al : U.vm.Alike (U.calling g mk a).vm := Vm.Alike.refl U.vm
  exact ⟨q0, q1, va_K.moved (u := U) (U := U.calling g mk a) al k1, k2.moved (u := U) (U := U.calling g mk a) al, k3.moved (u := U) (U := U.calling g mk a) al, gNest_same (s := U) (U := U.calling g mk a) rfl k4, x6.moved (u := U) (U := U.calling g mk a) al⟩
end GB
abbrev gPc (D : va_G) (cy : Nat → ClassId) (ad : Nat → Nat) (tL z0 : Nat) (v : gV) (u : Int64) (av : List Value) : Array Value → State → Prop := va_Pc av (gB D cy ad tL z0 v u)
abbrev gQi (D : va_G) (cy : Nat → ClassId) (ad : Nat → Nat) (tL z0 : Nat) (v : gV) (u : Int64) (r0 : Int32) : Array Value → State → Outcome → State → Prop := va_Qi (fun (r : Int32) (_ : Unit) => r = r0) (fun _ t => gB D cy ad tL z0 v u t) (gA z0)
abbrev gQl (D : va_G) (cy : Nat → ClassId) (ad : Nat → Nat) (tL z0 : Nat) (v : gV) (u : Int64) (r0 : Int64) : Array Value → State → Outcome → State → Prop := va_Ql (fun (r : Int64) (_ : Unit) => r = r0) (fun _ t => gB D cy ad tL z0 v u t) (gA z0)
abbrev gQv (D : va_G) (cy : Nat → ClassId) (ad : Nat → Nat) (tL z0 : Nat) (v : gV) (u : Int64) : Array Value → State → Outcome → State → Prop := va_Qv (fun _ : Unit => True) (fun _ t => gB D cy ad tL z0 v u t) (gA z0)
