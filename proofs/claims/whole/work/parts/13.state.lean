/-! Words for the state: rows, bags, the store. Row: a b c key side lefts rights s1 s2 s3 live back forth (0 .. 12). -/
def rw_fs (f : Nat → Int32) : List Value := [.int (f 0), .int (f 1), .int (f 2), .int (f 3), .int (f 4), .int (f 5), .int (f 6), .int (f 7), .int (f 8), .int (f 9), .int (f 10), .int (f 11), .int (f 12)]
theorem rw_set (f : Nat → Int32) (x : Int32) {k : Nat} (hk : k < 13) : (rw_fs f).set k (.int x) = rw_fs (upd f k x) := by
  rcases (show k = 0 ∨ k = 1 ∨ k = 2 ∨ k = 3 ∨ k = 4 ∨ k = 5 ∨ k = 6 ∨ k = 7 ∨ k = 8 ∨ k = 9 ∨ k = 10 ∨ k = 11 ∨ k = 12 by omega) with rfl | rfl | rfl | rfl | rfl | rfl | rfl | rfl | rfl | rfl | rfl | rfl | rfl <;> rfl
theorem rw_ext {f g : Nat → Int32} (h : ∀ k, k < 13 → f k = g k) : rw_fs f = rw_fs g := by
  unfold rw_fs
  rw [h 0 (by decide), h 1 (by decide), h 2 (by decide), h 3 (by decide), h 4 (by decide), h 5 (by decide), h 6 (by decide), h 7 (by decide), h 8 (by decide), h 9 (by decide), h 10 (by decide), h 11 (by decide), h 12 (by decide)]
theorem pm_same (h : pm_H) (a : Nat) (c : pm_C) : va_up h a c a = c := by simp [va_up]
theorem pm_ne {h : pm_H} {a b : Nat} {c c' : pm_C} (hn : a ≠ b) (ha : h a = c) : va_up h b c' a = c := by simp [va_up, hn, ha]
theorem pm_up2 (h : pm_H) (a : Nat) (c c' : pm_C) : va_up (va_up h a c) a c' = va_up h a c' := by
  funext k
  by_cases hk : k = a <;> simp [va_up, hk]
abbrev rw_T : Type := Nat → Int32
def rw_cols (x y z : Int32) (f : rw_T) : rw_T := upd (upd (upd f 0 x) 1 y) 2 z
def rw_sort (x y z : Int32) (f : rw_T) : rw_T := upd (upd (upd f 7 x) 8 y) 9 z
def rw_col (k : Int32) (f : rw_T) : Int32 := if k = 0 then f 0 else if k = 1 then f 1 else f 2
def rw_keep (p r : Int32) (f : rw_T) : rw_T := upd (upd (upd f 10 1) 11 (p - r)) 12 0
def rw_partners (f : rw_T) : Int32 := if f 4 = 0 then f 6 else f 5
def rw_disc (f : rw_T) : rw_T := upd (upd (upd f 10 0) 11 0) 12 0
def rw_gt (f g : rw_T) : Bool := if f 7 = g 7 then (if f 8 = g 8 then decide (g 9 < f 9) else decide (g 8 < f 8)) else decide (g 7 < f 7)
def b2i (b : Bool) : Int32 := if b = true then 1 else 0
/-- the trace has an end -/
def tk (l : List Int32) : List Int32 := l.take 14688
theorem tk_app (l k : List Int32) : tk (tk l ++ k) = tk (l ++ k) := by
  unfold tk
  rw [List.take_append, List.take_append, List.take_take, Nat.min_self, List.length_take]
  congr 2
  omega
theorem tk_len (l : List Int32) : (tk l).length ≤ 14688 := by
  unfold tk
  rw [List.length_take]
  omega
/-- the store: its cell, its places, its trace, its rows; ix p is the number of the row that lies at place p -/
def so_at (n : Nat) (h : pm_H) (ix : Nat → Nat) (R : Nat → rw_T) (ts : List Int32) : Prop :=
  93 < n ∧ h 15 = pm_O cStore [.ref 16, .ref 17, .int (nI ts.length)] ∧ (∃ pf, h 16 = pm_R tRow 76 pf ∧ ∀ i, i < 76 → pf i = some (18 + ix i)) ∧ (∃ tf, h 17 = pm_I tInt 14688 tf ∧ ∀ i, i < ts.length → ts[i]? = some (tf i)) ∧ (∀ i, i < 76 → ix i < 76) ∧ (∀ j, j < 76 → h (18 + j) = pm_O cRow (rw_fs (R j)) ∧ (R j 10 = 0 ∨ R j 10 = 1)) ∧ ts.length ≤ 14688
def so_fr (h h' : pm_H) : Prop := ∀ q, q < 15 ∨ 93 < q → h' q = h q
theorem so_fr.rf {h : pm_H} : so_fr h h := fun _ _ => rfl
theorem so_fr.tr {h h' h'' : pm_H} (a : so_fr h h') (b : so_fr h' h'') : so_fr h h'' := fun q hq => (b q hq).trans (a q hq)
theorem so_at.row {n : Nat} {h : pm_H} {ix : Nat → Nat} {R : Nat → rw_T} {ts : List Int32} (H : so_at n h ix R ts) {j : Nat} (hj : j < 76) : h (18 + j) = pm_O cRow (rw_fs (R j)) := (H.2.2.2.2.2.1 j hj).1
/-- a row of the store is written -/
theorem so_at.mod {n : Nat} {h : pm_H} {ix : Nat → Nat} {R : Nat → rw_T} {ts : List Int32} (H : so_at n h ix R ts) {j : Nat} (hj : j < 76) {f : rw_T} (hf : f 10 = 0 ∨ f 10 = 1) : so_at n (va_up h (18 + j) (pm_O cRow (rw_fs f))) ix (va_up R j f) ts := by
  obtain ⟨h1, h2, ⟨pf, h3, h3'⟩, ⟨tf, h4, h4'⟩, h5, h6, h7⟩ := H
  refine ⟨h1, pm_ne (by omega) h2, ⟨pf, pm_ne (by omega) h3, h3'⟩, ⟨tf, pm_ne (by omega) h4, h4'⟩, h5, fun k hk => ?_, h7⟩
  by_cases e : k = j
  · subst e
    rw [pm_same]
    simp [va_up, hf]
  · have : 18 + k ≠ 18 + j := by omega
    have e2 : va_up R j f k = R k := by simp [va_up, e]
    rw [e2, pm_ne this (h6 k hk).1]
    exact ⟨rfl, (h6 k hk).2⟩
theorem so_fr.row {h : pm_H} {j : Nat} (hj : j < 76) (c : pm_C) : so_fr h (va_up h (18 + j) c) := fun q hq => pm_ne (by omega) rfl
/-- the store by its places: L p is the row that lies at place p -/
def so_L (n : Nat) (h : pm_H) (L : Nat → rw_T) (ts : List Int32) : Prop :=
  ∃ ix R, so_at n h ix R ts ∧ (∀ i j, i < 76 → j < 76 → ix i = ix j → i = j) ∧ ∀ i, i < 76 → L i = R (ix i)
/-- a row is read, changed and written back -/
theorem so_L.cl {n : Nat} {h : pm_H} {ix : Nat → Nat} {R : Nat → rw_T} {L : Nat → rw_T} {ts : List Int32} {p : Nat} {f : rw_T} (H : so_at n h ix (va_up R (ix p) f) ts) (hi : ∀ i j, i < 76 → j < 76 → ix i = ix j → i = j) (hL : ∀ i, i < 76 → L i = R (ix i)) (hp : p < 76) : so_L n h (va_up L p f) ts := by
  refine ⟨ix, _, H, hi, fun i hi' => ?_⟩
  by_cases e : i = p
  · subst e; simp [va_up]
  · have : ix i ≠ ix p := fun z => e (hi i p hi' hp z)
    simp [va_up, e, this, hL i hi']
/-- two rows change places -/
theorem so_L.sw {n : Nat} {h : pm_H} {ix : Nat → Nat} {R : Nat → rw_T} {L : Nat → rw_T} {ts : List Int32} {p q : Nat} (H : so_at n h (va_up (va_up ix p (ix q)) q (ix p)) R ts) (hi : ∀ i j, i < 76 → j < 76 → ix i = ix j → i = j) (hL : ∀ i, i < 76 → L i = R (ix i)) (hp : p < 76) (hq : q < 76) : so_L n h (nw_sw p q L) ts := by
  refine ⟨_, R, H, fun i j h1 h2 e => ?_, fun i hi' => ?_⟩
  · have hs : ∀ i, va_up (va_up ix p (ix q)) q (ix p) i = ix (if i = q then p else if i = p then q else i) := fun i => by
      simp only [va_up]
      by_cases a : i = q
      · simp [a]
      · rw [if_neg a, if_neg a]
        by_cases b : i = p <;> simp [b]
    have hb : ∀ i, i < 76 → (if i = q then p else if i = p then q else i) < 76 := fun i h => by
      split
      · exact hp
      · split
        · exact hq
        · exact h
    rw [hs, hs] at e
    have := hi _ _ (hb i h1) (hb j h2) e
    repeat' (split at this)
    all_goals omega
  · simp only [va_up, nw_sw]
    by_cases a : i = q
    · subst a
      by_cases b : i = p
      · subst b; simp [hL i hi']
      · simp [b, hL p hp]
    · by_cases b : i = p
      · subst b; simp [a, hL q hq]
      · simp [a, b, hL i hi']
/-- rows outside the store: c of them, by their columns, in the cells b .. b + 3 -/
abbrev bg_T : Type := Int32 × Int32 × Int32
def bg_at (n : Nat) (h : pm_H) (b len : Nat) (l : List bg_T) : Prop :=
  b + 3 < n ∧ l.length ≤ len ∧ len ≤ 24 ∧ h b = pm_O cBag [.ref (b + 1), .ref (b + 2), .ref (b + 3), .int (nI l.length)] ∧ ∃ f1 f2 f3, h (b + 1) = pm_I tInt len f1 ∧ h (b + 2) = pm_I tInt len f2 ∧ h (b + 3) = pm_I tInt len f3 ∧ ∀ r, r < l.length → l[r]? = some (f1 r, f2 r, f3 r)
theorem bg_at.fr {n n' : Nat} {h h' : pm_H} {b len : Nat} {l : List bg_T} (H : bg_at n h b len l) (hn : n ≤ n') (hf : ∀ q, b ≤ q → q ≤ b + 3 → h' q = h q) : bg_at n' h' b len l := by
  obtain ⟨h1, h2, h3, h4, f1, f2, f3, h5, h6, h7, h8⟩ := H
  exact ⟨by omega, h2, h3, by rw [hf b (by omega) (by omega)]; exact h4, f1, f2, f3, by rw [hf (b + 1) (by omega) (by omega)]; exact h5, by rw [hf (b + 2) (by omega) (by omega)]; exact h6, by rw [hf (b + 3) (by omega) (by omega)]; exact h7, h8⟩
