/-! ===== whole stretches of steps: fuel, the places that matter, one step more ===== -/
section WSL
variable {wh wh' : Nat → Int32} {nx nx' : Nat → Option Nat} {en en' : Nat → Nat} {W W' : Nat → Nat → Bool → Prop} {c : Bool}
theorem WP_lt : ∀ {n p e : Nat}, WP wh nx W c n p e → p < e
  | 0, p, e, ⟨q, h1, _, _, h4⟩ => Nat.lt_of_lt_of_le h1 (WE_prt h4).2
  | n + 1, p, e, ⟨q, h1, _, _, h4⟩ => h4.elim (fun z => Nat.lt_of_lt_of_le h1 (WE_prt z).2) (fun z => Nat.lt_trans h1 (WP_lt z.2))
theorem WE_mv {q e : Nat} (ha : ∀ i, q ≤ i → i ≤ e → wh' i = wh i ∧ nx' i = nx i) (hW : ∀ x y z, q < x → y ≤ e → W x y z → W' x y z) (h : WE wh nx W c q e) : WE wh' nx' W' c q e := by
  rcases h with ⟨h1, h2, h3⟩ | ⟨h1, h2, h3, h4, h5, h6⟩
  · subst h1
    obtain ⟨a1, a2⟩ := ha q (Nat.le_refl _) (Nat.le_refl _)
    exact Or.inl ⟨rfl, by rw [a1]; exact h2, by rw [a2]; exact h3⟩
  · obtain ⟨a1, a2⟩ := ha q (Nat.le_refl _) (by omega)
    obtain ⟨b1, b2⟩ := ha e (by omega) (Nat.le_refl _)
    exact Or.inr ⟨by rw [a1]; exact h1, h2, by rw [a2]; exact h3, by rw [b1]; exact h4, by rw [b2]; exact h5, hW _ _ _ (by omega) (Nat.le_refl _) h6⟩
theorem WP_mv : ∀ {n p e : Nat}, (∀ i, p ≤ i → i ≤ e → wh' i = wh i ∧ nx' i = nx i) → (∀ x y z, p < x → y ≤ e → W x y z → W' x y z) → WP wh nx W c n p e → WP wh' nx' W' c n p e
  | 0, p, e, ha, hW, ⟨q, h1, h2, h3, h4⟩ => by
    have hq := (WE_prt h4).2
    obtain ⟨a1, a2⟩ := ha p (Nat.le_refl _) (by omega)
    exact ⟨q, h1, by rw [a2]; exact h2, by rw [a1]; exact hW _ _ _ (by omega) hq h3, WE_mv (fun i z1 z2 => ha i (by omega) z2) (fun x y z z1 z2 => hW x y z (by omega) z2) h4⟩
  | n + 1, p, e, ha, hW, ⟨q, h1, h2, h3, h4⟩ => by
    have hq : q ≤ e := h4.elim (fun z => (WE_prt z).2) (fun z => Nat.le_of_lt (WP_lt z.2))
    obtain ⟨a1, a2⟩ := ha p (Nat.le_refl _) (by omega)
    obtain ⟨b1, b2⟩ := ha q (by omega) hq
    refine ⟨q, h1, by rw [a2]; exact h2, by rw [a1]; exact hW _ _ _ (by omega) hq h3, ?_⟩
    rcases h4 with h4 | ⟨h4, h5⟩
    · exact Or.inl (WE_mv (fun i z1 z2 => ha i (by omega) z2) (fun x y z z1 z2 => hW x y z (by omega) z2) h4)
    · exact Or.inr ⟨by rw [b1]; exact h4, WP_mv (fun i z1 z2 => ha i (by omega) z2) (fun x y z z1 z2 => hW x y z (by omega) z2) h5⟩
end WSL
section WSM
variable {wh wh' : Nat → Int32} {nx nx' : Nat → Option Nat} {en en' : Nat → Nat}
theorem WS_le : ∀ {k n : Nat} {l : Bool} {f t : Nat} {c : Bool}, WS wh nx en k n l f t c → f ≤ t
  | 0, n, l, f, t, c, h => Nat.le_of_eq h
  | k + 1, n, l, f, t, c, h => h.elim Nat.le_of_eq (fun z => Nat.le_of_lt z.1)
theorem WS_nil : ∀ (k n : Nat) (l : Bool) (f : Nat) (c : Bool), WS wh nx en k n l f f c
  | 0, _, _, _, _ => rfl
  | _ + 1, _, _, _, _ => Or.inl rfl
theorem WS_mv : ∀ (k n : Nat) (l : Bool) (f t : Nat) (c : Bool) (k' : Nat), WS wh nx en k n l f t c → (∀ i, f ≤ i → i < t → wh' i = wh i ∧ nx' i = nx i ∧ en' i = en i) → t + 1 ≤ f + k' → WS wh' nx' en' k' n l f t c
  | 0, n, l, f, t, c, k', h, ha, hk => by
    have h' : f = t := h
    subst h'
    exact WS_nil k' n l f c
  | k + 1, n, l, f, t, c, 0, h, ha, hk => absurd (WS_le h) (by omega)
  | k + 1, n, l, f, t, c, k' + 1, h, ha, hk => by
    rcases h with h | ⟨hft, h⟩
    · exact Or.inl h
    · refine Or.inr ⟨hft, ?_⟩
      obtain ⟨a1, a2, a3⟩ := ha f (Nat.le_refl f) hft
      rcases h with ⟨h1, h2, h3, h4, h5, h6⟩ | ⟨e, m, h1, h2, h3, h4, h5, h6⟩
      · exact Or.inl ⟨by rw [a1]; exact h1, by rw [a1]; exact h2, by rw [a3]; exact h3, by rw [a1]; exact h4, by rw [a1]; exact h5, WS_mv k n l (f + 1) t c k' h6 (fun i z1 z2 => ha i (by omega) z2) (by omega)⟩
      · refine Or.inr ⟨e, m, h1, h2, h3, by rw [a3]; exact h4, WS_mv k n l (e + 1) t c k' h5 (fun i z1 z2 => ha i (by omega) z2) (by omega), ?_⟩
        obtain ⟨b1, b2, b3⟩ := ha e (by omega) h3
        rcases h6 with ⟨g1, g2⟩ | ⟨g1, g2, g3, g4⟩ | ⟨g1, g2, g3, g4⟩
        · exact Or.inl ⟨by rw [a1]; exact g1, WP_mv (fun i z1 z2 => ⟨(ha i z1 (by omega)).1, (ha i z1 (by omega)).2.1⟩) (fun x y z z1 z2 hh => WS_mv k m l x y z k' hh (fun i y1 y2 => ha i (by omega) (by omega)) (by omega)) g2⟩
        · exact Or.inr (Or.inl ⟨by rw [a1]; exact g1, by rw [a2]; exact g2, by rw [b1]; exact g3, WS_mv k m l (f + 1) e c k' g4 (fun i y1 y2 => ha i (by omega) (by omega)) (by omega)⟩)
        · exact Or.inr (Or.inr ⟨by rw [a1]; exact g1, by rw [a2]; exact g2, by rw [b1]; exact g3, WS_mv k m true (f + 1) e c k' g4 (fun i y1 y2 => ha i (by omega) (by omega)) (by omega)⟩)
/-- one step, or one whole block, from f up to f' -/
def ST (wh : Nat → Int32) (nx : Nat → Option Nat) (en : Nat → Nat) (k n : Nat) (l : Bool) (f f' : Nat) (c : Bool) : Prop :=
  (f' = f + 1 ∧ ¬ isOpn (wh f) ∧ ¬ isPrt (wh f) ∧ en f = f ∧ (wh f = 5 → l = true) ∧ ((wh f = 8 ∨ wh f = 9 ∨ wh f = 10) → c = true)) ∨
  (∃ e m : Nat, n = m + 1 ∧ f < e ∧ f' = e + 1 ∧ en f = e ∧ ((wh f = 1 ∧ WP wh nx (fun x y z => WS wh nx en k m l x y z) c 3 f e) ∨ (wh f = 11 ∧ nx f = some e ∧ wh e = 0 ∧ WS wh nx en k m l (f + 1) e c) ∨ (wh f = 4 ∧ nx f = some e ∧ wh e = 0 ∧ WS wh nx en k m true (f + 1) e c)))
theorem ST_lt {k n : Nat} {l : Bool} {f f' : Nat} {c : Bool} (h : ST wh nx en k n l f f' c) : f < f' := by
  rcases h with h | ⟨e, m, h1, h2, h3, h4⟩
  · have := h.1; omega
  · omega
theorem WS_cons {k n : Nat} {l : Bool} {f f' t : Nat} {c : Bool} (h : ST wh nx en k n l f f' c) (hk : WS wh nx en k n l f' t c) : WS wh nx en (k + 1) n l f t c := by
  have h1 := WS_le hk
  have h2 := ST_lt h
  refine Or.inr ⟨by omega, ?_⟩
  rcases h with ⟨rfl, g1, g2, g3, g4, g5⟩ | ⟨e, m, g1, g2, rfl, g4, g5⟩
  · exact Or.inl ⟨g1, g2, g3, g4, g5, hk⟩
  · exact Or.inr ⟨e, m, g1, g2, by omega, g4, hk, g5⟩
theorem WS_uncons {k n : Nat} {l : Bool} {f t : Nat} {c : Bool} (h : WS wh nx en (k + 1) n l f t c) : f = t ∨ ∃ f', ST wh nx en k n l f f' c ∧ WS wh nx en k n l f' t c := by
  rcases h with h | ⟨h0, h⟩
  · exact Or.inl h
  · rcases h with ⟨g1, g2, g3, g4, g5, g6⟩ | ⟨e, m, g1, g2, g3, g4, g5, g6⟩
    · exact Or.inr ⟨f + 1, Or.inl ⟨rfl, g1, g2, g3, g4, g5⟩, g6⟩
    · exact Or.inr ⟨e + 1, Or.inr ⟨e, m, g1, g2, rfl, g4, g6⟩, g5⟩
theorem ST_fuel {k n : Nat} {l : Bool} {f f' : Nat} {c : Bool} (k' : Nat) (hk : f' ≤ f + k' + 1) (h : ST wh nx en k n l f f' c) : ST wh nx en k' n l f f' c := by
  rcases h with h | ⟨e, m, h1, h2, h3, h4, h5⟩
  · exact Or.inl h
  · refine Or.inr ⟨e, m, h1, h2, h3, h4, ?_⟩
    rcases h5 with ⟨g1, g2⟩ | ⟨g1, g2, g3, g4⟩ | ⟨g1, g2, g3, g4⟩
    · exact Or.inl ⟨g1, WP_mv (fun _ _ _ => ⟨rfl, rfl⟩) (fun x y z z1 z2 hh => WS_mv k m l x y z k' hh (fun _ _ _ => ⟨rfl, rfl, rfl⟩) (by omega)) g2⟩
    · exact Or.inr (Or.inl ⟨g1, g2, g3, WS_mv k m l (f + 1) e c k' g4 (fun _ _ _ => ⟨rfl, rfl, rfl⟩) (by omega)⟩)
    · exact Or.inr (Or.inr ⟨g1, g2, g3, WS_mv k m true (f + 1) e c k' g4 (fun _ _ _ => ⟨rfl, rfl, rfl⟩) (by omega)⟩)
theorem WS_snoc {k2 n : Nat} {l : Bool} {t t' : Nat} {c : Bool} (hs : ST wh nx en k2 n l t t' c) : ∀ (k f : Nat), WS wh nx en k n l f t c → ∃ K, WS wh nx en K n l f t' c
  | 0, f, h => by
    have h' : f = t := h
    subst h'
    exact ⟨k2 + 1, WS_cons hs (WS_nil _ _ _ _ _)⟩
  | k + 1, f, h => by
    rcases WS_uncons h with h | ⟨f', h1, h2⟩
    · subst h
      exact ⟨k2 + 1, WS_cons hs (WS_nil _ _ _ _ _)⟩
    · obtain ⟨K, hK⟩ := WS_snoc hs k f' h2
      have a1 := ST_lt h1
      have a2 := WS_le hK
      exact ⟨t' + 1 + 1, WS_cons (ST_fuel (t' + 1) (by omega) h1) (WS_mv K n l f' t' c (t' + 1) hK (fun _ _ _ => ⟨rfl, rfl, rfl⟩) (by omega))⟩
end WSM
/-! ===== open blocks, the innermost first: opener, part, CATCH parts so far ===== -/
/-- the parts so far: x CATCH parts, the last of them (or the TRY) at p -/
def PX (wh : Nat → Int32) (nx : Nat → Option Nat) (W : Nat → Nat → Bool → Prop) (c : Bool) (o : Nat) : Nat → Nat → Prop
  | 0, p => p = o
  | x + 1, p => ∃ p' : Nat, PX wh nx W c o x p' ∧ p' < p ∧ nx p' = some p ∧ W (p' + 1) p (c || decide (wh p' = 2)) ∧ wh p = 2
theorem PX_le {wh : Nat → Int32} {nx : Nat → Option Nat} {W : Nat → Nat → Bool → Prop} {c : Bool} {o : Nat} : ∀ {x p : Nat}, PX wh nx W c o x p → o ≤ p
  | 0, p, h => Nat.le_of_eq (Eq.symm h)
  | x + 1, p, ⟨p', h1, h2, _⟩ => by have := PX_le h1; omega
theorem PX_mv {wh wh' : Nat → Int32} {nx nx' : Nat → Option Nat} {W W' : Nat → Nat → Bool → Prop} {c : Bool} {o : Nat} : ∀ {x p : Nat}, (∀ i, o ≤ i → i ≤ p → wh' i = wh i) → (∀ i, o ≤ i → i < p → nx' i = nx i) → (∀ a b z, o < a → b ≤ p → W a b z → W' a b z) → PX wh nx W c o x p → PX wh' nx' W' c o x p
  | 0, p, _, _, _, h => h
  | x + 1, p, h1, h2, h3, ⟨p', g1, g2, g3, g4, g5⟩ => by
    have hp := PX_le g1
    exact ⟨p', PX_mv (fun i z1 z2 => h1 i z1 (by omega)) (fun i z1 z2 => h2 i z1 (by omega)) (fun a b z z1 z2 => h3 a b z z1 (by omega)) g1, g2, by rw [h2 p' hp g2]; exact g3, by rw [h1 p' hp (by omega)]; exact h3 _ _ _ (by omega) (Nat.le_refl _) g4, by rw [h1 p (by omega) (Nat.le_refl _)]; exact g5⟩
theorem PX_WP {wh : Nat → Int32} {nx : Nat → Option Nat} {W : Nat → Nat → Bool → Prop} {c : Bool} {o e : Nat} : ∀ {x n p : Nat}, PX wh nx W c o x p → WP wh nx W c n p e → WP wh nx W c (n + x) o e
  | 0, n, p, h, k => by
    have h' : p = o := h
    subst h'
    exact k
  | x + 1, n, p, ⟨p', g1, g2, g3, g4, g5⟩, k => by
    have : WP wh nx W c (n + 1) p' e := ⟨p, g2, g3, g4, Or.inr ⟨g5, k⟩⟩
    have := PX_WP g1 this
    rw [show n + (x + 1) = n + 1 + x by omega]
    exact this
theorem WP_one {wh : Nat → Int32} {nx : Nat → Option Nat} {W : Nat → Nat → Bool → Prop} {c : Bool} {p q e : Nat} (h1 : p < q) (h2 : nx p = some q) (h3 : W (p + 1) q (c || decide (wh p = 2))) (h4 : WE wh nx W c q e) : ∀ n, WP wh nx W c n p e
  | 0 => ⟨q, h1, h2, h3, h4⟩
  | _ + 1 => ⟨q, h1, h2, h3, Or.inl h4⟩
def WSx (wh : Nat → Int32) (nx : Nat → Option Nat) (en : Nat → Nat) (n : Nat) (l : Bool) (x y : Nat) (z : Bool) : Prop := ∃ k, WS wh nx en k n l x y z
def BK (wh : Nat → Int32) (nx : Nat → Option Nat) (en : Nat → Nat) (n : Nat) (l0 c0 : Bool) (o p x : Nat) (l c : Bool) : Prop :=
  (wh o = 11 ∧ p = o ∧ x = 0 ∧ l = l0 ∧ c = c0) ∨ (wh o = 4 ∧ p = o ∧ x = 0 ∧ l = true ∧ c = c0) ∨
  (wh o = 1 ∧ l = l0 ∧ x ≤ 3 ∧ ((PX wh nx (WSx wh nx en n l) c0 o x p ∧ c = (c0 || decide (wh p = 2))) ∨ (∃ p' : Nat, PX wh nx (WSx wh nx en n l) c0 o x p' ∧ p' < p ∧ nx p' = some p ∧ WSx wh nx en n l (p' + 1) p (c0 || decide (wh p' = 2)) ∧ wh p = 3 ∧ c = c0)))
/-- the open blocks bs: the innermost open stretch begins at f, n levels may still open in it -/
def CT (wh : Nat → Int32) (nx : Nat → Option Nat) (en : Nat → Nat) : List (Nat × Nat × Nat) → Nat → Bool → Bool → Nat → Prop
  | [], n, l, c, f => n = 6 ∧ l = false ∧ c = false ∧ f = 0
  | (o, p, x) :: bs, n, l, c, f => f = p + 1 ∧ o ≤ p ∧ ∃ (l0 c0 : Bool) (f0 k : Nat), CT wh nx en bs (n + 1) l0 c0 f0 ∧ WS wh nx en k (n + 1) l0 f0 o c0 ∧ BK wh nx en n l0 c0 o p x l c
def CTX (wh : Nat → Int32) (nx : Nat → Option Nat) (en : Nat → Nat) (bs : List (Nat × Nat × Nat)) (s : Nat) : Prop := ∃ (n : Nat) (l c : Bool) (f k : Nat), CT wh nx en bs n l c f ∧ WS wh nx en k n l f s c
section CTL
variable {wh wh' : Nat → Int32} {nx nx' : Nat → Option Nat} {en en' : Nat → Nat}
theorem WSx_mv {n : Nat} {l : Bool} {x y : Nat} {z : Bool} (ha : ∀ i, x ≤ i → i < y → wh' i = wh i ∧ nx' i = nx i ∧ en' i = en i) (h : WSx wh nx en n l x y z) : WSx wh' nx' en' n l x y z := by
  obtain ⟨k, h⟩ := h
  exact ⟨y + 1, WS_mv k n l x y z (y + 1) h ha (by omega)⟩
theorem BK_mv {n : Nat} {l0 c0 l c : Bool} {o p x : Nat} (hop : o ≤ p) (ha : ∀ i, o ≤ i → i ≤ p → wh' i = wh i) (hb : ∀ i, o ≤ i → i < p → nx' i = nx i) (hc : ∀ i, o < i → i < p → en' i = en i) (h : BK wh nx en n l0 c0 o p x l c) : BK wh' nx' en' n l0 c0 o p x l c := by
  have e1 := ha o (Nat.le_refl _) hop
  have e2 := ha p hop (Nat.le_refl _)
  have hW : ∀ q, q ≤ p → ∀ a b z, o < a → b ≤ q → WSx wh nx en n l a b z → WSx wh' nx' en' n l a b z := fun q hq a b z z1 z2 hh => WSx_mv (fun i y1 y2 => ⟨ha i (by omega) (by omega), hb i (by omega) (by omega), hc i (by omega) (by omega)⟩) hh
  rcases h with ⟨h1, h2⟩ | ⟨h1, h2⟩ | ⟨h1, h2, h3, h4⟩
  · exact Or.inl ⟨by rw [e1]; exact h1, h2⟩
  · exact Or.inr (Or.inl ⟨by rw [e1]; exact h1, h2⟩)
  · refine Or.inr (Or.inr ⟨by rw [e1]; exact h1, h2, h3, ?_⟩)
    rcases h4 with ⟨g1, g2⟩ | ⟨p', g1, g2, g3, g4, g5, g6⟩
    · exact Or.inl ⟨PX_mv ha hb (hW p (Nat.le_refl _)) g1, by rw [e2]; exact g2⟩
    · have hp := PX_le g1
      exact Or.inr ⟨p', PX_mv (fun i z1 z2 => ha i z1 (by omega)) (fun i z1 z2 => hb i z1 (by omega)) (fun a b z z1 z2 => hW p (Nat.le_refl _) a b z z1 (by omega)) g1, g2, by rw [hb p' hp g2]; exact g3, by rw [ha p' hp (by omega)]; exact hW p (Nat.le_refl _) _ _ _ (by omega) (Nat.le_refl _) g4, by rw [e2]; exact g5, g6⟩
theorem CT_mv : ∀ (bs : List (Nat × Nat × Nat)) (n : Nat) (l c : Bool) (f : Nat), (∀ i, i < f → wh' i = wh i ∧ nx' i = nx i ∧ en' i = en i) → CT wh nx en bs n l c f → CT wh' nx' en' bs n l c f
  | [], n, l, c, f, _, h => h
  | (o, p, x) :: bs, n, l, c, f, ha, ⟨h1, h2, l0, c0, f0, k, h3, h4, h5⟩ => by
    have := WS_le h4
    exact ⟨h1, h2, l0, c0, f0, o + 1, CT_mv bs (n + 1) l0 c0 f0 (fun i z => ha i (by omega)) h3, WS_mv k (n + 1) l0 f0 o c0 (o + 1) h4 (fun i z1 z2 => ha i (by omega)) (by omega), BK_mv h2 (fun i z1 z2 => (ha i (by omega)).1) (fun i z1 z2 => (ha i (by omega)).2.1) (fun i z1 z2 => (ha i (by omega)).2.2) h5⟩
theorem CT_len : ∀ (bs : List (Nat × Nat × Nat)) (n : Nat) (l c : Bool) (f : Nat), CT wh nx en bs n l c f → n + bs.length = 6
  | [], n, l, c, f, h => by have := h.1; rw [List.length_nil]; omega
  | (o, p, x) :: bs, n, l, c, f, ⟨h1, h2, l0, c0, f0, k, h3, h4, h5⟩ => by have := CT_len bs _ _ _ _ h3; rw [List.length_cons]; omega
theorem BK_x {n : Nat} {l0 c0 l c : Bool} {o p x : Nat} (h : BK wh nx en n l0 c0 o p x l c) : x ≤ 3 := by
  rcases h with h | h | h
  · have := h.2.2.1; omega
  · have := h.2.2.1; omega
  · exact h.2.2.1
/-- places of the blocks -/
theorem CT_at : ∀ (bs : List (Nat × Nat × Nat)) (n : Nat) (l c : Bool) (f : Nat), CT wh nx en bs n l c f → ∀ b ∈ bs, b.1 ≤ b.2.1 ∧ b.2.1 < f ∧ b.2.2 ≤ 3 ∧ (wh b.1 = 4 → b.2.1 = b.1)
  | [], n, l, c, f, _, b, hb => absurd hb List.not_mem_nil
  | (o, p, x) :: bs, n, l, c, f, ⟨h1, h2, l0, c0, f0, k, h3, h4, h5⟩, b, hb => by
    rcases List.mem_cons.mp hb with rfl | hb
    · refine ⟨h2, by show p < f; omega, BK_x h5, fun h => ?_⟩
      rcases h5 with g | g | g
      · rw [g.1] at h; exact absurd h (by decide)
      · exact g.2.1
      · rw [g.1] at h; exact absurd h (by decide)
    · obtain ⟨a1, a2, a3⟩ := CT_at bs _ _ _ _ h3 b hb
      have := WS_le h4
      exact ⟨a1, by omega, a3⟩
theorem CT_loop : ∀ (bs : List (Nat × Nat × Nat)) (n : Nat) (l c : Bool) (f : Nat), CT wh nx en bs n l c f → (∃ b ∈ bs, wh b.1 = 4) → l = true
  | [], n, l, c, f, _, ⟨b, hb, _⟩ => absurd hb List.not_mem_nil
  | (o, p, x) :: bs, n, l, c, f, ⟨h1, h2, l0, c0, f0, k, h3, h4, h5⟩, ⟨b, hb, hw⟩ => by
    rcases h5 with g | g | g
    · rcases List.mem_cons.mp hb with rfl | hb
      · rw [g.1] at hw; exact absurd hw (by decide)
      · rw [g.2.2.2.1]; exact CT_loop bs _ _ _ _ h3 ⟨b, hb, hw⟩
    · exact g.2.2.2.1
    · rcases List.mem_cons.mp hb with rfl | hb
      · rw [g.1] at hw; exact absurd hw (by decide)
      · rw [g.2.1]; exact CT_loop bs _ _ _ _ h3 ⟨b, hb, hw⟩
theorem CT_catch : ∀ (bs : List (Nat × Nat × Nat)) (n : Nat) (l c : Bool) (f : Nat), CT wh nx en bs n l c f → (∃ b ∈ bs, wh b.2.1 = 2) → c = true
  | [], n, l, c, f, _, ⟨b, hb, _⟩ => absurd hb List.not_mem_nil
  | (o, p, x) :: bs, n, l, c, f, ⟨h1, h2, l0, c0, f0, k, h3, h4, h5⟩, ⟨b, hb, hw⟩ => by
    have hr : b ∈ bs → c0 = true := fun z => CT_catch bs _ _ _ _ h3 ⟨b, z, hw⟩
    rcases h5 with g | g | ⟨g1, g2, g3, g4⟩
    · rcases List.mem_cons.mp hb with rfl | hb
      · rw [g.2.1, g.1] at hw; exact absurd hw (by decide)
      · rw [g.2.2.2.2]; exact hr hb
    · rcases List.mem_cons.mp hb with rfl | hb
      · rw [g.2.1, g.1] at hw; exact absurd hw (by decide)
      · rw [g.2.2.2.2]; exact hr hb
    · rcases g4 with ⟨y1, y2⟩ | ⟨p', y1, y2, y3, y4, y5, y6⟩
      · rcases List.mem_cons.mp hb with rfl | hb
        · rw [y2, show wh p = 2 from hw]; simp
        · rw [y2, hr hb]; rfl
      · rcases List.mem_cons.mp hb with rfl | hb
        · rw [y5] at hw; exact absurd hw (by decide)
        · rw [y6]; exact hr hb
theorem CTX_plain {bs : List (Nat × Nat × Nat)} {s : Nat} (h : CTX wh nx en bs s) (ha : ∀ i, i < s → wh' i = wh i ∧ nx' i = nx i ∧ en' i = en i) (h1 : ¬ isOpn (wh' s)) (h2 : ¬ isPrt (wh' s)) (h3 : en' s = s) (h5 : wh' s = 5 → ∃ b ∈ bs, wh b.1 = 4) (h6 : (wh' s = 8 ∨ wh' s = 9 ∨ wh' s = 10) → ∃ b ∈ bs, wh b.2.1 = 2) : CTX wh' nx' en' bs (s + 1) := by
  obtain ⟨n, l, c, f, k, hC, hW⟩ := h
  have hf := WS_le hW
  have hW' := WS_mv k n l f s c (s + 1) hW (fun i z1 z2 => ha i z2) (by omega)
  obtain ⟨K, hK⟩ := WS_snoc (k2 := 0) (t' := s + 1) (Or.inl ⟨rfl, h1, h2, h3, fun z => CT_loop bs _ _ _ _ hC (h5 z), fun z => CT_catch bs _ _ _ _ hC (h6 z)⟩) (s + 1) f hW'
  exact ⟨n, l, c, f, K, CT_mv bs n l c f (fun i z => ha i (by omega)) hC, hK⟩
theorem CTX_open {bs : List (Nat × Nat × Nat)} {s : Nat} (h : CTX wh nx en bs s) (hlen : bs.length < 6) (ha : ∀ i, i < s → wh' i = wh i ∧ nx' i = nx i ∧ en' i = en i) (h1 : isOpn (wh' s)) : CTX wh' nx' en' ((s, s, 0) :: bs) (s + 1) := by
  obtain ⟨n, l, c, f, k, hC, hW⟩ := h
  have hf := WS_le hW
  have hl := CT_len bs _ _ _ _ hC
  obtain ⟨m, rfl⟩ : ∃ m, n = m + 1 := ⟨n - 1, by omega⟩
  have hW' := WS_mv k (m + 1) l f s c (s + 1) hW (fun i z1 z2 => ha i z2) (by omega)
  have hC' := CT_mv bs (m + 1) l c f (fun i z => ha i (by omega)) hC
  rcases h1 with h1 | h1 | h1
  · exact ⟨m, l, c, s + 1, 0, ⟨rfl, Nat.le_refl _, l, c, f, s + 1, hC', hW', Or.inr (Or.inr ⟨h1, rfl, by omega, Or.inl ⟨rfl, by rw [h1]; simp⟩⟩)⟩, rfl⟩
  · exact ⟨m, true, c, s + 1, 0, ⟨rfl, Nat.le_refl _, l, c, f, s + 1, hC', hW', Or.inr (Or.inl ⟨h1, rfl, rfl, rfl, rfl⟩)⟩, rfl⟩
  · exact ⟨m, l, c, s + 1, 0, ⟨rfl, Nat.le_refl _, l, c, f, s + 1, hC', hW', Or.inl ⟨h1, rfl, rfl, rfl, rfl⟩⟩, rfl⟩
/-- a part begins at s: CATCH or FINALLY -/
theorem CTX_part {bs : List (Nat × Nat × Nat)} {o p x x' s : Nat} (h : CTX wh nx en ((o, p, x) :: bs) s) (ha : ∀ i, i < s → wh' i = wh i ∧ (¬ i = p → nx' i = nx i) ∧ en' i = en i) (ho : wh o = 1) (hp : ¬ wh p = 3) (hn : nx' p = some s) (h1 : (wh' s = 2 ∧ x < 3 ∧ x' = x + 1) ∨ (wh' s = 3 ∧ x' = x)) : CTX wh' nx' en' ((o, s, x') :: bs) (s + 1) := by
  obtain ⟨n, l, c, f, k, ⟨rfl, hop, l0, c0, f0, k0, hC, hW0, hB⟩, hW⟩ := h
  have hf := WS_le hW
  have hf0 := WS_le hW0
  have hC' := CT_mv (wh' := wh') (nx' := nx') (en' := en') bs (n + 1) l0 c0 f0 (fun i z => ⟨(ha i (by omega)).1, (ha i (by omega)).2.1 (by omega), (ha i (by omega)).2.2⟩) hC
  have hW0' := WS_mv (wh' := wh') (nx' := nx') (en' := en') k0 (n + 1) l0 f0 o c0 (o + 1) hW0 (fun i z1 z2 => ⟨(ha i (by omega)).1, (ha i (by omega)).2.1 (by omega), (ha i (by omega)).2.2⟩) (by omega)
  have hW' : WSx wh' nx' en' n l (p + 1) s c := ⟨s + 1, WS_mv k n l (p + 1) s c (s + 1) hW (fun i z1 z2 => ⟨(ha i z2).1, (ha i z2).2.1 (by omega), (ha i z2).2.2⟩) (by omega)⟩
  rcases hB with g | g | ⟨g1, g2, g3, g4⟩
  · rw [g.1] at ho; exact absurd ho (by decide)
  · rw [g.1] at ho; exact absurd ho (by decide)
  obtain ⟨y1, y2⟩ := g4.resolve_right (fun ⟨p', y1, y2, y3, y4, y5, y6⟩ => hp y5)
  have y1' : PX wh' nx' (WSx wh' nx' en' n l) c0 o x p := PX_mv (fun i z1 z2 => (ha i (by omega)).1) (fun i z1 z2 => (ha i (by omega)).2.1 (by omega)) (fun a b z z1 z2 hh => WSx_mv (fun i q1 q2 => ⟨(ha i (by omega)).1, (ha i (by omega)).2.1 (by omega), (ha i (by omega)).2.2⟩) hh) y1
  have e1 : wh' o = 1 := by rw [(ha o (by omega)).1]; exact ho
  have ew : wh' p = wh p := (ha p (by omega)).1
  rw [y2, ← ew] at hW'
  rcases h1 with ⟨z1, z2, rfl⟩ | ⟨z1, rfl⟩
  · exact ⟨n, l, c0 || decide (wh' s = 2), s + 1, 0, ⟨rfl, by omega, l0, c0, f0, o + 1, hC', hW0', Or.inr (Or.inr ⟨e1, g2, by omega, Or.inl ⟨⟨p, y1', by omega, hn, hW', z1⟩, rfl⟩⟩)⟩, rfl⟩
  · exact ⟨n, l, c0, s + 1, 0, ⟨rfl, by omega, l0, c0, f0, o + 1, hC', hW0', Or.inr (Or.inr ⟨e1, g2, g3, Or.inr ⟨p, y1', by omega, hn, hW', z1, rfl⟩⟩)⟩, rfl⟩
/-- a block ends at s -/
theorem CTX_close {bs : List (Nat × Nat × Nat)} {o p x s : Nat} (h : CTX wh nx en ((o, p, x) :: bs) s) (ha : ∀ i, i < s → wh' i = wh i ∧ (¬ i = p → nx' i = nx i) ∧ (¬ i = o → en' i = en i)) (hn : nx' p = some s) (he : en' o = s) (h1 : wh' s = 0) (h2 : nx' s = none) : CTX wh' nx' en' bs (s + 1) := by
  obtain ⟨n, l, c, f, k, ⟨rfl, hop, l0, c0, f0, k0, hC, hW0, hB⟩, hW⟩ := h
  have hf := WS_le hW
  have hf0 := WS_le hW0
  have hC' := CT_mv (wh' := wh') (nx' := nx') (en' := en') bs (n + 1) l0 c0 f0 (fun i z => ⟨(ha i (by omega)).1, (ha i (by omega)).2.1 (by omega), (ha i (by omega)).2.2 (by omega)⟩) hC
  have hW0' := WS_mv (wh' := wh') (nx' := nx') (en' := en') k0 (n + 1) l0 f0 o c0 (o + 1) hW0 (fun i z1 z2 => ⟨(ha i (by omega)).1, (ha i (by omega)).2.1 (by omega), (ha i (by omega)).2.2 (by omega)⟩) (by omega)
  have hW' : WS wh' nx' en' (s + 1) n l (p + 1) s c := WS_mv k n l (p + 1) s c (s + 1) hW (fun i z1 z2 => ⟨(ha i z2).1, (ha i z2).2.1 (by omega), (ha i z2).2.2 (by omega)⟩) (by omega)
  have eo : wh' o = wh o := (ha o (by omega)).1
  have ep : wh' p = wh p := (ha p (by omega)).1
  have hST : ST wh' nx' en' (s + 1) (n + 1) l0 o (s + 1) c0 := by
    refine Or.inr ⟨s, n, rfl, by omega, rfl, he, ?_⟩
    rcases hB with ⟨g1, rfl, g3, rfl, rfl⟩ | ⟨g1, rfl, g3, rfl, rfl⟩ | ⟨g1, rfl, g3, g4⟩
    · exact Or.inr (Or.inl ⟨by rw [eo]; exact g1, hn, h1, hW'⟩)
    · exact Or.inr (Or.inr ⟨by rw [eo]; exact g1, hn, h1, hW'⟩)
    · refine Or.inl ⟨by rw [eo]; exact g1, ?_⟩
      have hmv : ∀ q, q ≤ p → ∀ a b z, o < a → b ≤ q → WSx wh nx en n l a b z → WS wh' nx' en' (s + 1) n l a b z := fun q hq a b z z1 z2 ⟨kk, hh⟩ => WS_mv kk n l a b z (s + 1) hh (fun i q1 q2 => ⟨(ha i (by omega)).1, (ha i (by omega)).2.1 (by omega), (ha i (by omega)).2.2 (by omega)⟩) (by omega)
      have hWE : WE wh' nx' (fun x y z => WS wh' nx' en' (s + 1) n l x y z) c0 s s := Or.inl ⟨rfl, h1, h2⟩
      rcases g4 with ⟨y1, y2⟩ | ⟨p', y1, y2, y3, y4, y5, y6⟩
      · have y1' : PX wh' nx' (fun x y z => WS wh' nx' en' (s + 1) n l x y z) c0 o x p := PX_mv (fun i z1 z2 => (ha i (by omega)).1) (fun i z1 z2 => (ha i (by omega)).2.1 (by omega)) (hmv p (Nat.le_refl _)) y1
        have := PX_WP y1' (WP_one (e := s) (by omega) hn (by rw [ep, ← y2]; exact hW') hWE (3 - x))
        rw [show 3 - x + x = 3 by omega] at this
        exact this
      · have hp' := PX_le y1
        have y1' : PX wh' nx' (fun x y z => WS wh' nx' en' (s + 1) n l x y z) c0 o x p' := PX_mv (fun i z1 z2 => (ha i (by omega)).1) (fun i z1 z2 => (ha i (by omega)).2.1 (by omega)) (fun a b z z1 z2 => hmv p (Nat.le_refl _) a b z z1 (by omega)) y1
        have ep' : wh' p' = wh p' := (ha p' (by omega)).1
        have hWF : WE wh' nx' (fun x y z => WS wh' nx' en' (s + 1) n l x y z) c0 p s := Or.inr ⟨by rw [ep]; exact y5, by omega, hn, h1, h2, by rw [← y6]; exact hW'⟩
        have := PX_WP y1' (WP_one (e := s) y2 (by rw [(ha p' (by omega)).2.1 (by omega)]; exact y3) (by rw [ep']; exact hmv p (Nat.le_refl _) _ _ _ (by omega) (Nat.le_refl _) y4) hWF (3 - x))
        rw [show 3 - x + x = 3 by omega] at this
        exact this
  obtain ⟨K, hK⟩ := WS_snoc hST (o + 1) f0 hW0'
  exact ⟨n + 1, l0, c0, f0, K, hC', hK⟩
theorem CTX_done {s : Nat} (h : CTX wh nx en [] s) : ∃ k, WS wh nx en k 6 false 0 s false := by
  obtain ⟨n, l, c, f, k, ⟨rfl, rfl, rfl, rfl⟩, hW⟩ := h
  exact ⟨k, hW⟩
end CTL
