/-! TWO RUNS of one program go alike, whatever their rows held -/
def qt_A (n : Nat) (f g : Nat → Int32) : Prop := ∀ i, i < n → f i = g i
theorem qt_A_u {n k : Nat} {f g : Nat → Int32} {x : Int32} (h : qt_A n f g) : qt_A n (upd f k x) (upd g k x) := fun i hi => by
  rw [qb_up, qb_up, h i hi]
/-- a leaf: out of the rows, or one of 24 -/
theorem qt_ix (p : Int32) : (p < 0) ∨ (¬ p < 0 ∧ 24 ≤ p) ∨ ∃ k : Nat, k < 24 ∧ p = nI k := by
  by_cases a : p < 0
  · exact Or.inl a
  · obtain ⟨k, hk, rfl⟩ := nI_of a
    rcases Nat.lt_or_ge k 24 with z | z
    · exact Or.inr (Or.inr ⟨k, z, rfl⟩)
    · exact Or.inr (Or.inl ⟨a, nI_le (a := 24) z hk⟩)
theorem qt_valueAt {bv bv' : Nat → Int32} (p : Int32) (h : qt_A 24 bv bv') : s_X6_valueAt bv p = s_X6_valueAt bv' p := by
  unfold s_X6_valueAt
  by_cases c : s_X9_isIndexOf 24 p = 0
  · rw [if_pos c, if_pos c]
  · obtain ⟨k, hk, rfl⟩ := qp_ix_of (by omega) c
    rw [if_neg c, if_neg c, qb_cl (by omega), h k hk]
theorem qt_setValue {bh bv bh' bv' : Nat → Int32} (p x : Int32) (h1 : qt_A 24 bh bh') (h2 : qt_A 24 bv bv') : qt_A 24 (s_X6_setValue bh bv p x).1 (s_X6_setValue bh' bv' p x).1 ∧ qt_A 24 (s_X6_setValue bh bv p x).2 (s_X6_setValue bh' bv' p x).2 := by
  unfold s_X6_setValue
  by_cases a : p < 0
  · rw [if_pos a, if_pos a]; exact ⟨h1, h2⟩
  · by_cases b : 24 ≤ p
    · rw [if_neg a, if_neg a, if_pos b, if_pos b]; exact ⟨h1, h2⟩
    · rw [if_neg a, if_neg a, if_neg b, if_neg b]; exact ⟨qt_A_u h1, qt_A_u h2⟩
theorem qt_setEmpty {bh bh' : Nat → Int32} (p : Int32) (h1 : qt_A 24 bh bh') : qt_A 24 (s_X6_setEmpty bh p) (s_X6_setEmpty bh' p) := by
  unfold s_X6_setEmpty
  by_cases a : p < 0
  · rw [if_pos a, if_pos a]; exact h1
  · by_cases b : 24 ≤ p
    · rw [if_neg a, if_neg a, if_pos b, if_pos b]; exact h1
    · rw [if_neg a, if_neg a, if_neg b, if_neg b]; exact qt_A_u h1
/-- what was set aside, alike -/
def qt_O (okd : Int32) (oct : Nat) (bo : Nat → Int32) (okd' : Int32) (oct' : Nat) (bo' : Nat → Int32) : Prop := oct = oct' ∧ qt_A oct bo bo' ∧ (okd = okd' ∨ oct = 0) ∧ oct ≤ 2
theorem qt_aside {okd okd' kd p : Int32} {oct oct' : Nat} {bh bv bo bh' bv' bo' : Nat → Int32} (h1 : qt_A 24 bh bh') (h2 : qt_A 24 bv bv') (h3 : qt_O okd oct bo okd' oct' bo') :
    qt_A 24 (s_X6_setAside okd oct bh bv bo kd p).1 (s_X6_setAside okd' oct' bh' bv' bo' kd p).1 ∧
    qt_O (s_X6_setAside okd oct bh bv bo kd p).2.2.1 (s_X6_setAside okd oct bh bv bo kd p).2.2.2 (s_X6_setAside okd oct bh bv bo kd p).2.1 (s_X6_setAside okd' oct' bh' bv' bo' kd p).2.2.1 (s_X6_setAside okd' oct' bh' bv' bo' kd p).2.2.2 (s_X6_setAside okd' oct' bh' bv' bo' kd p).2.1 := by
  obtain ⟨rfl, o1, o2, o3⟩ := h3
  unfold s_X6_setAside
  rcases qt_ix p with a | ⟨a, b⟩ | ⟨k, hk, rfl⟩
  · rw [if_pos a, if_pos a]; exact ⟨h1, rfl, o1, o2, o3⟩
  · rw [if_neg a, if_neg a, if_pos b, if_pos b]; exact ⟨h1, rfl, o1, o2, o3⟩
  · have a : ¬ nI k < 0 := nI_pos (by omega)
    have b : ¬ (24 : Int32) ≤ nI k := nI_ge (b := 24) hk (by omega)
    rw [if_neg a, if_neg a, if_neg b, if_neg b, qb_cl (by omega), h1 k hk, h2 k hk]
    by_cases c : bh' k = 0
    · rw [if_pos c, if_pos c]; exact ⟨h1, rfl, o1, o2, o3⟩
    · rw [if_neg c, if_neg c]
      by_cases d : (2 : Int32) ≤ nI oct
      · rw [if_pos d, if_pos d]; exact ⟨qt_A_u h1, rfl, o1, o2, o3⟩
      · rw [if_neg d, if_neg d]
        refine ⟨qt_A_u h1, rfl, fun i hi => ?_, Or.inl rfl, ?_⟩
        · show upd bo oct _ i = upd bo' oct _ i
          have hi : i < oct + 1 := hi
          rw [qb_up, qb_up]
          by_cases z : i = oct
          · rw [if_pos z, if_pos z]
          · rw [if_neg z, if_neg z]; exact o1 i (by omega)
        · show oct + 1 ≤ 2
          rcases Nat.lt_or_ge oct 2 with z | z
          · omega
          · exact absurd (nI_le (a := 2) z (by omega)) d
theorem qt_drop {pv : Nat} {fk : Nat → Int32} {okd okd' p : Int32} {oct oct' : Nat} {bh bv bo bh' bv' bo' : Nat → Int32} (h1 : qt_A 24 bh bh') (h2 : qt_A 24 bv bv') (h3 : qt_O okd oct bo okd' oct' bo') :
    qt_A 24 (s_X6_drop okd oct pv fk bh bv bo p).1 (s_X6_drop okd' oct' pv fk bh' bv' bo' p).1 ∧
    qt_O (s_X6_drop okd oct pv fk bh bv bo p).2.2.1 (s_X6_drop okd oct pv fk bh bv bo p).2.2.2 (s_X6_drop okd oct pv fk bh bv bo p).2.1 (s_X6_drop okd' oct' pv fk bh' bv' bo' p).2.2.1 (s_X6_drop okd' oct' pv fk bh' bv' bo' p).2.2.2 (s_X6_drop okd' oct' pv fk bh' bv' bo' p).2.1 := by
  unfold s_X6_drop
  by_cases c : s_X5_kindAt pv fk p = 2
  · rw [if_pos c, if_pos c]
    obtain ⟨a1, a2⟩ := qt_aside (kd := s_X5_kindAt pv fk p) (p := p + 1) h1 h2 h3
    exact qt_aside (kd := s_X5_kindAt pv fk p) (p := p + 2) a1 h2 a2
  · rw [if_neg c, if_neg c]
    exact qt_aside (kd := s_X5_kindAt pv fk p) (p := p) h1 h2 h3
theorem qt_give {pv : Nat} {fk : Nat → Int32} {okd okd' p x y : Int32} {oct oct' : Nat} {bh bv bo bh' bv' bo' : Nat → Int32} (h1 : qt_A 24 bh bh') (h2 : qt_A 24 bv bv') (h3 : qt_O okd oct bo okd' oct' bo') :
    qt_A 24 (s_X6_give okd oct pv fk bh bv bo p x y).1 (s_X6_give okd' oct' pv fk bh' bv' bo' p x y).1 ∧ qt_A 24 (s_X6_give okd oct pv fk bh bv bo p x y).2.1 (s_X6_give okd' oct' pv fk bh' bv' bo' p x y).2.1 ∧
    qt_O (s_X6_give okd oct pv fk bh bv bo p x y).2.2.2.1 (s_X6_give okd oct pv fk bh bv bo p x y).2.2.2.2 (s_X6_give okd oct pv fk bh bv bo p x y).2.2.1 (s_X6_give okd' oct' pv fk bh' bv' bo' p x y).2.2.2.1 (s_X6_give okd' oct' pv fk bh' bv' bo' p x y).2.2.2.2 (s_X6_give okd' oct' pv fk bh' bv' bo' p x y).2.2.1 := by
  obtain ⟨a1, a2⟩ := qt_drop (pv := pv) (fk := fk) (p := p) h1 h2 h3
  unfold s_X6_give
  by_cases c : s_X5_kindAt pv fk p = 2
  · rw [if_pos c, if_pos c]
    obtain ⟨b1, b2⟩ := qt_setValue (s_X6_firstLeaf pv fk p) x a1 h2
    obtain ⟨c1, c2⟩ := qt_setValue (s_X6_firstLeaf pv fk p + 1) y b1 b2
    exact ⟨c1, c2, a2⟩
  · rw [if_neg c, if_neg c]
    obtain ⟨b1, b2⟩ := qt_setValue (s_X6_firstLeaf pv fk p) x a1 h2
    exact ⟨b1, b2, a2⟩
/-- nodes, alike -/
def qt_N (nm : Nat) (vc vl vh : Nat → Int32) (nm' : Nat) (vc' vl' vh' : Nat → Int32) : Prop := nm = nm' ∧ qt_A nm vc vc' ∧ qt_A nm vl vl' ∧ qt_A nm vh vh' ∧ nm ≤ 500
theorem qt_countUp {nm : Nat} {vc vc' : Nat → Int32} (p : Int32) (hm : nm ≤ 500) (h : qt_A nm vc vc') : qt_A nm (s_X4_countUp nm vc p) (s_X4_countUp nm vc' p) := by
  unfold s_X4_countUp
  by_cases c : s_X4_isNode nm p = 0
  · rw [if_pos c, if_pos c]; exact h
  · obtain ⟨j, hj, rfl⟩ := qr_isNode_of hm c
    rw [if_neg c, if_neg c, qb_cl (by omega), h j hj]; exact qt_A_u h
theorem qt_setHeld {nm : Nat} {vh vh' : Nat → Int32} (p x : Int32) (h : qt_A nm vh vh') : qt_A nm (s_X4_setHeld nm vh p x) (s_X4_setHeld nm vh' p x) := by
  unfold s_X4_setHeld
  by_cases c : s_X4_isNode nm p = 0
  · rw [if_pos c, if_pos c]; exact h
  · rw [if_neg c, if_neg c]; exact qt_A_u h
theorem qt_isHeld {nm : Nat} {vh vh' : Nat → Int32} (p : Int32) (hm : nm ≤ 500) (h : qt_A nm vh vh') : s_X4_isHeldNow nm vh p = s_X4_isHeldNow nm vh' p := by
  unfold s_X4_isHeldNow
  by_cases c : s_X4_isNode nm p = 0
  · rw [if_pos c, if_pos c]
  · obtain ⟨j, hj, rfl⟩ := qr_isNode_of hm c
    rw [if_neg c, if_neg c, qb_cl (by omega), h j hj]
theorem qt_linkOf {nm : Nat} {vl vl' : Nat → Int32} (p : Int32) (hm : nm ≤ 500) (h : qt_A nm vl vl') : s_X4_linkOf nm vl p = s_X4_linkOf nm vl' p := by
  unfold s_X4_linkOf
  by_cases c : s_X4_isNode nm p = 0
  · rw [if_pos c, if_pos c]
  · obtain ⟨j, hj, rfl⟩ := qr_isNode_of hm c
    rw [if_neg c, if_neg c, qb_cl (by omega), h j hj]
theorem qt_setLink {nm : Nat} {vl vl' : Nat → Int32} (p x : Int32) (h : qt_A nm vl vl') : qt_A nm (s_X4_setLink nm vl p x) (s_X4_setLink nm vl' p x) := by
  unfold s_X4_setLink
  by_cases c : s_X4_isNode nm p = 0
  · rw [if_pos c, if_pos c]; exact h
  · rw [if_neg c, if_neg c]; exact qt_A_u h
theorem qt_isAtEnd {nm : Nat} {ng : Int32} {vc vc' : Nat → Int32} (p : Int32) (hm : nm ≤ 500) (h : qt_A nm vc vc') : qt_A nm (s_X4_isAtEnd nm ng vc p).1.1 (s_X4_isAtEnd nm ng vc' p).1.1 ∧ (s_X4_isAtEnd nm ng vc p).1.2 = (s_X4_isAtEnd nm ng vc' p).1.2 ∧ (s_X4_isAtEnd nm ng vc p).2 = (s_X4_isAtEnd nm ng vc' p).2 := by
  unfold s_X4_isAtEnd
  by_cases c : s_X4_isNode nm p = 0
  · rw [if_pos c, if_pos c]; exact ⟨h, rfl, rfl⟩
  · obtain ⟨j, hj, rfl⟩ := qr_isNode_of hm c
    rw [if_neg c, if_neg c, qb_cl (by omega), qb_us, qb_us, h j hj]
    by_cases d : vc' j - 1 = 0
    · rw [if_pos d, if_pos d]; exact ⟨qt_A_u h, rfl, rfl⟩
    · rw [if_neg d, if_neg d]; exact ⟨qt_A_u h, rfl, rfl⟩
theorem qt_newNode {nm : Nat} {vn vn' vc vl vh vc' vl' vh' : Nat → Int32} {x : Int32} (h : qt_N nm vc vl vh nm vc' vl' vh') :
    qt_N (s_X4_newNode nm vn vc vl vh x).1.2.2.2.2 (s_X4_newNode nm vn vc vl vh x).1.2.1 (s_X4_newNode nm vn vc vl vh x).1.2.2.1 (s_X4_newNode nm vn vc vl vh x).1.2.2.2.1 (s_X4_newNode nm vn' vc' vl' vh' x).1.2.2.2.2 (s_X4_newNode nm vn' vc' vl' vh' x).1.2.1 (s_X4_newNode nm vn' vc' vl' vh' x).1.2.2.1 (s_X4_newNode nm vn' vc' vl' vh' x).1.2.2.2.1 ∧
    (s_X4_newNode nm vn vc vl vh x).2 = (s_X4_newNode nm vn' vc' vl' vh' x).2 := by
  obtain ⟨-, n1, n2, n3, n4⟩ := h
  have up : ∀ (f g : Nat → Int32) (y : Int32), qt_A nm f g → qt_A (nm + 1) (upd f nm y) (upd g nm y) := by
    intro f g y hf i hi
    rw [qb_up, qb_up]
    by_cases z : i = nm
    · rw [if_pos z, if_pos z]
    · rw [if_neg z, if_neg z]; exact hf i (by omega)
  unfold s_X4_newNode
  by_cases c : s_X9_isIndexOf 500 (nI nm) = 0
  · rw [if_pos c, if_pos c]; exact ⟨⟨rfl, n1, n2, n3, n4⟩, rfl⟩
  · rw [if_neg c, if_neg c]
    refine ⟨⟨rfl, up _ _ _ n1, up _ _ _ n2, up _ _ _ n3, ?_⟩, rfl⟩
    show nm + 1 ≤ 500
    obtain ⟨k, hk, e⟩ := qp_ix_of (by omega) c
    have := (nI_eq (by omega) (by omega)).mp e
    omega
abbrev qt_D : Type := (Nat → Int32) × (Nat → Int32) × (Nat → Int32) × Int32 × Nat × (Nat → Int32) × (Nat → Int32) × (Nat → Int32) × (Nat → Int32) × Nat × Int32 × (Nat → Int32) × (Nat → Int32) × (Nat → Int32) × Int32 × Int32 × Int32
/-- lines done, alike -/
def qt_R (D D' : qt_D) : Prop := qt_A 24 D.1 D'.1 ∧ qt_A 24 D.2.1 D'.2.1 ∧ qt_O D.2.2.2.1 D.2.2.2.2.1 D.2.2.1 D'.2.2.2.1 D'.2.2.2.2.1 D'.2.2.1 ∧
  qt_N D.2.2.2.2.2.2.2.2.2.1 D.2.2.2.2.2.2.1 D.2.2.2.2.2.2.2.1 D.2.2.2.2.2.2.2.2.1 D'.2.2.2.2.2.2.2.2.2.1 D'.2.2.2.2.2.2.1 D'.2.2.2.2.2.2.2.1 D'.2.2.2.2.2.2.2.2.1 ∧
  D.2.2.2.2.2.2.2.2.2.2.1 = D'.2.2.2.2.2.2.2.2.2.2.1 ∧ D.2.2.2.2.2.2.2.2.2.2.2.2.2.2.2.1 = D'.2.2.2.2.2.2.2.2.2.2.2.2.2.2.2.1 ∧ D.2.2.2.2.2.2.2.2.2.2.2.2.2.2.2.2 = D'.2.2.2.2.2.2.2.2.2.2.2.2.2.2.2.2
theorem qt_numberAt {pv : Nat} {fk bv bv' : Nat → Int32} (p : Int32) (h : qt_A 24 bv bv') : s_X6_numberAt pv fk bv p = s_X6_numberAt pv fk bv' p := by
  unfold s_X6_numberAt
  rw [qt_valueAt _ h, qt_valueAt _ h]
theorem qt_writeNumber {pv : Nat} {fk bh bv bh' bv' : Nat → Int32} (p x : Int32) (h1 : qt_A 24 bh bh') (h2 : qt_A 24 bv bv') : qt_A 24 (s_X6_writeNumber pv fk bh bv p x).1 (s_X6_writeNumber pv fk bh' bv' p x).1 ∧ qt_A 24 (s_X6_writeNumber pv fk bh bv p x).2 (s_X6_writeNumber pv fk bh' bv' p x).2 := by
  unfold s_X6_writeNumber
  obtain ⟨b1, b2⟩ := qt_setValue (s_X6_firstLeaf pv fk p) x h1 h2
  by_cases c : s_X5_kindAt pv fk p = 2
  · rw [if_pos c, if_pos c]
    exact qt_setValue (s_X6_firstLeaf pv fk p + 1) x b1 b2
  · rw [if_neg c, if_neg c]; exact ⟨b1, b2⟩
