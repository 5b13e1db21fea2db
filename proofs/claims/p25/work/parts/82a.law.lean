/-! A DROP AHEAD OF ALL LINES; the law's words -/
section
variable {n : Nat} {fk fs fa fb : Nat → Int32} {T : qk_T}
theorem cz_edge (hL : qk_L 8 n fk fs fa fb T) (hw : qw_stk fs n = some []) (hn : n ≤ 33) {j t : Nat} (hj : j < n) (ht : t ≤ n) (hE : qw_E (qk_yf T) (qk_ys T) j t) : 1 ≤ t := by
  obtain ⟨a, b⟩ := qw_nx_rng ((hL.2.2.1.1 hw).2 j hj).1 hj (by omega)
  have one : ∀ x : Int32, x = nI t → (x = -1 ∨ ∃ t : Nat, 1 ≤ t ∧ t ≤ n ∧ x = nI t) → 1 ≤ t := by
    intro x e h
    rcases h with z | ⟨y, y1, y2, y3⟩
    · exact absurd (e.symm.trans z) (qb_nem1 (by omega))
    · have := (nI_eq (by omega) (by omega)).mp (e.symm.trans y3)
      omega
  rcases hE with hE | hE
  · exact one _ hE (a.elim (fun z => Or.inl z.1) Or.inr)
  · exact one _ hE (b.elim (fun z => Or.inl z.1) Or.inr)
theorem cz_ch (hL : qk_L 8 n fk fs fa fb T) (hw : qw_stk fs n = some []) (hn : n ≤ 33) : qk_ch T 0 = 0 := by
  have i := (hL.2.2.2.2 hw).2.1 (fun _ => True) (fun j _ => ¬ j = 0) (fun _ _ => True) (fun _ _ _ => True) (by
    refine ⟨trivial, fun _ _ => trivial, fun j t hj ht _ hE => ?_⟩
    have := cz_edge hL hw hn hj ht hE
    exact ⟨trivial, fun _ _ => by omega, fun _ _ _ => trivial, fun _ _ _ _ => trivial⟩)
  refine qb_eq0.mpr fun x _ => ?_
  cases e : qb_t (qk_ch T 0) x with
  | false => rfl
  | true => exact absurd rfl (i.2.1 0 x (Nat.zero_le _) e)
theorem cz_one (hK : qp_K 8 fk) (hL : qk_L 8 n fk fs fa fb T) (hw : qw_stk fs n = some []) (hn : n ≤ 33) (h1 : 0 < n) (h7 : fs 0 = 7) (ha : fa 0 = nI 6) (h6 : qp_kd 8 fk 6 = 1) : s_X2_numberOfLine (qk_fc T) (qk_xn T) (qk_xl T) (nI 0) = 1 := by
  have d4 : qk_dul T 0 = s_X5_leavesOf 8 fk (nI 6) := by
    obtain ⟨d1, d2, d3, d4, d5, d6, d7, d8, d9⟩ := hL.1 0 h1
    refine d4.trans ?_
    rw [h7, ha]
    rfl
  have b6 : qb_t (s_X5_leavesOf 8 fk (nI 6)) 6 = true := (qp_leaves (by omega) (by omega)).mpr ⟨by rw [h6]; decide, by rw [h6, if_neg (by decide)]⟩
  have a6 : qb_t (s_X5_allLeaves 8 fk) 6 = true := by
    rw [qp_all (by omega)]
    exact qp_lf_all hK ((qp_leaves (by omega) (by omega)).mp b6)
  have h5 := hL.2.2.2.2 hw
  have c6 : qb_t (qk_cl T 0) 6 = true := h5.1.2.2.2 6 a6
  have ne : ¬ qk_dul T 0 &&& qk_cl T 0 = 0 := by
    intro z
    have y := qb_eq0.mp z 6 (by omega)
    rw [qb_and, d4, b6, c6] at y
    cases y
  have bad : qk_bad 8 n fk fs fa fb T 0 := ⟨h5.1.2.2.1, Or.inl ne⟩
  rw [(qk_lineNo hn hL hw h1).1 bad]
  unfold qk_no qx_no
  rw [if_neg ne, cz_ch hL hw hn]
  have z0 : ∀ x : Int32, (0 : Int32) &&& x = 0 := fun x => qb_eq0.mpr fun i _ => by rw [qb_and, qb_0]; rfl
  rw [if_pos (z0 _)]
end
theorem cz_ins {n : Nat} {fs fa fb gs ga gb : Nat → Int32} {a c : Int32} (hn : n ≤ 32) (hw : qw_stk fs n = some []) (e : ∀ j, j ≤ n → gs j = qv_up 0 fs 7 j ∧ ga j = qv_up 0 fa a j ∧ gb j = qv_up 0 fb c j) : qw_stk gs (n + 1) = some [] ∧ gs 0 = 7 ∧ ga 0 = a := by
  obtain ⟨hQ, q7, q8⟩ := ml_insP (Nat.zero_le n) e
  exact ⟨qi_whole (S := fs) (S' := gs) (L := 0) ⟨fun j hj => (hQ j hj).1, by rw [q7]; decide, by rw [q7]; decide, by rw [q7]; decide, by rw [q7]; decide⟩ (by omega) (Nat.zero_le n) hw, q7, q8⟩
theorem lg_same (x : Int64) : lg_cmp x x = 0 := by
  unfold lg_cmp
  simp
theorem up_twice (f : Nat → Int32) (i : Nat) (a b : Int32) : upd (upd f i a) i b = upd f i b := by
  funext j
  by_cases z : j = i
  · rw [z, qb_us, qb_us]
  · rw [qb_un z, qb_un z, qb_un z]
theorem lrB_num {G : sxG} {r : Nat → Nat} {fs fa fb : Nat → Int32} {n L : Nat} {y : Int32} (hL : L < n) : (lrB G r fs fa fb n).set L (r L, .inl (G.2.1, 3, .inl (upd (lrF fs fa fb L) 2 y))) = lrB G r fs fa (upd fb L y) n := by
  have h := lrB_set (G := G) (r := r) (r' := r) (fs := fs) (fa := fa) (fb := fb) (fs' := fs) (fa' := fa) (fb' := upd fb L y) hL (fun i hi hne => ⟨rfl, rfl, rfl, by rw [qb_un hne]⟩)
  rw [← h]
  unfold lrF
  rw [qb_us, up_twice]
theorem m_digest {l : Launch} {G : sxG} {k : lxC} {q : Nat → Nat} {n : Nat} {fk fs fa fb : Nat → Int32} {M : mlS} (hM : mlI 8 fk n fs fa fb M) (hP : lgP 8 fk n fs fa fb) (hK : qp_K 8 fk) (hn1 : 1 ≤ n) : lyM l yX9_digest wdX9_digest 7 169 0 0 G k [mlW G q M] [.ref (q 0)] (fun B v => ∃ M' : mlS, B = [mlW G q M'] ∧ v = some (.long (dgD M.2.1 M.2.2.1 M.2.2.2.1 n fk fs fa fb)) ∧ mlI 8 fk n fs fa fb M' ∧ M'.2.1 = M.2.1 ∧ M'.2.2.1 = M.2.2.1 ∧ M'.2.2.2.1 = M.2.2.2.1) := by
  obtain ⟨P, T, Y, r, P2, T2, Y2⟩ := M
  obtain ⟨h1, h2, h3, h4, h5, h6⟩ := hM
  have h1 : P = (fk, fs, fa, fb, 8, n) := h1
  subst h1
  refine ly_weak (t_X9_digest l G k q n fk fs fa fb T T2 Y Y2 r P2 hK hP h2 h3 h4 h5 h6 hn1) (fun B v h => ?_)
  obtain ⟨P2x, T2x, Y2x, e1, e2, hMx⟩ := h
  exact ⟨_, e1, e2, hMx, rfl, rfl, rfl⟩
abbrev lwS (s : State) : Nat → Prop := fun q => s.heap.size ≤ q
/-- the law's end: true -/
theorem lw_fin {p : Program} {e : Env} {s : State} {m : MethodId} {below : List Frame} {meth : Method} {c : Code} (l : Launch) {A : Nat → Prop} (hAe : A = lwS s) {b : Nat} {H : Heap} {locs : List Loc} {ls : Array Slot} {cells slots pc : Nat} (hx : p.tables.exec = Jvm.exec) (hb : c.code = cL_law) (hr : meth.sig.returnType = ret) (hlk : meth.locks = false) (hS : va_S A s.heap H locs) (hc : cells ≤ 600104) (hs : slots ≤ 7301314) (hdg : decode cL_law pc = .ok (.ireturn, 1)) : W p l e room_1 s m #[Value.ref b] below meth c H locs cells slots (lw_Z below #[Value.ref b] s) (F0 m pc ls [.int 1]) := by
  subst hAe
  refine W.widen (k := 600104) (n := 7301314) hc hs ?_
  refine va_forget (fun q hq => hS.2.2 q hq) ?_
  exact lw_ret hx hb hr hlk hdg
