/-! TWO LOOKS AT ONE PROGRAM -/
theorem qf_H_hb {dbg dg du yo : Nat → Int32} {X : qf_X} {j v x : Nat} (h : qf_H dbg dg du yo (fun j v x => qb_t (X.2.2.2.2 (j * 8 + v)) x = true) j v x) : qb_t (qf_hb dbg dg du yo X j v) x = true := by
  unfold qf_hb
  rcases h with ⟨a, b, ⟨c, d⟩ | ⟨c, d⟩⟩ | ⟨a, b⟩
  · rw [if_pos ⟨a, b⟩, if_pos c]; exact d
  · rw [if_pos ⟨a, b⟩, if_neg c]; exact d
  · rw [if_neg a]; exact b
/-- what a look gives is such a family itself -/
theorem qk_self {pv pn : Nat} {fk fs fa fb : Nat → Int32} {T : qk_T} (hL : qk_L pv pn fk fs fa fb T) (hw : qw_stk fs pn = some []) :
    qf_fam (qk_dgl T) (qk_dll T) (qk_dbg T) (qk_dg T) (qk_du T) (qk_yo T) (qk_yf T) (qk_ys T) pv pn (qk_al pv fk) (fun j => ¬ qk_cr T j = 0) (fun j x => qb_t (qk_ch T j) x = true) (fun j x => qb_t (qk_cl T j) x = true) (fun j v x => qb_t (qk_cd T (j * 8 + v)) x = true) := by
  obtain ⟨⟨h1, h2, h3, h4⟩, -⟩ := hL.2.2.2.2 hw
  refine ⟨h3, fun x hx => h4 x hx, fun j t hj ht hr hE => ?_⟩
  obtain ⟨a, b, c, d⟩ := h1 j hj hr t ht hE
  refine ⟨a, fun x hx => b x (qf_hv_t.mpr hx), fun x hx hg => ?_, fun v x hv hx => d v hv x (qf_H_hb (X := qk_X T) hx)⟩
  have hx32 : x < 32 := hx.elim (fun z => qb_lt z) (fun z => qb_lt z)
  exact c x ((qf_lk_t hx32).mpr ⟨hx, hg⟩)
theorem qf_H_c {dbg dg du yo dbg' dg' du' yo' : Nat → Int32} {Hd : Nat → Nat → Nat → Prop} {j v x : Nat} (h1 : dbg j = dbg' j) (h2 : dg j = dg' j) (h3 : du j = du' j) (h4 : yo j = yo' j) (h : qf_H dbg dg du yo Hd j v x) : qf_H dbg' dg' du' yo' Hd j v x := by
  unfold qf_H at h ⊢
  rw [← h1, ← h2, ← h3, ← h4]; exact h
theorem qf_fam_c {dgl dll dbg dg du yo yf ys dgl' dll' dbg' dg' du' yo' yf' ys' : Nat → Int32} {pv pn : Nat} {al : Int32} {R : Nat → Prop} {Hv Lk : Nat → Nat → Prop} {Hd : Nat → Nat → Nat → Prop}
    (e : ∀ j, j < pn → dgl j = dgl' j ∧ dll j = dll' j ∧ dbg j = dbg' j ∧ dg j = dg' j ∧ du j = du' j ∧ yo j = yo' j ∧ yf j = yf' j ∧ ys j = ys' j)
    (h : qf_fam dgl' dll' dbg' dg' du' yo' yf' ys' pv pn al R Hv Lk Hd) : qf_fam dgl dll dbg dg du yo yf ys pv pn al R Hv Lk Hd := by
  refine ⟨h.1, h.2.1, fun j t hj ht hr hE => ?_⟩
  obtain ⟨e1, e2, e3, e4, e5, e6, e7, e8⟩ := e j hj
  obtain ⟨a, b, c, d⟩ := h.2.2 j t hj ht hr (by unfold qw_E at hE ⊢; rw [← e7, ← e8]; exact hE)
  rw [← e1, ← e2] at b
  rw [← e1, ← e2] at c
  exact ⟨a, b, c, fun v x hv hx => d v x hv (qf_H_c e3 e4 e5 e6 hx)⟩
theorem qg_fam_c {dbg dbu yf ys dbg' dbu' yf' ys' : Nat → Int32} {pn : Nat} {Wn : Nat → Nat → Prop} (e : ∀ j, j < pn → dbg j = dbg' j ∧ dbu j = dbu' j ∧ yf j = yf' j ∧ ys j = ys' j) (h : qg_fam dbg' dbu' yf' ys' pn Wn) : qg_fam dbg dbu yf ys pn Wn := by
  intro j x hj hx
  obtain ⟨e1, e2, e3, e4⟩ := e j hj
  refine h j x hj ?_
  rw [← e1, ← e2]
  rcases hx with ⟨⟨t, a, b, c⟩, d⟩ | d
  · exact Or.inl ⟨⟨t, a, by unfold qw_E at b ⊢; rw [← e3, ← e4]; exact b, c⟩, d⟩
  · exact Or.inr d
theorem qg_self {dbg dbu yf ys cn : Nat → Int32} {pn : Nat} (hn : pn ≤ 34) (h : qg_fix dbg dbu yf ys pn cn) : qg_fam dbg dbu yf ys pn (fun j x => qb_t (cn j) x = true) := by
  intro j x hj hx
  show qb_t (cn j) x = true
  rw [h j hj, qg_Ft, qg_bt hj hn]
  exact hx
theorem qw_stk_c {S S' : Nat → Int32} : ∀ {i : Nat}, (∀ j, j < i → S j = S' j) → qw_stk S i = qw_stk S' i
  | 0, _ => rfl
  | i + 1, h => by
    have e := qw_stk_c (S := S) (S' := S') (i := i) fun j hj => h j (by omega)
    cases hs : qw_stk S i with
    | none => rw [qw_stk_n hs, qw_stk_n (by rw [← e]; exact hs)]
    | some st =>
      rw [qw_stk_s hs, qw_stk_s (by rw [← e]; exact hs)]
      unfold qw_step
      rw [← h i (Nat.lt_succ_self _)]
      match st, (qw_goodAt hs) with
      | [], _ => rfl
      | q :: r, g =>
        have hq := (g.2 q List.mem_cons_self).1
        dsimp only
        rw [← h q.1 (by omega)]
theorem qw_nx_c {S S' : Nat → Int32} {n j : Nat} {f s : Int32} (e : ∀ i, i < n → S i = S' i) (hj : j < n) (h : qw_nx S n j f s) : qw_nx S' n j f s := by
  have k : ∀ i, i ≤ n → qw_stk S i = qw_stk S' i := fun i hi => qw_stk_c fun a ha => e a (by omega)
  rcases h with ⟨c, hf, x, q, r, he, c11, hs, hq, h⟩ | ⟨c, h, q, r, x, q', r', hs, he, c11, hs', hq, hf⟩ | ⟨c, q, r, hs, h⟩ | ⟨c, hf, h⟩ | ⟨c8, c9, c11, c15, hf, h⟩
  · exact Or.inl ⟨by rw [← e j hj]; exact c, hf, x, q, r, he, by rw [← e x he]; exact c11, by rw [← k x (by omega)]; exact hs, hq, h⟩
  · exact Or.inr (Or.inl ⟨by rw [← e j hj]; exact c, h, q, r, x, q', r', by rw [← k j (by omega)]; exact hs, he, by rw [← e x he]; exact c11, by rw [← k x (by omega)]; exact hs', hq, hf⟩)
  · have hq := ((qw_goodAt hs).2 q List.mem_cons_self).1
    exact Or.inr (Or.inr (Or.inl ⟨by rw [← e j hj]; exact c, q, r, by rw [← k j (by omega)]; exact hs, by rw [← e q.1 (by omega)]; exact h⟩))
  · exact Or.inr (Or.inr (Or.inr (Or.inl ⟨by rw [← e j hj]; exact c, hf, h⟩)))
  · exact Or.inr (Or.inr (Or.inr (Or.inr (by rw [← e j hj]; exact ⟨c8, c9, c11, c15, hf, h⟩))))
theorem ql_c {S S' : Nat → Int32} : ∀ {i : Nat}, (∀ j, j < i → S j = S' j) → ql_n S i = ql_n S' i
  | 0, _ => rfl
  | i + 1, h => by
    show ql_n S i + _ = ql_n S' i + _
    rw [ql_c (S := S) (S' := S') fun j hj => h j (by omega), h i (Nat.lt_succ_self _)]
/-- lines that are alike but for a number -/
def qm_line (fs fa fb fs' fa' fb' : Nat → Int32) (j : Nat) : Prop := fs j = fs' j ∧ fa j = fa' j ∧ (fb j = fb' j ∨ fs j = 0 ∨ fs j = 6)
theorem qm_d {s a b b' : Int32} (h : b = b' ∨ s = 0 ∨ s = 6) : qd_u s a b = qd_u s a b' ∧ qd_t s b = qd_t s b' ∧ qd_l s a b = qd_l s a b' := by
  rcases h with rfl | rfl | rfl
  · exact ⟨rfl, rfl, rfl⟩
  · exact ⟨rfl, rfl, rfl⟩
  · exact ⟨rfl, rfl, rfl⟩
/-- the taken places of a line, as of its own sort, a and b -/
def qd_k (pv : Nat) (fk : Nat → Int32) (s a b p2 : Int32) : Int32 := s_X1_takenAt pv 1 fk (fun _ => s) (fun _ => a) (fun _ => b) 0 p2
def qd_r (s p2 : Int32) : Int32 := s_X1_isTakenToRead 1 (fun _ => s) 0 p2
theorem qd_taken {pv pn j : Nat} {fk fs fa fb : Nat → Int32} {p2 : Int32} (h : j < pn) (hn : pn < 2 ^ 31) : s_X1_takenAt pv pn fk fs fa fb (nI j) p2 = qd_k pv fk (fs j) (fa j) (fb j) p2 := by
  unfold qd_k s_X1_takenAt
  rw [qp_sortAt h hn, qp_aAt h hn, qp_bAt h hn]
  have e1 : s_X5_sortAt 1 (fun _ => fs j) 0 = fs j := qp_sortAt (pn := 1) (i := 0) (by omega) (by omega)
  have e2 : s_X5_aAt 1 (fun _ => fa j) 0 = fa j := qp_aAt (pn := 1) (i := 0) (by omega) (by omega)
  have e3 : s_X5_bAt 1 (fun _ => fb j) 0 = fb j := qp_bAt (pn := 1) (i := 0) (by omega) (by omega)
  rw [e1, e2, e3]
theorem qd_read {pn j : Nat} {fs : Nat → Int32} {p2 : Int32} (h : j < pn) (hn : pn < 2 ^ 31) : s_X1_isTakenToRead pn fs (nI j) p2 = qd_r (fs j) p2 := by
  unfold qd_r s_X1_isTakenToRead
  rw [qp_sortAt h hn]
  have e1 : s_X5_sortAt 1 (fun _ => fs j) 0 = fs j := qp_sortAt (pn := 1) (i := 0) (by omega) (by omega)
  rw [e1]
theorem qm_k {pv : Nat} {fk : Nat → Int32} {s a b b' p2 : Int32} (h : b = b' ∨ s = 0 ∨ s = 6) : qd_k pv fk s a b p2 = qd_k pv fk s a b' p2 := by
  rcases h with rfl | rfl | rfl
  · rfl
  · rfl
  · rfl
