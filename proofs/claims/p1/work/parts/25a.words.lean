/-! the words are the tables' -/
theorem tb0 (i : Nat) {w : Cond} (e : (k2_sels lw_privs)[i]? = some w) : w ∈ lw_tbl := List.mem_append_left _ (List.mem_of_getElem? e)
theorem tb1 (i : Nat) {w : Cond} (e : tables_1_1[i]? = some w) : w ∈ lw_tbl := by
  have h := List.mem_of_getElem? e
  refine List.mem_append_right _ ?_
  unfold tables_1
  exact List.mem_append_left _ h
theorem tb2 (i : Nat) {w : Cond} (e : tables_1_2[i]? = some w) : w ∈ lw_tbl := by
  have h := List.mem_of_getElem? e
  refine List.mem_append_right _ ?_
  unfold tables_1
  exact List.mem_append_right _ (List.mem_append_left _ h)
theorem tb3 (i : Nat) {w : Cond} (e : tables_1_3[i]? = some w) : w ∈ lw_tbl := by
  have h := List.mem_of_getElem? e
  refine List.mem_append_right _ ?_
  unfold tables_1
  exact List.mem_append_right _ (List.mem_append_right _ (List.mem_append_left _ h))
theorem tb4 (i : Nat) {w : Cond} (e : tables_1_4[i]? = some w) : w ∈ lw_tbl := by
  have h := List.mem_of_getElem? e
  refine List.mem_append_right _ ?_
  unfold tables_1
  exact List.mem_append_right _ (List.mem_append_right _ (List.mem_append_right _ (List.mem_append_left _ h)))
theorem tb5 (i : Nat) {w : Cond} (e : tables_1_5[i]? = some w) : w ∈ lw_tbl := by
  have h := List.mem_of_getElem? e
  refine List.mem_append_right _ ?_
  unfold tables_1
  exact List.mem_append_right _ (List.mem_append_right _ (List.mem_append_right _ (List.mem_append_right _ (List.mem_append_left _ h))))
theorem tb6 (i : Nat) {w : Cond} (e : tables_1_6[i]? = some w) : w ∈ lw_tbl := by
  have h := List.mem_of_getElem? e
  refine List.mem_append_right _ ?_
  unfold tables_1
  exact List.mem_append_right _ (List.mem_append_right _ (List.mem_append_right _ (List.mem_append_right _ (List.mem_append_right _ (List.mem_append_left _ h)))))
theorem tb7 (i : Nat) {w : Cond} (e : tables_1_7[i]? = some w) : w ∈ lw_tbl := by
  have h := List.mem_of_getElem? e
  refine List.mem_append_right _ ?_
  unfold tables_1
  exact List.mem_append_right _ (List.mem_append_right _ (List.mem_append_right _ (List.mem_append_right _ (List.mem_append_right _ (List.mem_append_right _ (List.mem_append_left _ h))))))
theorem tb8 (i : Nat) {w : Cond} (e : tables_1_8[i]? = some w) : w ∈ lw_tbl := by
  have h := List.mem_of_getElem? e
  refine List.mem_append_right _ ?_
  unfold tables_1
  exact List.mem_append_right _ (List.mem_append_right _ (List.mem_append_right _ (List.mem_append_right _ (List.mem_append_right _ (List.mem_append_right _ (List.mem_append_right _ (List.mem_append_left _ h)))))))
theorem tb9 (i : Nat) {w : Cond} (e : tables_1_9[i]? = some w) : w ∈ lw_tbl := by
  have h := List.mem_of_getElem? e
  refine List.mem_append_right _ ?_
  unfold tables_1
  exact List.mem_append_right _ (List.mem_append_right _ (List.mem_append_right _ (List.mem_append_right _ (List.mem_append_right _ (List.mem_append_right _ (List.mem_append_right _ (List.mem_append_right _ (List.mem_append_left _ h))))))))
theorem tb10 (i : Nat) {w : Cond} (e : tables_1_10[i]? = some w) : w ∈ lw_tbl := by
  have h := List.mem_of_getElem? e
  refine List.mem_append_right _ ?_
  unfold tables_1
  exact List.mem_append_right _ (List.mem_append_right _ (List.mem_append_right _ (List.mem_append_right _ (List.mem_append_right _ (List.mem_append_right _ (List.mem_append_right _ (List.mem_append_right _ (List.mem_append_right _ (h)))))))))
set_option maxRecDepth 100000 in
theorem lC0 : ∀ w ∈ bwC0, w ∈ lw_tbl := by
  unfold bwC0
  exact List.forall_mem_cons.mpr ⟨(tb1 95 rfl), List.forall_mem_cons.mpr ⟨(tb1 96 rfl), List.forall_mem_cons.mpr ⟨(tb1 48 rfl), List.forall_mem_cons.mpr ⟨(tb1 49 rfl), List.forall_mem_cons.mpr ⟨(tb1 97 rfl), List.forall_mem_cons.mpr ⟨(tb1 84 rfl), List.forall_mem_cons.mpr ⟨(tb1 98 rfl), List.forall_mem_cons.mpr ⟨(tb1 100 rfl), List.forall_mem_cons.mpr ⟨(tb1 101 rfl), List.forall_mem_cons.mpr ⟨(tb1 103 rfl), List.forall_mem_cons.mpr ⟨(tb1 105 rfl), List.forall_mem_cons.mpr ⟨(tb1 107 rfl), List.forall_mem_cons.mpr ⟨(tb1 109 rfl), List.forall_mem_cons.mpr ⟨(tb1 111 rfl), List.forall_mem_cons.mpr ⟨(tb1 113 rfl), List.forall_mem_cons.mpr ⟨(tb1 140 rfl), List.forall_mem_cons.mpr ⟨(tb1 141 rfl), List.forall_mem_cons.mpr ⟨(tb1 142 rfl), List.forall_mem_cons.mpr ⟨(tb1 143 rfl), List.forall_mem_cons.mpr ⟨(tb1 144 rfl), List.forall_mem_cons.mpr ⟨(tb1 145 rfl), List.forall_mem_cons.mpr ⟨(tb1 146 rfl), List.forall_mem_cons.mpr ⟨(tb1 147 rfl), List.forall_mem_cons.mpr ⟨(tb1 148 rfl), List.forall_mem_cons.mpr ⟨(tb1 149 rfl), List.forall_mem_cons.mpr ⟨(tb1 150 rfl), List.forall_mem_cons.mpr ⟨(tb1 175 rfl), List.forall_mem_cons.mpr ⟨(tb1 176 rfl), List.forall_mem_cons.mpr ⟨(tb1 177 rfl), List.forall_mem_cons.mpr ⟨(tb1 178 rfl), List.forall_mem_cons.mpr ⟨(tb1 179 rfl), List.forall_mem_cons.mpr ⟨(tb1 199 rfl), List.forall_mem_cons.mpr ⟨(tb1 180 rfl), List.forall_mem_cons.mpr ⟨(tb1 181 rfl), List.forall_mem_cons.mpr ⟨(tb1 183 rfl), List.forall_mem_cons.mpr ⟨(tb1 204 rfl), List.forall_mem_cons.mpr ⟨(tb1 205 rfl), List.forall_mem_cons.mpr ⟨(tb1 206 rfl), List.forall_mem_cons.mpr ⟨(tb1 207 rfl), List.forall_mem_cons.mpr ⟨(tb1 208 rfl), List.forall_mem_cons.mpr ⟨(tb1 209 rfl), List.forall_mem_cons.mpr ⟨(tb1 210 rfl), List.forall_mem_cons.mpr ⟨(tb1 90 rfl), List.forall_mem_cons.mpr ⟨(tb1 224 rfl), List.forall_mem_cons.mpr ⟨(tb1 91 rfl), List.forall_mem_cons.mpr ⟨(tb1 92 rfl), List.forall_mem_cons.mpr ⟨(tb1 4 rfl), List.forall_mem_cons.mpr ⟨(tb1 225 rfl), List.forall_mem_cons.mpr ⟨(tb1 136 rfl), List.forall_mem_cons.mpr ⟨(tb1 137 rfl), List.forall_mem_cons.mpr ⟨(tb1 5 rfl), List.forall_mem_cons.mpr ⟨(tb1 227 rfl), List.forall_mem_cons.mpr ⟨(tb1 171 rfl), List.forall_mem_cons.mpr ⟨(tb1 172 rfl), List.forall_mem_cons.mpr ⟨(tb1 6 rfl), List.forall_mem_cons.mpr ⟨(tb1 229 rfl), List.forall_mem_cons.mpr ⟨(tb1 200 rfl), List.forall_mem_cons.mpr ⟨(tb1 201 rfl), List.forall_mem_cons.mpr ⟨(tb1 7 rfl), List.forall_mem_cons.mpr ⟨(tb1 231 rfl), (fun _ h => nomatch h)⟩⟩⟩⟩⟩⟩⟩⟩⟩⟩⟩⟩⟩⟩⟩⟩⟩⟩⟩⟩⟩⟩⟩⟩⟩⟩⟩⟩⟩⟩⟩⟩⟩⟩⟩⟩⟩⟩⟩⟩⟩⟩⟩⟩⟩⟩⟩⟩⟩⟩⟩⟩⟩⟩⟩⟩⟩⟩⟩⟩
set_option maxRecDepth 100000 in
theorem lC1 : ∀ w ∈ bwC1, w ∈ lw_tbl := by
  unfold bwC1
  exact List.forall_mem_cons.mpr ⟨(tb1 233 rfl), List.forall_mem_cons.mpr ⟨(tb1 234 rfl), List.forall_mem_cons.mpr ⟨(tb1 235 rfl), List.forall_mem_cons.mpr ⟨(tb1 236 rfl), List.forall_mem_cons.mpr ⟨(tb1 237 rfl), List.forall_mem_cons.mpr ⟨(tb1 238 rfl), List.forall_mem_cons.mpr ⟨(tb1 239 rfl), List.forall_mem_cons.mpr ⟨(tb2 0 rfl), List.forall_mem_cons.mpr ⟨(tb1 93 rfl), List.forall_mem_cons.mpr ⟨(tb1 94 rfl), List.forall_mem_cons.mpr ⟨(tb1 138 rfl), List.forall_mem_cons.mpr ⟨(tb1 139 rfl), List.forall_mem_cons.mpr ⟨(tb1 173 rfl), List.forall_mem_cons.mpr ⟨(tb1 174 rfl), List.forall_mem_cons.mpr ⟨(tb1 202 rfl), List.forall_mem_cons.mpr ⟨(tb1 203 rfl), List.forall_mem_cons.mpr ⟨(tb1 89 rfl), List.forall_mem_cons.mpr ⟨(tb2 151 rfl), List.forall_mem_cons.mpr ⟨(tb1 211 rfl), List.forall_mem_cons.mpr ⟨(tb2 152 rfl), List.forall_mem_cons.mpr ⟨(tb2 153 rfl), List.forall_mem_cons.mpr ⟨(tb1 11 rfl), List.forall_mem_cons.mpr ⟨(tb2 154 rfl), List.forall_mem_cons.mpr ⟨(tb2 170 rfl), List.forall_mem_cons.mpr ⟨(tb1 64 rfl), List.forall_mem_cons.mpr ⟨(tb2 166 rfl), List.forall_mem_cons.mpr ⟨(tb1 57 rfl), List.forall_mem_cons.mpr ⟨(tb2 167 rfl), List.forall_mem_cons.mpr ⟨(tb2 168 rfl), List.forall_mem_cons.mpr ⟨(tb2 169 rfl), List.forall_mem_cons.mpr ⟨(tb1 2 rfl), List.forall_mem_cons.mpr ⟨(tb2 174 rfl), List.forall_mem_cons.mpr ⟨(tb1 59 rfl), List.forall_mem_cons.mpr ⟨(tb2 178 rfl), List.forall_mem_cons.mpr ⟨(tb1 58 rfl), List.forall_mem_cons.mpr ⟨(tb2 162 rfl), List.forall_mem_cons.mpr ⟨(tb2 163 rfl), List.forall_mem_cons.mpr ⟨(tb2 164 rfl), List.forall_mem_cons.mpr ⟨(tb2 165 rfl), List.forall_mem_cons.mpr ⟨(tb2 171 rfl), List.forall_mem_cons.mpr ⟨(tb2 172 rfl), List.forall_mem_cons.mpr ⟨(tb2 173 rfl), List.forall_mem_cons.mpr ⟨(tb2 175 rfl), List.forall_mem_cons.mpr ⟨(tb2 176 rfl), List.forall_mem_cons.mpr ⟨(tb2 177 rfl), List.forall_mem_cons.mpr ⟨(tb2 182 rfl), List.forall_mem_cons.mpr ⟨(tb2 190 rfl), List.forall_mem_cons.mpr ⟨(tb1 60 rfl), List.forall_mem_cons.mpr ⟨(tb1 56 rfl), List.forall_mem_cons.mpr ⟨(tb2 186 rfl), List.forall_mem_cons.mpr ⟨(tb2 187 rfl), List.forall_mem_cons.mpr ⟨(tb2 188 rfl), List.forall_mem_cons.mpr ⟨(tb2 189 rfl), List.forall_mem_cons.mpr ⟨(tb2 194 rfl), List.forall_mem_cons.mpr ⟨(tb2 202 rfl), List.forall_mem_cons.mpr ⟨(tb2 198 rfl), List.forall_mem_cons.mpr ⟨(tb2 199 rfl), List.forall_mem_cons.mpr ⟨(tb2 201 rfl), List.forall_mem_cons.mpr ⟨(tb1 1 rfl), List.forall_mem_cons.mpr ⟨(tb1 65 rfl), (fun _ h => nomatch h)⟩⟩⟩⟩⟩⟩⟩⟩⟩⟩⟩⟩⟩⟩⟩⟩⟩⟩⟩⟩⟩⟩⟩⟩⟩⟩⟩⟩⟩⟩⟩⟩⟩⟩⟩⟩⟩⟩⟩⟩⟩⟩⟩⟩⟩⟩⟩⟩⟩⟩⟩⟩⟩⟩⟩⟩⟩⟩⟩⟩
set_option maxRecDepth 100000 in
theorem lC2 : ∀ w ∈ bwC2, w ∈ lw_tbl := by
  unfold bwC2
  exact List.forall_mem_cons.mpr ⟨(tb2 159 rfl), List.forall_mem_cons.mpr ⟨(tb2 161 rfl), List.forall_mem_cons.mpr ⟨(tb0 1 (by decide +kernel)), List.forall_mem_cons.mpr ⟨(tb2 179 rfl), List.forall_mem_cons.mpr ⟨(tb2 181 rfl), List.forall_mem_cons.mpr ⟨(tb0 2 (by decide +kernel)), List.forall_mem_cons.mpr ⟨(tb2 183 rfl), List.forall_mem_cons.mpr ⟨(tb2 184 rfl), List.forall_mem_cons.mpr ⟨(tb2 185 rfl), List.forall_mem_cons.mpr ⟨(tb2 191 rfl), List.forall_mem_cons.mpr ⟨(tb2 193 rfl), List.forall_mem_cons.mpr ⟨(tb0 3 (by decide +kernel)), List.forall_mem_cons.mpr ⟨(tb2 195 rfl), List.forall_mem_cons.mpr ⟨(tb2 197 rfl), List.forall_mem_cons.mpr ⟨(tb0 4 (by decide +kernel)), List.forall_mem_cons.mpr ⟨(tb2 158 rfl), List.forall_mem_cons.mpr ⟨(tb2 210 rfl), List.forall_mem_cons.mpr ⟨(tb2 213 rfl), List.forall_mem_cons.mpr ⟨(tb1 66 rfl), List.forall_mem_cons.mpr ⟨(tb2 207 rfl), List.forall_mem_cons.mpr ⟨(tb2 209 rfl), List.forall_mem_cons.mpr ⟨(tb2 212 rfl), List.forall_mem_cons.mpr ⟨(tb2 214 rfl), List.forall_mem_cons.mpr ⟨(tb2 206 rfl), List.forall_mem_cons.mpr ⟨(tb2 229 rfl), List.forall_mem_cons.mpr ⟨(tb2 224 rfl), List.forall_mem_cons.mpr ⟨(tb2 226 rfl), List.forall_mem_cons.mpr ⟨(tb2 228 rfl), List.forall_mem_cons.mpr ⟨(tb0 6 (by decide +kernel)), List.forall_mem_cons.mpr ⟨(tb2 223 rfl), List.forall_mem_cons.mpr ⟨(tb2 233 rfl), List.forall_mem_cons.mpr ⟨(tb1 70 rfl), List.forall_mem_cons.mpr ⟨(tb2 219 rfl), List.forall_mem_cons.mpr ⟨(tb2 220 rfl), List.forall_mem_cons.mpr ⟨(tb2 222 rfl), List.forall_mem_cons.mpr ⟨(tb0 5 (by decide +kernel)), List.forall_mem_cons.mpr ⟨(tb2 230 rfl), List.forall_mem_cons.mpr ⟨(tb2 232 rfl), List.forall_mem_cons.mpr ⟨(tb0 7 (by decide +kernel)), List.forall_mem_cons.mpr ⟨(tb2 218 rfl), List.forall_mem_cons.mpr ⟨(tb2 237 rfl), List.forall_mem_cons.mpr ⟨(tb3 1 rfl), List.forall_mem_cons.mpr ⟨(tb3 10 rfl), List.forall_mem_cons.mpr ⟨(tb3 11 rfl), List.forall_mem_cons.mpr ⟨(tb3 25 rfl), List.forall_mem_cons.mpr ⟨(tb3 20 rfl), List.forall_mem_cons.mpr ⟨(tb1 102 rfl), List.forall_mem_cons.mpr ⟨(tb1 182 rfl), List.forall_mem_cons.mpr ⟨(tb1 99 rfl), List.forall_mem_cons.mpr ⟨(tb3 22 rfl), List.forall_mem_cons.mpr ⟨(tb3 23 rfl), List.forall_mem_cons.mpr ⟨(tb3 24 rfl), List.forall_mem_cons.mpr ⟨(tb1 3 rfl), List.forall_mem_cons.mpr ⟨(tb3 29 rfl), List.forall_mem_cons.mpr ⟨(tb3 30 rfl), List.forall_mem_cons.mpr ⟨(tb2 235 rfl), List.forall_mem_cons.mpr ⟨(tb2 236 rfl), List.forall_mem_cons.mpr ⟨(tb3 31 rfl), List.forall_mem_cons.mpr ⟨(tb3 39 rfl), List.forall_mem_cons.mpr ⟨(tb3 35 rfl), (fun _ h => nomatch h)⟩⟩⟩⟩⟩⟩⟩⟩⟩⟩⟩⟩⟩⟩⟩⟩⟩⟩⟩⟩⟩⟩⟩⟩⟩⟩⟩⟩⟩⟩⟩⟩⟩⟩⟩⟩⟩⟩⟩⟩⟩⟩⟩⟩⟩⟩⟩⟩⟩⟩⟩⟩⟩⟩⟩⟩⟩⟩⟩⟩
set_option maxRecDepth 100000 in
theorem lC3 : ∀ w ∈ bwC3, w ∈ lw_tbl := by
  unfold bwC3
  exact List.forall_mem_cons.mpr ⟨(tb1 62 rfl), List.forall_mem_cons.mpr ⟨(tb3 36 rfl), List.forall_mem_cons.mpr ⟨(tb3 37 rfl), List.forall_mem_cons.mpr ⟨(tb3 38 rfl), List.forall_mem_cons.mpr ⟨(tb3 43 rfl), List.forall_mem_cons.mpr ⟨(tb1 108 rfl), List.forall_mem_cons.mpr ⟨(tb1 110 rfl), List.forall_mem_cons.mpr ⟨(tb1 114 rfl), List.forall_mem_cons.mpr ⟨(tb3 17 rfl), List.forall_mem_cons.mpr ⟨(tb3 19 rfl), List.forall_mem_cons.mpr ⟨(tb0 10 (by decide +kernel)), List.forall_mem_cons.mpr ⟨(tb3 26 rfl), List.forall_mem_cons.mpr ⟨(tb3 27 rfl), List.forall_mem_cons.mpr ⟨(tb3 28 rfl), List.forall_mem_cons.mpr ⟨(tb3 32 rfl), List.forall_mem_cons.mpr ⟨(tb3 34 rfl), List.forall_mem_cons.mpr ⟨(tb0 11 (by decide +kernel)), List.forall_mem_cons.mpr ⟨(tb3 40 rfl), List.forall_mem_cons.mpr ⟨(tb3 41 rfl), List.forall_mem_cons.mpr ⟨(tb3 42 rfl), List.forall_mem_cons.mpr ⟨(tb3 16 rfl), List.forall_mem_cons.mpr ⟨(tb3 12 rfl), List.forall_mem_cons.mpr ⟨(tb1 67 rfl), List.forall_mem_cons.mpr ⟨(tb3 7 rfl), List.forall_mem_cons.mpr ⟨(tb3 8 rfl), List.forall_mem_cons.mpr ⟨(tb3 9 rfl), List.forall_mem_cons.mpr ⟨(tb3 13 rfl), List.forall_mem_cons.mpr ⟨(tb3 15 rfl), List.forall_mem_cons.mpr ⟨(tb0 9 (by decide +kernel)), List.forall_mem_cons.mpr ⟨(tb3 6 rfl), List.forall_mem_cons.mpr ⟨(tb3 55 rfl), List.forall_mem_cons.mpr ⟨(tb3 56 rfl), List.forall_mem_cons.mpr ⟨(tb3 52 rfl), List.forall_mem_cons.mpr ⟨(tb3 53 rfl), List.forall_mem_cons.mpr ⟨(tb3 54 rfl), List.forall_mem_cons.mpr ⟨(tb3 51 rfl), List.forall_mem_cons.mpr ⟨(tb1 112 rfl), List.forall_mem_cons.mpr ⟨(tb3 48 rfl), List.forall_mem_cons.mpr ⟨(tb3 50 rfl), List.forall_mem_cons.mpr ⟨(tb0 13 (by decide +kernel)), List.forall_mem_cons.mpr ⟨(tb3 47 rfl), List.forall_mem_cons.mpr ⟨(tb3 68 rfl), List.forall_mem_cons.mpr ⟨(tb3 72 rfl), List.forall_mem_cons.mpr ⟨(tb3 80 rfl), List.forall_mem_cons.mpr ⟨(tb3 88 rfl), List.forall_mem_cons.mpr ⟨(tb3 84 rfl), List.forall_mem_cons.mpr ⟨(tb3 85 rfl), List.forall_mem_cons.mpr ⟨(tb3 86 rfl), List.forall_mem_cons.mpr ⟨(tb3 87 rfl), List.forall_mem_cons.mpr ⟨(tb3 91 rfl), List.forall_mem_cons.mpr ⟨(tb3 95 rfl), List.forall_mem_cons.mpr ⟨(tb1 184 rfl), List.forall_mem_cons.mpr ⟨(tb3 77 rfl), List.forall_mem_cons.mpr ⟨(tb3 79 rfl), List.forall_mem_cons.mpr ⟨(tb0 15 (by decide +kernel)), List.forall_mem_cons.mpr ⟨(tb3 81 rfl), List.forall_mem_cons.mpr ⟨(tb3 82 rfl), List.forall_mem_cons.mpr ⟨(tb3 83 rfl), List.forall_mem_cons.mpr ⟨(tb3 90 rfl), List.forall_mem_cons.mpr ⟨(tb3 92 rfl), (fun _ h => nomatch h)⟩⟩⟩⟩⟩⟩⟩⟩⟩⟩⟩⟩⟩⟩⟩⟩⟩⟩⟩⟩⟩⟩⟩⟩⟩⟩⟩⟩⟩⟩⟩⟩⟩⟩⟩⟩⟩⟩⟩⟩⟩⟩⟩⟩⟩⟩⟩⟩⟩⟩⟩⟩⟩⟩⟩⟩⟩⟩⟩⟩
set_option maxRecDepth 100000 in
theorem lC4 : ∀ w ∈ bwC4, w ∈ lw_tbl := by
  unfold bwC4
  exact List.forall_mem_cons.mpr ⟨(tb3 93 rfl), List.forall_mem_cons.mpr ⟨(tb3 94 rfl), List.forall_mem_cons.mpr ⟨(tb3 76 rfl), List.forall_mem_cons.mpr ⟨(tb1 104 rfl), List.forall_mem_cons.mpr ⟨(tb1 106 rfl), List.forall_mem_cons.mpr ⟨(tb3 61 rfl), List.forall_mem_cons.mpr ⟨(tb3 62 rfl), List.forall_mem_cons.mpr ⟨(tb1 13 rfl), List.forall_mem_cons.mpr ⟨(tb3 63 rfl), List.forall_mem_cons.mpr ⟨(tb3 64 rfl), List.forall_mem_cons.mpr ⟨(tb2 238 rfl), List.forall_mem_cons.mpr ⟨(tb2 239 rfl), List.forall_mem_cons.mpr ⟨(tb3 0 rfl), List.forall_mem_cons.mpr ⟨(tb3 65 rfl), List.forall_mem_cons.mpr ⟨(tb3 66 rfl), List.forall_mem_cons.mpr ⟨(tb3 67 rfl), List.forall_mem_cons.mpr ⟨(tb3 69 rfl), List.forall_mem_cons.mpr ⟨(tb3 70 rfl), List.forall_mem_cons.mpr ⟨(tb3 71 rfl), List.forall_mem_cons.mpr ⟨(tb3 73 rfl), List.forall_mem_cons.mpr ⟨(tb3 74 rfl), List.forall_mem_cons.mpr ⟨(tb3 75 rfl), List.forall_mem_cons.mpr ⟨(tb3 60 rfl), List.forall_mem_cons.mpr ⟨(tb3 104 rfl), List.forall_mem_cons.mpr ⟨(tb3 111 rfl), List.forall_mem_cons.mpr ⟨(tb3 108 rfl), List.forall_mem_cons.mpr ⟨(tb3 110 rfl), List.forall_mem_cons.mpr ⟨(tb3 100 rfl), List.forall_mem_cons.mpr ⟨(tb3 101 rfl), List.forall_mem_cons.mpr ⟨(tb3 103 rfl), List.forall_mem_cons.mpr ⟨(tb0 17 (by decide +kernel)), List.forall_mem_cons.mpr ⟨(tb3 105 rfl), List.forall_mem_cons.mpr ⟨(tb3 106 rfl), List.forall_mem_cons.mpr ⟨(tb3 107 rfl), List.forall_mem_cons.mpr ⟨(tb3 99 rfl), List.forall_mem_cons.mpr ⟨(tb1 151 rfl), List.forall_mem_cons.mpr ⟨(tb2 148 rfl), List.forall_mem_cons.mpr ⟨(tb2 150 rfl), List.forall_mem_cons.mpr ⟨(tb0 0 (by decide +kernel)), List.forall_mem_cons.mpr ⟨(tb2 155 rfl), List.forall_mem_cons.mpr ⟨(tb2 156 rfl), List.forall_mem_cons.mpr ⟨(tb2 157 rfl), List.forall_mem_cons.mpr ⟨(tb2 203 rfl), List.forall_mem_cons.mpr ⟨(tb2 204 rfl), List.forall_mem_cons.mpr ⟨(tb2 205 rfl), List.forall_mem_cons.mpr ⟨(tb2 215 rfl), List.forall_mem_cons.mpr ⟨(tb2 216 rfl), List.forall_mem_cons.mpr ⟨(tb2 217 rfl), List.forall_mem_cons.mpr ⟨(tb2 234 rfl), List.forall_mem_cons.mpr ⟨(tb3 3 rfl), List.forall_mem_cons.mpr ⟨(tb3 5 rfl), List.forall_mem_cons.mpr ⟨(tb0 8 (by decide +kernel)), List.forall_mem_cons.mpr ⟨(tb3 44 rfl), List.forall_mem_cons.mpr ⟨(tb3 46 rfl), List.forall_mem_cons.mpr ⟨(tb0 12 (by decide +kernel)), List.forall_mem_cons.mpr ⟨(tb3 57 rfl), List.forall_mem_cons.mpr ⟨(tb3 59 rfl), List.forall_mem_cons.mpr ⟨(tb0 14 (by decide +kernel)), List.forall_mem_cons.mpr ⟨(tb3 96 rfl), List.forall_mem_cons.mpr ⟨(tb3 98 rfl), (fun _ h => nomatch h)⟩⟩⟩⟩⟩⟩⟩⟩⟩⟩⟩⟩⟩⟩⟩⟩⟩⟩⟩⟩⟩⟩⟩⟩⟩⟩⟩⟩⟩⟩⟩⟩⟩⟩⟩⟩⟩⟩⟩⟩⟩⟩⟩⟩⟩⟩⟩⟩⟩⟩⟩⟩⟩⟩⟩⟩⟩⟩⟩⟩
set_option maxRecDepth 100000 in
theorem lC5 : ∀ w ∈ bwC5, w ∈ lw_tbl := by
  unfold bwC5
  exact List.forall_mem_cons.mpr ⟨(tb0 16 (by decide +kernel)), List.forall_mem_cons.mpr ⟨(tb2 147 rfl), List.forall_mem_cons.mpr ⟨(tb4 133 rfl), List.forall_mem_cons.mpr ⟨(tb4 134 rfl), List.forall_mem_cons.mpr ⟨(tb4 0 rfl), List.forall_mem_cons.mpr ⟨(tb4 76 rfl), List.forall_mem_cons.mpr ⟨(tb4 38 rfl), List.forall_mem_cons.mpr ⟨(tb4 37 rfl), List.forall_mem_cons.mpr ⟨(tb4 39 rfl), List.forall_mem_cons.mpr ⟨(tb3 236 rfl), List.forall_mem_cons.mpr ⟨(tb3 237 rfl), List.forall_mem_cons.mpr ⟨(tb3 238 rfl), List.forall_mem_cons.mpr ⟨(tb3 239 rfl), List.forall_mem_cons.mpr ⟨(tb4 4 rfl), List.forall_mem_cons.mpr ⟨(tb4 6 rfl), List.forall_mem_cons.mpr ⟨(tb4 7 rfl), List.forall_mem_cons.mpr ⟨(tb1 26 rfl), List.forall_mem_cons.mpr ⟨(tb4 8 rfl), List.forall_mem_cons.mpr ⟨(tb4 5 rfl), List.forall_mem_cons.mpr ⟨(tb3 228 rfl), List.forall_mem_cons.mpr ⟨(tb3 229 rfl), List.forall_mem_cons.mpr ⟨(tb3 230 rfl), List.forall_mem_cons.mpr ⟨(tb3 231 rfl), List.forall_mem_cons.mpr ⟨(tb3 232 rfl), List.forall_mem_cons.mpr ⟨(tb4 46 rfl), List.forall_mem_cons.mpr ⟨(tb4 43 rfl), List.forall_mem_cons.mpr ⟨(tb4 44 rfl), List.forall_mem_cons.mpr ⟨(tb4 45 rfl), List.forall_mem_cons.mpr ⟨(tb4 50 rfl), List.forall_mem_cons.mpr ⟨(tb4 142 rfl), List.forall_mem_cons.mpr ⟨(tb4 147 rfl), List.forall_mem_cons.mpr ⟨(tb4 148 rfl), List.forall_mem_cons.mpr ⟨(tb4 140 rfl), List.forall_mem_cons.mpr ⟨(tb4 141 rfl), List.forall_mem_cons.mpr ⟨(tb6 17 rfl), List.forall_mem_cons.mpr ⟨(tb4 127 rfl), List.forall_mem_cons.mpr ⟨(tb2 60 rfl), List.forall_mem_cons.mpr ⟨(tb2 61 rfl), List.forall_mem_cons.mpr ⟨(tb2 62 rfl), List.forall_mem_cons.mpr ⟨(tb2 63 rfl), List.forall_mem_cons.mpr ⟨(tb2 64 rfl), List.forall_mem_cons.mpr ⟨(tb2 65 rfl), List.forall_mem_cons.mpr ⟨(tb2 66 rfl), List.forall_mem_cons.mpr ⟨(tb2 69 rfl), List.forall_mem_cons.mpr ⟨(tb4 195 rfl), List.forall_mem_cons.mpr ⟨(tb5 19 rfl), List.forall_mem_cons.mpr ⟨(tb4 213 rfl), List.forall_mem_cons.mpr ⟨(tb5 35 rfl), List.forall_mem_cons.mpr ⟨(tb5 16 rfl), List.forall_mem_cons.mpr ⟨(tb5 17 rfl), List.forall_mem_cons.mpr ⟨(tb5 18 rfl), List.forall_mem_cons.mpr ⟨(tb1 10 rfl), List.forall_mem_cons.mpr ⟨(tb5 53 rfl), List.forall_mem_cons.mpr ⟨(tb5 15 rfl), List.forall_mem_cons.mpr ⟨(tb5 89 rfl), List.forall_mem_cons.mpr ⟨(tb5 65 rfl), List.forall_mem_cons.mpr ⟨(tb5 69 rfl), List.forall_mem_cons.mpr ⟨(tb5 27 rfl), List.forall_mem_cons.mpr ⟨(tb5 77 rfl), List.forall_mem_cons.mpr ⟨(tb1 54 rfl), (fun _ h => nomatch h)⟩⟩⟩⟩⟩⟩⟩⟩⟩⟩⟩⟩⟩⟩⟩⟩⟩⟩⟩⟩⟩⟩⟩⟩⟩⟩⟩⟩⟩⟩⟩⟩⟩⟩⟩⟩⟩⟩⟩⟩⟩⟩⟩⟩⟩⟩⟩⟩⟩⟩⟩⟩⟩⟩⟩⟩⟩⟩⟩⟩
set_option maxRecDepth 100000 in
theorem lC6 : ∀ w ∈ bwC6, w ∈ lw_tbl := by
  unfold bwC6
  exact List.forall_mem_cons.mpr ⟨(tb1 55 rfl), List.forall_mem_cons.mpr ⟨(tb4 106 rfl), List.forall_mem_cons.mpr ⟨(tb4 107 rfl), List.forall_mem_cons.mpr ⟨(tb4 109 rfl), List.forall_mem_cons.mpr ⟨(tb4 108 rfl), List.forall_mem_cons.mpr ⟨(tb1 27 rfl), List.forall_mem_cons.mpr ⟨(tb5 138 rfl), List.forall_mem_cons.mpr ⟨(tb4 183 rfl), List.forall_mem_cons.mpr ⟨(tb5 169 rfl), List.forall_mem_cons.mpr ⟨(tb5 170 rfl), List.forall_mem_cons.mpr ⟨(tb5 171 rfl), List.forall_mem_cons.mpr ⟨(tb4 181 rfl), List.forall_mem_cons.mpr ⟨(tb4 182 rfl), List.forall_mem_cons.mpr ⟨(tb4 113 rfl), List.forall_mem_cons.mpr ⟨(tb4 16 rfl), List.forall_mem_cons.mpr ⟨(tb4 86 rfl), List.forall_mem_cons.mpr ⟨(tb4 87 rfl), List.forall_mem_cons.mpr ⟨(tb4 14 rfl), List.forall_mem_cons.mpr ⟨(tb4 15 rfl), List.forall_mem_cons.mpr ⟨(tb5 153 rfl), List.forall_mem_cons.mpr ⟨(tb5 156 rfl), List.forall_mem_cons.mpr ⟨(tb5 150 rfl), List.forall_mem_cons.mpr ⟨(tb5 152 rfl), List.forall_mem_cons.mpr ⟨(tb5 155 rfl), List.forall_mem_cons.mpr ⟨(tb5 162 rfl), List.forall_mem_cons.mpr ⟨(tb2 39 rfl), List.forall_mem_cons.mpr ⟨(tb2 40 rfl), List.forall_mem_cons.mpr ⟨(tb2 41 rfl), List.forall_mem_cons.mpr ⟨(tb2 42 rfl), List.forall_mem_cons.mpr ⟨(tb2 43 rfl), List.forall_mem_cons.mpr ⟨(tb2 44 rfl), List.forall_mem_cons.mpr ⟨(tb2 34 rfl), List.forall_mem_cons.mpr ⟨(tb2 85 rfl), List.forall_mem_cons.mpr ⟨(tb2 86 rfl), List.forall_mem_cons.mpr ⟨(tb2 35 rfl), List.forall_mem_cons.mpr ⟨(tb2 36 rfl), List.forall_mem_cons.mpr ⟨(tb1 9 rfl), List.forall_mem_cons.mpr ⟨(tb2 87 rfl), List.forall_mem_cons.mpr ⟨(tb2 56 rfl), List.forall_mem_cons.mpr ⟨(tb2 57 rfl), List.forall_mem_cons.mpr ⟨(tb2 89 rfl), List.forall_mem_cons.mpr ⟨(tb2 91 rfl), List.forall_mem_cons.mpr ⟨(tb2 92 rfl), List.forall_mem_cons.mpr ⟨(tb2 93 rfl), List.forall_mem_cons.mpr ⟨(tb2 94 rfl), List.forall_mem_cons.mpr ⟨(tb2 95 rfl), List.forall_mem_cons.mpr ⟨(tb2 96 rfl), List.forall_mem_cons.mpr ⟨(tb2 97 rfl), List.forall_mem_cons.mpr ⟨(tb2 98 rfl), List.forall_mem_cons.mpr ⟨(tb2 100 rfl), List.forall_mem_cons.mpr ⟨(tb2 102 rfl), List.forall_mem_cons.mpr ⟨(tb2 104 rfl), List.forall_mem_cons.mpr ⟨(tb2 106 rfl), List.forall_mem_cons.mpr ⟨(tb2 108 rfl), List.forall_mem_cons.mpr ⟨(tb2 37 rfl), List.forall_mem_cons.mpr ⟨(tb2 38 rfl), List.forall_mem_cons.mpr ⟨(tb2 58 rfl), List.forall_mem_cons.mpr ⟨(tb2 59 rfl), List.forall_mem_cons.mpr ⟨(tb2 33 rfl), List.forall_mem_cons.mpr ⟨(tb4 160 rfl), (fun _ h => nomatch h)⟩⟩⟩⟩⟩⟩⟩⟩⟩⟩⟩⟩⟩⟩⟩⟩⟩⟩⟩⟩⟩⟩⟩⟩⟩⟩⟩⟩⟩⟩⟩⟩⟩⟩⟩⟩⟩⟩⟩⟩⟩⟩⟩⟩⟩⟩⟩⟩⟩⟩⟩⟩⟩⟩⟩⟩⟩⟩⟩⟩
set_option maxRecDepth 100000 in
theorem lC7 : ∀ w ∈ bwC7, w ∈ lw_tbl := by
  unfold bwC7
  exact List.forall_mem_cons.mpr ⟨(tb2 67 rfl), List.forall_mem_cons.mpr ⟨(tb2 70 rfl), List.forall_mem_cons.mpr ⟨(tb4 191 rfl), List.forall_mem_cons.mpr ⟨(tb2 45 rfl), List.forall_mem_cons.mpr ⟨(tb4 192 rfl), List.forall_mem_cons.mpr ⟨(tb4 193 rfl), List.forall_mem_cons.mpr ⟨(tb4 194 rfl), List.forall_mem_cons.mpr ⟨(tb4 196 rfl), List.forall_mem_cons.mpr ⟨(tb4 222 rfl), List.forall_mem_cons.mpr ⟨(tb4 209 rfl), List.forall_mem_cons.mpr ⟨(tb4 230 rfl), List.forall_mem_cons.mpr ⟨(tb4 226 rfl), List.forall_mem_cons.mpr ⟨(tb4 227 rfl), List.forall_mem_cons.mpr ⟨(tb4 229 rfl), List.forall_mem_cons.mpr ⟨(tb0 28 (by decide +kernel)), List.forall_mem_cons.mpr ⟨(tb1 8 rfl), List.forall_mem_cons.mpr ⟨(tb4 234 rfl), List.forall_mem_cons.mpr ⟨(tb4 219 rfl), List.forall_mem_cons.mpr ⟨(tb4 221 rfl), List.forall_mem_cons.mpr ⟨(tb0 26 (by decide +kernel)), List.forall_mem_cons.mpr ⟨(tb4 223 rfl), List.forall_mem_cons.mpr ⟨(tb4 225 rfl), List.forall_mem_cons.mpr ⟨(tb0 27 (by decide +kernel)), List.forall_mem_cons.mpr ⟨(tb4 231 rfl), List.forall_mem_cons.mpr ⟨(tb4 233 rfl), List.forall_mem_cons.mpr ⟨(tb0 29 (by decide +kernel)), List.forall_mem_cons.mpr ⟨(tb4 218 rfl), List.forall_mem_cons.mpr ⟨(tb4 210 rfl), List.forall_mem_cons.mpr ⟨(tb4 211 rfl), List.forall_mem_cons.mpr ⟨(tb4 212 rfl), List.forall_mem_cons.mpr ⟨(tb4 215 rfl), List.forall_mem_cons.mpr ⟨(tb4 217 rfl), List.forall_mem_cons.mpr ⟨(tb0 25 (by decide +kernel)), List.forall_mem_cons.mpr ⟨(tb4 208 rfl), List.forall_mem_cons.mpr ⟨(tb5 2 rfl), List.forall_mem_cons.mpr ⟨(tb5 7 rfl), List.forall_mem_cons.mpr ⟨(tb4 239 rfl), List.forall_mem_cons.mpr ⟨(tb5 1 rfl), List.forall_mem_cons.mpr ⟨(tb0 31 (by decide +kernel)), List.forall_mem_cons.mpr ⟨(tb5 4 rfl), List.forall_mem_cons.mpr ⟨(tb5 6 rfl), List.forall_mem_cons.mpr ⟨(tb0 32 (by decide +kernel)), List.forall_mem_cons.mpr ⟨(tb4 238 rfl), List.forall_mem_cons.mpr ⟨(tb5 12 rfl), List.forall_mem_cons.mpr ⟨(tb5 13 rfl), List.forall_mem_cons.mpr ⟨(tb5 14 rfl), List.forall_mem_cons.mpr ⟨(tb5 11 rfl), List.forall_mem_cons.mpr ⟨(tb5 31 rfl), List.forall_mem_cons.mpr ⟨(tb5 39 rfl), List.forall_mem_cons.mpr ⟨(tb5 45 rfl), List.forall_mem_cons.mpr ⟨(tb5 24 rfl), List.forall_mem_cons.mpr ⟨(tb5 25 rfl), List.forall_mem_cons.mpr ⟨(tb5 26 rfl), List.forall_mem_cons.mpr ⟨(tb5 28 rfl), List.forall_mem_cons.mpr ⟨(tb5 30 rfl), List.forall_mem_cons.mpr ⟨(tb0 35 (by decide +kernel)), List.forall_mem_cons.mpr ⟨(tb5 32 rfl), List.forall_mem_cons.mpr ⟨(tb5 33 rfl), List.forall_mem_cons.mpr ⟨(tb5 34 rfl), List.forall_mem_cons.mpr ⟨(tb5 36 rfl), (fun _ h => nomatch h)⟩⟩⟩⟩⟩⟩⟩⟩⟩⟩⟩⟩⟩⟩⟩⟩⟩⟩⟩⟩⟩⟩⟩⟩⟩⟩⟩⟩⟩⟩⟩⟩⟩⟩⟩⟩⟩⟩⟩⟩⟩⟩⟩⟩⟩⟩⟩⟩⟩⟩⟩⟩⟩⟩⟩⟩⟩⟩⟩⟩
set_option maxRecDepth 100000 in
theorem lC8 : ∀ w ∈ bwC8, w ∈ lw_tbl := by
  unfold bwC8
  exact List.forall_mem_cons.mpr ⟨(tb5 37 rfl), List.forall_mem_cons.mpr ⟨(tb5 38 rfl), List.forall_mem_cons.mpr ⟨(tb5 42 rfl), List.forall_mem_cons.mpr ⟨(tb5 44 rfl), List.forall_mem_cons.mpr ⟨(tb0 36 (by decide +kernel)), List.forall_mem_cons.mpr ⟨(tb5 23 rfl), List.forall_mem_cons.mpr ⟨(tb5 57 rfl), List.forall_mem_cons.mpr ⟨(tb5 50 rfl), List.forall_mem_cons.mpr ⟨(tb5 51 rfl), List.forall_mem_cons.mpr ⟨(tb5 52 rfl), List.forall_mem_cons.mpr ⟨(tb5 54 rfl), List.forall_mem_cons.mpr ⟨(tb5 56 rfl), List.forall_mem_cons.mpr ⟨(tb0 38 (by decide +kernel)), List.forall_mem_cons.mpr ⟨(tb5 49 rfl), List.forall_mem_cons.mpr ⟨(tb5 61 rfl), List.forall_mem_cons.mpr ⟨(tb5 62 rfl), List.forall_mem_cons.mpr ⟨(tb5 63 rfl), List.forall_mem_cons.mpr ⟨(tb5 64 rfl), List.forall_mem_cons.mpr ⟨(tb5 66 rfl), List.forall_mem_cons.mpr ⟨(tb5 67 rfl), List.forall_mem_cons.mpr ⟨(tb5 68 rfl), List.forall_mem_cons.mpr ⟨(tb5 73 rfl), List.forall_mem_cons.mpr ⟨(tb5 74 rfl), List.forall_mem_cons.mpr ⟨(tb5 75 rfl), List.forall_mem_cons.mpr ⟨(tb5 76 rfl), List.forall_mem_cons.mpr ⟨(tb4 205 rfl), List.forall_mem_cons.mpr ⟨(tb4 207 rfl), List.forall_mem_cons.mpr ⟨(tb0 24 (by decide +kernel)), List.forall_mem_cons.mpr ⟨(tb4 235 rfl), List.forall_mem_cons.mpr ⟨(tb4 237 rfl), List.forall_mem_cons.mpr ⟨(tb0 30 (by decide +kernel)), List.forall_mem_cons.mpr ⟨(tb5 8 rfl), List.forall_mem_cons.mpr ⟨(tb5 10 rfl), List.forall_mem_cons.mpr ⟨(tb0 33 (by decide +kernel)), List.forall_mem_cons.mpr ⟨(tb5 20 rfl), List.forall_mem_cons.mpr ⟨(tb5 22 rfl), List.forall_mem_cons.mpr ⟨(tb0 34 (by decide +kernel)), List.forall_mem_cons.mpr ⟨(tb5 46 rfl), List.forall_mem_cons.mpr ⟨(tb5 48 rfl), List.forall_mem_cons.mpr ⟨(tb0 37 (by decide +kernel)), List.forall_mem_cons.mpr ⟨(tb5 58 rfl), List.forall_mem_cons.mpr ⟨(tb5 60 rfl), List.forall_mem_cons.mpr ⟨(tb0 39 (by decide +kernel)), List.forall_mem_cons.mpr ⟨(tb5 70 rfl), List.forall_mem_cons.mpr ⟨(tb5 72 rfl), List.forall_mem_cons.mpr ⟨(tb0 40 (by decide +kernel)), List.forall_mem_cons.mpr ⟨(tb4 204 rfl), List.forall_mem_cons.mpr ⟨(tb5 86 rfl), List.forall_mem_cons.mpr ⟨(tb5 87 rfl), List.forall_mem_cons.mpr ⟨(tb5 88 rfl), List.forall_mem_cons.mpr ⟨(tb5 85 rfl), List.forall_mem_cons.mpr ⟨(tb5 94 rfl), List.forall_mem_cons.mpr ⟨(tb5 82 rfl), List.forall_mem_cons.mpr ⟨(tb5 84 rfl), List.forall_mem_cons.mpr ⟨(tb0 42 (by decide +kernel)), List.forall_mem_cons.mpr ⟨(tb5 91 rfl), List.forall_mem_cons.mpr ⟨(tb5 93 rfl), List.forall_mem_cons.mpr ⟨(tb0 43 (by decide +kernel)), List.forall_mem_cons.mpr ⟨(tb5 81 rfl), List.forall_mem_cons.mpr ⟨(tb5 104 rfl), (fun _ h => nomatch h)⟩⟩⟩⟩⟩⟩⟩⟩⟩⟩⟩⟩⟩⟩⟩⟩⟩⟩⟩⟩⟩⟩⟩⟩⟩⟩⟩⟩⟩⟩⟩⟩⟩⟩⟩⟩⟩⟩⟩⟩⟩⟩⟩⟩⟩⟩⟩⟩⟩⟩⟩⟩⟩⟩⟩⟩⟩⟩⟩⟩
set_option maxRecDepth 100000 in
theorem lC9 : ∀ w ∈ bwC9, w ∈ lw_tbl := by
  unfold bwC9
  exact List.forall_mem_cons.mpr ⟨(tb4 198 rfl), List.forall_mem_cons.mpr ⟨(tb4 199 rfl), List.forall_mem_cons.mpr ⟨(tb5 99 rfl), List.forall_mem_cons.mpr ⟨(tb5 100 rfl), List.forall_mem_cons.mpr ⟨(tb5 101 rfl), List.forall_mem_cons.mpr ⟨(tb5 102 rfl), List.forall_mem_cons.mpr ⟨(tb5 103 rfl), List.forall_mem_cons.mpr ⟨(tb5 98 rfl), List.forall_mem_cons.mpr ⟨(tb1 63 rfl), List.forall_mem_cons.mpr ⟨(tb5 78 rfl), List.forall_mem_cons.mpr ⟨(tb5 80 rfl), List.forall_mem_cons.mpr ⟨(tb0 41 (by decide +kernel)), List.forall_mem_cons.mpr ⟨(tb5 108 rfl), List.forall_mem_cons.mpr ⟨(tb1 69 rfl), List.forall_mem_cons.mpr ⟨(tb4 188 rfl), List.forall_mem_cons.mpr ⟨(tb4 190 rfl), List.forall_mem_cons.mpr ⟨(tb0 22 (by decide +kernel)), List.forall_mem_cons.mpr ⟨(tb4 197 rfl), List.forall_mem_cons.mpr ⟨(tb4 200 rfl), List.forall_mem_cons.mpr ⟨(tb4 201 rfl), List.forall_mem_cons.mpr ⟨(tb4 203 rfl), List.forall_mem_cons.mpr ⟨(tb0 23 (by decide +kernel)), List.forall_mem_cons.mpr ⟨(tb5 95 rfl), List.forall_mem_cons.mpr ⟨(tb5 97 rfl), List.forall_mem_cons.mpr ⟨(tb0 44 (by decide +kernel)), List.forall_mem_cons.mpr ⟨(tb5 105 rfl), List.forall_mem_cons.mpr ⟨(tb5 107 rfl), List.forall_mem_cons.mpr ⟨(tb0 45 (by decide +kernel)), List.forall_mem_cons.mpr ⟨(tb4 187 rfl), List.forall_mem_cons.mpr ⟨(tb3 145 rfl), List.forall_mem_cons.mpr ⟨(tb3 146 rfl), List.forall_mem_cons.mpr ⟨(tb3 147 rfl), List.forall_mem_cons.mpr ⟨(tb3 148 rfl), List.forall_mem_cons.mpr ⟨(tb4 169 rfl), List.forall_mem_cons.mpr ⟨(tb3 142 rfl), List.forall_mem_cons.mpr ⟨(tb3 143 rfl), List.forall_mem_cons.mpr ⟨(tb3 144 rfl), List.forall_mem_cons.mpr ⟨(tb4 174 rfl), List.forall_mem_cons.mpr ⟨(tb4 175 rfl), List.forall_mem_cons.mpr ⟨(tb4 167 rfl), List.forall_mem_cons.mpr ⟨(tb4 168 rfl), List.forall_mem_cons.mpr ⟨(tb3 141 rfl), List.forall_mem_cons.mpr ⟨(tb1 47 rfl), List.forall_mem_cons.mpr ⟨(tb1 50 rfl), List.forall_mem_cons.mpr ⟨(tb1 51 rfl), List.forall_mem_cons.mpr ⟨(tb3 112 rfl), List.forall_mem_cons.mpr ⟨(tb1 85 rfl), List.forall_mem_cons.mpr ⟨(tb1 86 rfl), List.forall_mem_cons.mpr ⟨(tb3 113 rfl), List.forall_mem_cons.mpr ⟨(tb2 29 rfl), List.forall_mem_cons.mpr ⟨(tb2 30 rfl), List.forall_mem_cons.mpr ⟨(tb1 228 rfl), List.forall_mem_cons.mpr ⟨(tb3 114 rfl), List.forall_mem_cons.mpr ⟨(tb3 115 rfl), List.forall_mem_cons.mpr ⟨(tb3 116 rfl), List.forall_mem_cons.mpr ⟨(tb3 117 rfl), List.forall_mem_cons.mpr ⟨(tb3 118 rfl), List.forall_mem_cons.mpr ⟨(tb1 52 rfl), List.forall_mem_cons.mpr ⟨(tb1 53 rfl), List.forall_mem_cons.mpr ⟨(tb1 87 rfl), (fun _ h => nomatch h)⟩⟩⟩⟩⟩⟩⟩⟩⟩⟩⟩⟩⟩⟩⟩⟩⟩⟩⟩⟩⟩⟩⟩⟩⟩⟩⟩⟩⟩⟩⟩⟩⟩⟩⟩⟩⟩⟩⟩⟩⟩⟩⟩⟩⟩⟩⟩⟩⟩⟩⟩⟩⟩⟩⟩⟩⟩⟩⟩⟩
set_option maxRecDepth 100000 in
theorem lC10 : ∀ w ∈ bwC10, w ∈ lw_tbl := by
  unfold bwC10
  exact List.forall_mem_cons.mpr ⟨(tb1 88 rfl), List.forall_mem_cons.mpr ⟨(tb2 31 rfl), List.forall_mem_cons.mpr ⟨(tb2 32 rfl), List.forall_mem_cons.mpr ⟨(tb2 144 rfl), List.forall_mem_cons.mpr ⟨(tb2 145 rfl), List.forall_mem_cons.mpr ⟨(tb2 146 rfl), List.forall_mem_cons.mpr ⟨(tb1 46 rfl), List.forall_mem_cons.mpr ⟨(tb3 159 rfl), List.forall_mem_cons.mpr ⟨(tb1 22 rfl), List.forall_mem_cons.mpr ⟨(tb5 119 rfl), List.forall_mem_cons.mpr ⟨(tb1 23 rfl), List.forall_mem_cons.mpr ⟨(tb1 61 rfl), List.forall_mem_cons.mpr ⟨(tb5 135 rfl), List.forall_mem_cons.mpr ⟨(tb5 136 rfl), List.forall_mem_cons.mpr ⟨(tb5 137 rfl), List.forall_mem_cons.mpr ⟨(tb5 117 rfl), List.forall_mem_cons.mpr ⟨(tb1 68 rfl), List.forall_mem_cons.mpr ⟨(tb5 147 rfl), List.forall_mem_cons.mpr ⟨(tb5 148 rfl), List.forall_mem_cons.mpr ⟨(tb5 149 rfl), List.forall_mem_cons.mpr ⟨(tb5 159 rfl), List.forall_mem_cons.mpr ⟨(tb5 160 rfl), List.forall_mem_cons.mpr ⟨(tb5 161 rfl), List.forall_mem_cons.mpr ⟨(tb5 164 rfl), List.forall_mem_cons.mpr ⟨(tb5 166 rfl), List.forall_mem_cons.mpr ⟨(tb5 167 rfl), List.forall_mem_cons.mpr ⟨(tb5 168 rfl), List.forall_mem_cons.mpr ⟨(tb5 146 rfl), List.forall_mem_cons.mpr ⟨(tb4 17 rfl), List.forall_mem_cons.mpr ⟨(tb1 32 rfl), List.forall_mem_cons.mpr ⟨(tb4 59 rfl), List.forall_mem_cons.mpr ⟨(tb4 61 rfl), List.forall_mem_cons.mpr ⟨(tb4 180 rfl), List.forall_mem_cons.mpr ⟨(tb5 179 rfl), List.forall_mem_cons.mpr ⟨(tb4 110 rfl), List.forall_mem_cons.mpr ⟨(tb4 111 rfl), List.forall_mem_cons.mpr ⟨(tb4 112 rfl), List.forall_mem_cons.mpr ⟨(tb5 186 rfl), List.forall_mem_cons.mpr ⟨(tb4 62 rfl), List.forall_mem_cons.mpr ⟨(tb4 63 rfl), List.forall_mem_cons.mpr ⟨(tb4 64 rfl), List.forall_mem_cons.mpr ⟨(tb4 65 rfl), List.forall_mem_cons.mpr ⟨(tb4 66 rfl), List.forall_mem_cons.mpr ⟨(tb4 58 rfl), List.forall_mem_cons.mpr ⟨(tb4 71 rfl), List.forall_mem_cons.mpr ⟨(tb4 33 rfl), List.forall_mem_cons.mpr ⟨(tb4 73 rfl), List.forall_mem_cons.mpr ⟨(tb4 74 rfl), List.forall_mem_cons.mpr ⟨(tb4 75 rfl), List.forall_mem_cons.mpr ⟨(tb4 70 rfl), List.forall_mem_cons.mpr ⟨(tb4 83 rfl), List.forall_mem_cons.mpr ⟨(tb4 84 rfl), List.forall_mem_cons.mpr ⟨(tb4 85 rfl), List.forall_mem_cons.mpr ⟨(tb4 94 rfl), List.forall_mem_cons.mpr ⟨(tb4 92 rfl), List.forall_mem_cons.mpr ⟨(tb4 81 rfl), List.forall_mem_cons.mpr ⟨(tb4 98 rfl), List.forall_mem_cons.mpr ⟨(tb4 82 rfl), List.forall_mem_cons.mpr ⟨(tb4 80 rfl), List.forall_mem_cons.mpr ⟨(tb1 230 rfl), (fun _ h => nomatch h)⟩⟩⟩⟩⟩⟩⟩⟩⟩⟩⟩⟩⟩⟩⟩⟩⟩⟩⟩⟩⟩⟩⟩⟩⟩⟩⟩⟩⟩⟩⟩⟩⟩⟩⟩⟩⟩⟩⟩⟩⟩⟩⟩⟩⟩⟩⟩⟩⟩⟩⟩⟩⟩⟩⟩⟩⟩⟩⟩⟩
set_option maxRecDepth 100000 in
theorem lC11 : ∀ w ∈ bwC11, w ∈ lw_tbl := by
  unfold bwC11
  exact List.forall_mem_cons.mpr ⟨(tb4 122 rfl), List.forall_mem_cons.mpr ⟨(tb4 124 rfl), List.forall_mem_cons.mpr ⟨(tb4 125 rfl), List.forall_mem_cons.mpr ⟨(tb4 126 rfl), List.forall_mem_cons.mpr ⟨(tb4 128 rfl), List.forall_mem_cons.mpr ⟨(tb4 129 rfl), List.forall_mem_cons.mpr ⟨(tb4 130 rfl), List.forall_mem_cons.mpr ⟨(tb4 131 rfl), List.forall_mem_cons.mpr ⟨(tb4 132 rfl), List.forall_mem_cons.mpr ⟨(tb4 121 rfl), List.forall_mem_cons.mpr ⟨(tb1 232 rfl), List.forall_mem_cons.mpr ⟨(tb4 139 rfl), List.forall_mem_cons.mpr ⟨(tb4 144 rfl), List.forall_mem_cons.mpr ⟨(tb4 145 rfl), List.forall_mem_cons.mpr ⟨(tb4 146 rfl), List.forall_mem_cons.mpr ⟨(tb4 138 rfl), List.forall_mem_cons.mpr ⟨(tb1 226 rfl), List.forall_mem_cons.mpr ⟨(tb4 13 rfl), List.forall_mem_cons.mpr ⟨(tb4 34 rfl), List.forall_mem_cons.mpr ⟨(tb4 35 rfl), List.forall_mem_cons.mpr ⟨(tb4 36 rfl), List.forall_mem_cons.mpr ⟨(tb4 40 rfl), List.forall_mem_cons.mpr ⟨(tb4 41 rfl), List.forall_mem_cons.mpr ⟨(tb4 42 rfl), List.forall_mem_cons.mpr ⟨(tb4 47 rfl), List.forall_mem_cons.mpr ⟨(tb4 48 rfl), List.forall_mem_cons.mpr ⟨(tb4 49 rfl), List.forall_mem_cons.mpr ⟨(tb4 12 rfl), List.forall_mem_cons.mpr ⟨(tb1 212 rfl), List.forall_mem_cons.mpr ⟨(tb2 99 rfl), List.forall_mem_cons.mpr ⟨(tb4 184 rfl), List.forall_mem_cons.mpr ⟨(tb4 185 rfl), List.forall_mem_cons.mpr ⟨(tb4 186 rfl), List.forall_mem_cons.mpr ⟨(tb5 226 rfl), List.forall_mem_cons.mpr ⟨(tb4 156 rfl), List.forall_mem_cons.mpr ⟨(tb2 101 rfl), List.forall_mem_cons.mpr ⟨(tb2 88 rfl), List.forall_mem_cons.mpr ⟨(tb2 46 rfl), List.forall_mem_cons.mpr ⟨(tb2 103 rfl), List.forall_mem_cons.mpr ⟨(tb2 90 rfl), List.forall_mem_cons.mpr ⟨(tb2 68 rfl), List.forall_mem_cons.mpr ⟨(tb2 105 rfl), List.forall_mem_cons.mpr ⟨(tb2 71 rfl), List.forall_mem_cons.mpr ⟨(tb2 107 rfl), List.forall_mem_cons.mpr ⟨(tb4 157 rfl), List.forall_mem_cons.mpr ⟨(tb4 158 rfl), List.forall_mem_cons.mpr ⟨(tb4 159 rfl), List.forall_mem_cons.mpr ⟨(tb4 166 rfl), List.forall_mem_cons.mpr ⟨(tb4 171 rfl), List.forall_mem_cons.mpr ⟨(tb4 172 rfl), List.forall_mem_cons.mpr ⟨(tb4 173 rfl), List.forall_mem_cons.mpr ⟨(tb4 165 rfl), List.forall_mem_cons.mpr ⟨(tb1 185 rfl), List.forall_mem_cons.mpr ⟨(tb2 1 rfl), List.forall_mem_cons.mpr ⟨(tb3 227 rfl), List.forall_mem_cons.mpr ⟨(tb3 233 rfl), List.forall_mem_cons.mpr ⟨(tb3 234 rfl), List.forall_mem_cons.mpr ⟨(tb3 235 rfl), List.forall_mem_cons.mpr ⟨(tb4 1 rfl), List.forall_mem_cons.mpr ⟨(tb4 2 rfl), (fun _ h => nomatch h)⟩⟩⟩⟩⟩⟩⟩⟩⟩⟩⟩⟩⟩⟩⟩⟩⟩⟩⟩⟩⟩⟩⟩⟩⟩⟩⟩⟩⟩⟩⟩⟩⟩⟩⟩⟩⟩⟩⟩⟩⟩⟩⟩⟩⟩⟩⟩⟩⟩⟩⟩⟩⟩⟩⟩⟩⟩⟩⟩⟩
set_option maxRecDepth 100000 in
theorem lC12 : ∀ w ∈ bwC12, w ∈ lw_tbl := by
  unfold bwC12
  exact List.forall_mem_cons.mpr ⟨(tb4 3 rfl), List.forall_mem_cons.mpr ⟨(tb3 158 rfl), List.forall_mem_cons.mpr ⟨(tb3 137 rfl), List.forall_mem_cons.mpr ⟨(tb3 138 rfl), List.forall_mem_cons.mpr ⟨(tb3 139 rfl), List.forall_mem_cons.mpr ⟨(tb3 140 rfl), List.forall_mem_cons.mpr ⟨(tb4 103 rfl), List.forall_mem_cons.mpr ⟨(tb4 104 rfl), List.forall_mem_cons.mpr ⟨(tb4 105 rfl), List.forall_mem_cons.mpr ⟨(tb4 102 rfl), List.forall_mem_cons.mpr ⟨(tb6 11 rfl), List.forall_mem_cons.mpr ⟨(tb6 13 rfl), List.forall_mem_cons.mpr ⟨(tb6 14 rfl), List.forall_mem_cons.mpr ⟨(tb6 15 rfl), List.forall_mem_cons.mpr ⟨(tb6 16 rfl), List.forall_mem_cons.mpr ⟨(tb6 10 rfl), List.forall_mem_cons.mpr ⟨(tb4 179 rfl), List.forall_mem_cons.mpr ⟨(tb6 30 rfl), List.forall_mem_cons.mpr ⟨(tb6 28 rfl), List.forall_mem_cons.mpr ⟨(tb3 154 rfl), List.forall_mem_cons.mpr ⟨(tb4 55 rfl), List.forall_mem_cons.mpr ⟨(tb4 56 rfl), List.forall_mem_cons.mpr ⟨(tb4 57 rfl), List.forall_mem_cons.mpr ⟨(tb4 67 rfl), List.forall_mem_cons.mpr ⟨(tb4 68 rfl), List.forall_mem_cons.mpr ⟨(tb4 69 rfl), List.forall_mem_cons.mpr ⟨(tb4 77 rfl), List.forall_mem_cons.mpr ⟨(tb4 78 rfl), List.forall_mem_cons.mpr ⟨(tb4 79 rfl), List.forall_mem_cons.mpr ⟨(tb4 89 rfl), List.forall_mem_cons.mpr ⟨(tb4 90 rfl), List.forall_mem_cons.mpr ⟨(tb4 91 rfl), List.forall_mem_cons.mpr ⟨(tb4 95 rfl), List.forall_mem_cons.mpr ⟨(tb4 96 rfl), List.forall_mem_cons.mpr ⟨(tb4 97 rfl), List.forall_mem_cons.mpr ⟨(tb4 99 rfl), List.forall_mem_cons.mpr ⟨(tb4 100 rfl), List.forall_mem_cons.mpr ⟨(tb4 101 rfl), List.forall_mem_cons.mpr ⟨(tb4 54 rfl), List.forall_mem_cons.mpr ⟨(tb4 118 rfl), List.forall_mem_cons.mpr ⟨(tb4 119 rfl), List.forall_mem_cons.mpr ⟨(tb4 120 rfl), List.forall_mem_cons.mpr ⟨(tb4 135 rfl), List.forall_mem_cons.mpr ⟨(tb4 136 rfl), List.forall_mem_cons.mpr ⟨(tb4 137 rfl), List.forall_mem_cons.mpr ⟨(tb4 117 rfl), List.forall_mem_cons.mpr ⟨(tb4 153 rfl), List.forall_mem_cons.mpr ⟨(tb4 154 rfl), List.forall_mem_cons.mpr ⟨(tb4 155 rfl), List.forall_mem_cons.mpr ⟨(tb4 161 rfl), List.forall_mem_cons.mpr ⟨(tb4 162 rfl), List.forall_mem_cons.mpr ⟨(tb4 163 rfl), List.forall_mem_cons.mpr ⟨(tb4 164 rfl), List.forall_mem_cons.mpr ⟨(tb4 152 rfl), List.forall_mem_cons.mpr ⟨(tb3 153 rfl), List.forall_mem_cons.mpr ⟨(tb3 155 rfl), List.forall_mem_cons.mpr ⟨(tb3 156 rfl), List.forall_mem_cons.mpr ⟨(tb3 157 rfl), List.forall_mem_cons.mpr ⟨(tb4 9 rfl), List.forall_mem_cons.mpr ⟨(tb4 10 rfl), (fun _ h => nomatch h)⟩⟩⟩⟩⟩⟩⟩⟩⟩⟩⟩⟩⟩⟩⟩⟩⟩⟩⟩⟩⟩⟩⟩⟩⟩⟩⟩⟩⟩⟩⟩⟩⟩⟩⟩⟩⟩⟩⟩⟩⟩⟩⟩⟩⟩⟩⟩⟩⟩⟩⟩⟩⟩⟩⟩⟩⟩⟩⟩⟩
set_option maxRecDepth 100000 in
theorem lC13 : ∀ w ∈ bwC13, w ∈ lw_tbl := by
  unfold bwC13
  exact List.forall_mem_cons.mpr ⟨(tb4 11 rfl), List.forall_mem_cons.mpr ⟨(tb4 51 rfl), List.forall_mem_cons.mpr ⟨(tb4 53 rfl), List.forall_mem_cons.mpr ⟨(tb0 19 (by decide +kernel)), List.forall_mem_cons.mpr ⟨(tb4 114 rfl), List.forall_mem_cons.mpr ⟨(tb4 116 rfl), List.forall_mem_cons.mpr ⟨(tb0 20 (by decide +kernel)), List.forall_mem_cons.mpr ⟨(tb4 149 rfl), List.forall_mem_cons.mpr ⟨(tb4 151 rfl), List.forall_mem_cons.mpr ⟨(tb0 21 (by decide +kernel)), List.forall_mem_cons.mpr ⟨(tb4 176 rfl), List.forall_mem_cons.mpr ⟨(tb4 177 rfl), List.forall_mem_cons.mpr ⟨(tb4 178 rfl), List.forall_mem_cons.mpr ⟨(tb3 152 rfl), (fun _ h => nomatch h)⟩⟩⟩⟩⟩⟩⟩⟩⟩⟩⟩⟩⟩⟩
set_option maxRecDepth 100000 in
theorem lA0 : ∀ w ∈ aw0, w ∈ lw_tbl := by
  unfold aw0
  exact List.forall_mem_cons.mpr ⟨(tb8 232 rfl), List.forall_mem_cons.mpr ⟨(tb8 233 rfl), List.forall_mem_cons.mpr ⟨(tb8 234 rfl), List.forall_mem_cons.mpr ⟨(tb6 121 rfl), List.forall_mem_cons.mpr ⟨(tb6 61 rfl), List.forall_mem_cons.mpr ⟨(tb6 54 rfl), List.forall_mem_cons.mpr ⟨(tb6 55 rfl), List.forall_mem_cons.mpr ⟨(tb6 51 rfl), List.forall_mem_cons.mpr ⟨(tb6 62 rfl), List.forall_mem_cons.mpr ⟨(tb6 52 rfl), List.forall_mem_cons.mpr ⟨(tb6 53 rfl), List.forall_mem_cons.mpr ⟨(tb1 16 rfl), List.forall_mem_cons.mpr ⟨(tb6 48 rfl), List.forall_mem_cons.mpr ⟨(tb6 56 rfl), List.forall_mem_cons.mpr ⟨(tb6 58 rfl), List.forall_mem_cons.mpr ⟨(tb6 49 rfl), List.forall_mem_cons.mpr ⟨(tb6 50 rfl), List.forall_mem_cons.mpr ⟨(tb1 17 rfl), List.forall_mem_cons.mpr ⟨(tb6 231 rfl), List.forall_mem_cons.mpr ⟨(tb6 228 rfl), List.forall_mem_cons.mpr ⟨(tb6 229 rfl), List.forall_mem_cons.mpr ⟨(tb6 230 rfl), List.forall_mem_cons.mpr ⟨(tb1 29 rfl), List.forall_mem_cons.mpr ⟨(tb6 235 rfl), List.forall_mem_cons.mpr ⟨(tb6 225 rfl), List.forall_mem_cons.mpr ⟨(tb6 226 rfl), List.forall_mem_cons.mpr ⟨(tb6 227 rfl), List.forall_mem_cons.mpr ⟨(tb1 28 rfl), List.forall_mem_cons.mpr ⟨(tb6 232 rfl), List.forall_mem_cons.mpr ⟨(tb6 233 rfl), List.forall_mem_cons.mpr ⟨(tb6 234 rfl), List.forall_mem_cons.mpr ⟨(tb1 18 rfl), List.forall_mem_cons.mpr ⟨(tb7 120 rfl), List.forall_mem_cons.mpr ⟨(tb7 0 rfl), List.forall_mem_cons.mpr ⟨(tb6 138 rfl), List.forall_mem_cons.mpr ⟨(tb6 136 rfl), List.forall_mem_cons.mpr ⟨(tb6 137 rfl), List.forall_mem_cons.mpr ⟨(tb6 133 rfl), List.forall_mem_cons.mpr ⟨(tb6 134 rfl), List.forall_mem_cons.mpr ⟨(tb6 135 rfl), List.forall_mem_cons.mpr ⟨(tb1 12 rfl), List.forall_mem_cons.mpr ⟨(tb6 124 rfl), List.forall_mem_cons.mpr ⟨(tb6 125 rfl), List.forall_mem_cons.mpr ⟨(tb6 127 rfl), List.forall_mem_cons.mpr ⟨(tb6 129 rfl), List.forall_mem_cons.mpr ⟨(tb6 130 rfl), List.forall_mem_cons.mpr ⟨(tb6 131 rfl), List.forall_mem_cons.mpr ⟨(tb6 132 rfl), List.forall_mem_cons.mpr ⟨(tb6 165 rfl), List.forall_mem_cons.mpr ⟨(tb6 162 rfl), List.forall_mem_cons.mpr ⟨(tb6 160 rfl), List.forall_mem_cons.mpr ⟨(tb6 161 rfl), List.forall_mem_cons.mpr ⟨(tb6 163 rfl), List.forall_mem_cons.mpr ⟨(tb6 164 rfl), List.forall_mem_cons.mpr ⟨(tb1 25 rfl), List.forall_mem_cons.mpr ⟨(tb6 200 rfl), List.forall_mem_cons.mpr ⟨(tb6 201 rfl), List.forall_mem_cons.mpr ⟨(tb6 203 rfl), List.forall_mem_cons.mpr ⟨(tb6 204 rfl), List.forall_mem_cons.mpr ⟨(tb6 205 rfl), (fun _ h => nomatch h)⟩⟩⟩⟩⟩⟩⟩⟩⟩⟩⟩⟩⟩⟩⟩⟩⟩⟩⟩⟩⟩⟩⟩⟩⟩⟩⟩⟩⟩⟩⟩⟩⟩⟩⟩⟩⟩⟩⟩⟩⟩⟩⟩⟩⟩⟩⟩⟩⟩⟩⟩⟩⟩⟩⟩⟩⟩⟩⟩⟩
set_option maxRecDepth 100000 in
theorem lA1 : ∀ w ∈ aw1, w ∈ lw_tbl := by
  unfold aw1
  exact List.forall_mem_cons.mpr ⟨(tb6 168 rfl), List.forall_mem_cons.mpr ⟨(tb6 169 rfl), List.forall_mem_cons.mpr ⟨(tb10 227 rfl), List.forall_mem_cons.mpr ⟨(tb6 170 rfl), List.forall_mem_cons.mpr ⟨(tb6 197 rfl), List.forall_mem_cons.mpr ⟨(tb6 198 rfl), List.forall_mem_cons.mpr ⟨(tb6 199 rfl), List.forall_mem_cons.mpr ⟨(tb6 206 rfl), List.forall_mem_cons.mpr ⟨(tb6 207 rfl), List.forall_mem_cons.mpr ⟨(tb6 158 rfl), List.forall_mem_cons.mpr ⟨(tb6 159 rfl), List.forall_mem_cons.mpr ⟨(tb6 166 rfl), List.forall_mem_cons.mpr ⟨(tb6 167 rfl), List.forall_mem_cons.mpr ⟨(tb6 157 rfl), List.forall_mem_cons.mpr ⟨(tb6 154 rfl), List.forall_mem_cons.mpr ⟨(tb6 156 rfl), List.forall_mem_cons.mpr ⟨(tb0 50 (by decide +kernel)), List.forall_mem_cons.mpr ⟨(tb6 153 rfl), List.forall_mem_cons.mpr ⟨(tb6 150 rfl), List.forall_mem_cons.mpr ⟨(tb6 152 rfl), List.forall_mem_cons.mpr ⟨(tb0 49 (by decide +kernel)), List.forall_mem_cons.mpr ⟨(tb6 149 rfl), List.forall_mem_cons.mpr ⟨(tb6 65 rfl), List.forall_mem_cons.mpr ⟨(tb6 64 rfl), List.forall_mem_cons.mpr ⟨(tb6 146 rfl), List.forall_mem_cons.mpr ⟨(tb6 148 rfl), List.forall_mem_cons.mpr ⟨(tb0 48 (by decide +kernel)), List.forall_mem_cons.mpr ⟨(tb6 145 rfl), List.forall_mem_cons.mpr ⟨(tb7 128 rfl), List.forall_mem_cons.mpr ⟨(tb7 129 rfl), List.forall_mem_cons.mpr ⟨(tb7 124 rfl), List.forall_mem_cons.mpr ⟨(tb7 125 rfl), List.forall_mem_cons.mpr ⟨(tb7 127 rfl), List.forall_mem_cons.mpr ⟨(tb0 52 (by decide +kernel)), List.forall_mem_cons.mpr ⟨(tb7 230 rfl), List.forall_mem_cons.mpr ⟨(tb6 77 rfl), List.forall_mem_cons.mpr ⟨(tb7 157 rfl), List.forall_mem_cons.mpr ⟨(tb7 23 rfl), List.forall_mem_cons.mpr ⟨(tb7 233 rfl), List.forall_mem_cons.mpr ⟨(tb7 156 rfl), List.forall_mem_cons.mpr ⟨(tb6 223 rfl), List.forall_mem_cons.mpr ⟨(tb6 224 rfl), List.forall_mem_cons.mpr ⟨(tb7 167 rfl), List.forall_mem_cons.mpr ⟨(tb7 154 rfl), List.forall_mem_cons.mpr ⟨(tb6 45 rfl), List.forall_mem_cons.mpr ⟨(tb7 231 rfl), List.forall_mem_cons.mpr ⟨(tb7 159 rfl), List.forall_mem_cons.mpr ⟨(tb7 232 rfl), List.forall_mem_cons.mpr ⟨(tb7 155 rfl), List.forall_mem_cons.mpr ⟨(tb6 47 rfl), List.forall_mem_cons.mpr ⟨(tb7 158 rfl), List.forall_mem_cons.mpr ⟨(tb7 118 rfl), List.forall_mem_cons.mpr ⟨(tb7 119 rfl), List.forall_mem_cons.mpr ⟨(tb7 144 rfl), List.forall_mem_cons.mpr ⟨(tb6 119 rfl), List.forall_mem_cons.mpr ⟨(tb6 120 rfl), List.forall_mem_cons.mpr ⟨(tb7 160 rfl), List.forall_mem_cons.mpr ⟨(tb6 238 rfl), List.forall_mem_cons.mpr ⟨(tb6 239 rfl), List.forall_mem_cons.mpr ⟨(tb7 161 rfl), (fun _ h => nomatch h)⟩⟩⟩⟩⟩⟩⟩⟩⟩⟩⟩⟩⟩⟩⟩⟩⟩⟩⟩⟩⟩⟩⟩⟩⟩⟩⟩⟩⟩⟩⟩⟩⟩⟩⟩⟩⟩⟩⟩⟩⟩⟩⟩⟩⟩⟩⟩⟩⟩⟩⟩⟩⟩⟩⟩⟩⟩⟩⟩⟩
set_option maxRecDepth 100000 in
theorem lA2 : ∀ w ∈ aw2, w ∈ lw_tbl := by
  unfold aw2
  exact List.forall_mem_cons.mpr ⟨(tb6 123 rfl), List.forall_mem_cons.mpr ⟨(tb7 162 rfl), List.forall_mem_cons.mpr ⟨(tb6 143 rfl), List.forall_mem_cons.mpr ⟨(tb6 144 rfl), List.forall_mem_cons.mpr ⟨(tb7 163 rfl), List.forall_mem_cons.mpr ⟨(tb7 122 rfl), List.forall_mem_cons.mpr ⟨(tb7 123 rfl), List.forall_mem_cons.mpr ⟨(tb7 164 rfl), List.forall_mem_cons.mpr ⟨(tb7 166 rfl), List.forall_mem_cons.mpr ⟨(tb0 55 (by decide +kernel)), List.forall_mem_cons.mpr ⟨(tb1 33 rfl), List.forall_mem_cons.mpr ⟨(tb7 153 rfl), List.forall_mem_cons.mpr ⟨(tb6 109 rfl), List.forall_mem_cons.mpr ⟨(tb6 73 rfl), List.forall_mem_cons.mpr ⟨(tb6 236 rfl), List.forall_mem_cons.mpr ⟨(tb6 220 rfl), List.forall_mem_cons.mpr ⟨(tb6 108 rfl), List.forall_mem_cons.mpr ⟨(tb1 14 rfl), List.forall_mem_cons.mpr ⟨(tb6 222 rfl), List.forall_mem_cons.mpr ⟨(tb6 237 rfl), List.forall_mem_cons.mpr ⟨(tb6 219 rfl), List.forall_mem_cons.mpr ⟨(tb6 216 rfl), List.forall_mem_cons.mpr ⟨(tb6 217 rfl), List.forall_mem_cons.mpr ⟨(tb6 218 rfl), List.forall_mem_cons.mpr ⟨(tb1 15 rfl), List.forall_mem_cons.mpr ⟨(tb7 190 rfl), List.forall_mem_cons.mpr ⟨(tb7 187 rfl), List.forall_mem_cons.mpr ⟨(tb7 188 rfl), List.forall_mem_cons.mpr ⟨(tb7 189 rfl), List.forall_mem_cons.mpr ⟨(tb7 186 rfl), List.forall_mem_cons.mpr ⟨(tb7 194 rfl), List.forall_mem_cons.mpr ⟨(tb7 22 rfl), List.forall_mem_cons.mpr ⟨(tb7 47 rfl), List.forall_mem_cons.mpr ⟨(tb6 78 rfl), List.forall_mem_cons.mpr ⟨(tb7 98 rfl), List.forall_mem_cons.mpr ⟨(tb7 99 rfl), List.forall_mem_cons.mpr ⟨(tb7 45 rfl), List.forall_mem_cons.mpr ⟨(tb7 46 rfl), List.forall_mem_cons.mpr ⟨(tb1 30 rfl), List.forall_mem_cons.mpr ⟨(tb7 199 rfl), List.forall_mem_cons.mpr ⟨(tb7 203 rfl), List.forall_mem_cons.mpr ⟨(tb7 236 rfl), List.forall_mem_cons.mpr ⟨(tb7 238 rfl), List.forall_mem_cons.mpr ⟨(tb7 239 rfl), List.forall_mem_cons.mpr ⟨(tb8 0 rfl), List.forall_mem_cons.mpr ⟨(tb7 172 rfl), List.forall_mem_cons.mpr ⟨(tb7 173 rfl), List.forall_mem_cons.mpr ⟨(tb7 174 rfl), List.forall_mem_cons.mpr ⟨(tb7 175 rfl), List.forall_mem_cons.mpr ⟨(tb7 176 rfl), List.forall_mem_cons.mpr ⟨(tb7 178 rfl), List.forall_mem_cons.mpr ⟨(tb7 179 rfl), List.forall_mem_cons.mpr ⟨(tb7 180 rfl), List.forall_mem_cons.mpr ⟨(tb7 181 rfl), List.forall_mem_cons.mpr ⟨(tb7 145 rfl), List.forall_mem_cons.mpr ⟨(tb7 33 rfl), List.forall_mem_cons.mpr ⟨(tb7 28 rfl), List.forall_mem_cons.mpr ⟨(tb7 183 rfl), List.forall_mem_cons.mpr ⟨(tb7 185 rfl), List.forall_mem_cons.mpr ⟨(tb0 57 (by decide +kernel)), (fun _ h => nomatch h)⟩⟩⟩⟩⟩⟩⟩⟩⟩⟩⟩⟩⟩⟩⟩⟩⟩⟩⟩⟩⟩⟩⟩⟩⟩⟩⟩⟩⟩⟩⟩⟩⟩⟩⟩⟩⟩⟩⟩⟩⟩⟩⟩⟩⟩⟩⟩⟩⟩⟩⟩⟩⟩⟩⟩⟩⟩⟩⟩⟩
set_option maxRecDepth 100000 in
theorem lA3 : ∀ w ∈ aw3, w ∈ lw_tbl := by
  unfold aw3
  exact List.forall_mem_cons.mpr ⟨(tb7 191 rfl), List.forall_mem_cons.mpr ⟨(tb7 192 rfl), List.forall_mem_cons.mpr ⟨(tb7 193 rfl), List.forall_mem_cons.mpr ⟨(tb7 195 rfl), List.forall_mem_cons.mpr ⟨(tb7 196 rfl), List.forall_mem_cons.mpr ⟨(tb7 197 rfl), List.forall_mem_cons.mpr ⟨(tb7 198 rfl), List.forall_mem_cons.mpr ⟨(tb7 200 rfl), List.forall_mem_cons.mpr ⟨(tb7 202 rfl), List.forall_mem_cons.mpr ⟨(tb0 58 (by decide +kernel)), List.forall_mem_cons.mpr ⟨(tb7 171 rfl), List.forall_mem_cons.mpr ⟨(tb7 4 rfl), List.forall_mem_cons.mpr ⟨(tb7 220 rfl), List.forall_mem_cons.mpr ⟨(tb7 26 rfl), List.forall_mem_cons.mpr ⟨(tb7 36 rfl), List.forall_mem_cons.mpr ⟨(tb7 31 rfl), List.forall_mem_cons.mpr ⟨(tb7 216 rfl), List.forall_mem_cons.mpr ⟨(tb7 217 rfl), List.forall_mem_cons.mpr ⟨(tb7 218 rfl), List.forall_mem_cons.mpr ⟨(tb7 219 rfl), List.forall_mem_cons.mpr ⟨(tb7 224 rfl), List.forall_mem_cons.mpr ⟨(tb7 225 rfl), List.forall_mem_cons.mpr ⟨(tb7 229 rfl), List.forall_mem_cons.mpr ⟨(tb8 2 rfl), List.forall_mem_cons.mpr ⟨(tb7 212 rfl), List.forall_mem_cons.mpr ⟨(tb7 2 rfl), List.forall_mem_cons.mpr ⟨(tb7 3 rfl), List.forall_mem_cons.mpr ⟨(tb7 213 rfl), List.forall_mem_cons.mpr ⟨(tb7 214 rfl), List.forall_mem_cons.mpr ⟨(tb7 215 rfl), List.forall_mem_cons.mpr ⟨(tb7 221 rfl), List.forall_mem_cons.mpr ⟨(tb7 222 rfl), List.forall_mem_cons.mpr ⟨(tb7 223 rfl), List.forall_mem_cons.mpr ⟨(tb7 226 rfl), List.forall_mem_cons.mpr ⟨(tb7 228 rfl), List.forall_mem_cons.mpr ⟨(tb0 61 (by decide +kernel)), List.forall_mem_cons.mpr ⟨(tb7 211 rfl), List.forall_mem_cons.mpr ⟨(tb6 74 rfl), List.forall_mem_cons.mpr ⟨(tb7 208 rfl), List.forall_mem_cons.mpr ⟨(tb7 210 rfl), List.forall_mem_cons.mpr ⟨(tb0 60 (by decide +kernel)), List.forall_mem_cons.mpr ⟨(tb7 207 rfl), List.forall_mem_cons.mpr ⟨(tb7 143 rfl), List.forall_mem_cons.mpr ⟨(tb7 147 rfl), List.forall_mem_cons.mpr ⟨(tb7 149 rfl), List.forall_mem_cons.mpr ⟨(tb7 150 rfl), List.forall_mem_cons.mpr ⟨(tb7 152 rfl), List.forall_mem_cons.mpr ⟨(tb0 54 (by decide +kernel)), List.forall_mem_cons.mpr ⟨(tb7 168 rfl), List.forall_mem_cons.mpr ⟨(tb7 170 rfl), List.forall_mem_cons.mpr ⟨(tb0 56 (by decide +kernel)), List.forall_mem_cons.mpr ⟨(tb7 204 rfl), List.forall_mem_cons.mpr ⟨(tb7 206 rfl), List.forall_mem_cons.mpr ⟨(tb0 59 (by decide +kernel)), List.forall_mem_cons.mpr ⟨(tb7 142 rfl), List.forall_mem_cons.mpr ⟨(tb8 30 rfl), List.forall_mem_cons.mpr ⟨(tb8 107 rfl), List.forall_mem_cons.mpr ⟨(tb7 1 rfl), List.forall_mem_cons.mpr ⟨(tb8 106 rfl), List.forall_mem_cons.mpr ⟨(tb7 60 rfl), (fun _ h => nomatch h)⟩⟩⟩⟩⟩⟩⟩⟩⟩⟩⟩⟩⟩⟩⟩⟩⟩⟩⟩⟩⟩⟩⟩⟩⟩⟩⟩⟩⟩⟩⟩⟩⟩⟩⟩⟩⟩⟩⟩⟩⟩⟩⟩⟩⟩⟩⟩⟩⟩⟩⟩⟩⟩⟩⟩⟩⟩⟩⟩⟩
set_option maxRecDepth 100000 in
theorem lA4 : ∀ w ∈ aw4, w ∈ lw_tbl := by
  unfold aw4
  exact List.forall_mem_cons.mpr ⟨(tb7 65 rfl), List.forall_mem_cons.mpr ⟨(tb7 61 rfl), List.forall_mem_cons.mpr ⟨(tb7 63 rfl), List.forall_mem_cons.mpr ⟨(tb6 63 rfl), List.forall_mem_cons.mpr ⟨(tb7 64 rfl), List.forall_mem_cons.mpr ⟨(tb7 55 rfl), List.forall_mem_cons.mpr ⟨(tb7 56 rfl), List.forall_mem_cons.mpr ⟨(tb7 57 rfl), List.forall_mem_cons.mpr ⟨(tb1 31 rfl), List.forall_mem_cons.mpr ⟨(tb7 58 rfl), List.forall_mem_cons.mpr ⟨(tb7 59 rfl), List.forall_mem_cons.mpr ⟨(tb7 84 rfl), List.forall_mem_cons.mpr ⟨(tb7 62 rfl), List.forall_mem_cons.mpr ⟨(tb7 97 rfl), List.forall_mem_cons.mpr ⟨(tb7 93 rfl), List.forall_mem_cons.mpr ⟨(tb6 59 rfl), List.forall_mem_cons.mpr ⟨(tb7 94 rfl), List.forall_mem_cons.mpr ⟨(tb7 95 rfl), List.forall_mem_cons.mpr ⟨(tb7 96 rfl), List.forall_mem_cons.mpr ⟨(tb7 52 rfl), List.forall_mem_cons.mpr ⟨(tb7 53 rfl), List.forall_mem_cons.mpr ⟨(tb7 54 rfl), List.forall_mem_cons.mpr ⟨(tb7 76 rfl), List.forall_mem_cons.mpr ⟨(tb7 80 rfl), List.forall_mem_cons.mpr ⟨(tb7 82 rfl), List.forall_mem_cons.mpr ⟨(tb7 86 rfl), List.forall_mem_cons.mpr ⟨(tb7 89 rfl), List.forall_mem_cons.mpr ⟨(tb7 91 rfl), List.forall_mem_cons.mpr ⟨(tb7 51 rfl), List.forall_mem_cons.mpr ⟨(tb8 69 rfl), List.forall_mem_cons.mpr ⟨(tb8 72 rfl), List.forall_mem_cons.mpr ⟨(tb8 75 rfl), List.forall_mem_cons.mpr ⟨(tb8 65 rfl), List.forall_mem_cons.mpr ⟨(tb7 49 rfl), List.forall_mem_cons.mpr ⟨(tb7 50 rfl), List.forall_mem_cons.mpr ⟨(tb8 66 rfl), List.forall_mem_cons.mpr ⟨(tb8 67 rfl), List.forall_mem_cons.mpr ⟨(tb8 68 rfl), List.forall_mem_cons.mpr ⟨(tb8 70 rfl), List.forall_mem_cons.mpr ⟨(tb8 71 rfl), List.forall_mem_cons.mpr ⟨(tb8 74 rfl), List.forall_mem_cons.mpr ⟨(tb8 111 rfl), List.forall_mem_cons.mpr ⟨(tb8 102 rfl), List.forall_mem_cons.mpr ⟨(tb8 103 rfl), List.forall_mem_cons.mpr ⟨(tb8 104 rfl), List.forall_mem_cons.mpr ⟨(tb8 105 rfl), List.forall_mem_cons.mpr ⟨(tb8 108 rfl), List.forall_mem_cons.mpr ⟨(tb8 110 rfl), List.forall_mem_cons.mpr ⟨(tb0 67 (by decide +kernel)), List.forall_mem_cons.mpr ⟨(tb8 101 rfl), List.forall_mem_cons.mpr ⟨(tb8 97 rfl), List.forall_mem_cons.mpr ⟨(tb8 28 rfl), List.forall_mem_cons.mpr ⟨(tb8 29 rfl), List.forall_mem_cons.mpr ⟨(tb8 98 rfl), List.forall_mem_cons.mpr ⟨(tb8 100 rfl), List.forall_mem_cons.mpr ⟨(tb0 66 (by decide +kernel)), List.forall_mem_cons.mpr ⟨(tb8 96 rfl), List.forall_mem_cons.mpr ⟨(tb8 64 rfl), List.forall_mem_cons.mpr ⟨(tb8 88 rfl), List.forall_mem_cons.mpr ⟨(tb8 43 rfl), (fun _ h => nomatch h)⟩⟩⟩⟩⟩⟩⟩⟩⟩⟩⟩⟩⟩⟩⟩⟩⟩⟩⟩⟩⟩⟩⟩⟩⟩⟩⟩⟩⟩⟩⟩⟩⟩⟩⟩⟩⟩⟩⟩⟩⟩⟩⟩⟩⟩⟩⟩⟩⟩⟩⟩⟩⟩⟩⟩⟩⟩⟩⟩⟩
set_option maxRecDepth 100000 in
theorem lA5 : ∀ w ∈ aw5, w ∈ lw_tbl := by
  unfold aw5
  exact List.forall_mem_cons.mpr ⟨(tb8 139 rfl), List.forall_mem_cons.mpr ⟨(tb8 136 rfl), List.forall_mem_cons.mpr ⟨(tb8 138 rfl), List.forall_mem_cons.mpr ⟨(tb0 70 (by decide +kernel)), List.forall_mem_cons.mpr ⟨(tb8 135 rfl), List.forall_mem_cons.mpr ⟨(tb7 20 rfl), List.forall_mem_cons.mpr ⟨(tb7 21 rfl), List.forall_mem_cons.mpr ⟨(tb7 27 rfl), List.forall_mem_cons.mpr ⟨(tb7 32 rfl), List.forall_mem_cons.mpr ⟨(tb8 202 rfl), List.forall_mem_cons.mpr ⟨(tb8 203 rfl), List.forall_mem_cons.mpr ⟨(tb8 206 rfl), List.forall_mem_cons.mpr ⟨(tb8 204 rfl), List.forall_mem_cons.mpr ⟨(tb6 42 rfl), List.forall_mem_cons.mpr ⟨(tb6 43 rfl), List.forall_mem_cons.mpr ⟨(tb6 44 rfl), List.forall_mem_cons.mpr ⟨(tb6 46 rfl), List.forall_mem_cons.mpr ⟨(tb8 172 rfl), List.forall_mem_cons.mpr ⟨(tb8 164 rfl), List.forall_mem_cons.mpr ⟨(tb8 168 rfl), List.forall_mem_cons.mpr ⟨(tb8 170 rfl), List.forall_mem_cons.mpr ⟨(tb8 162 rfl), List.forall_mem_cons.mpr ⟨(tb8 157 rfl), List.forall_mem_cons.mpr ⟨(tb6 39 rfl), List.forall_mem_cons.mpr ⟨(tb8 158 rfl), List.forall_mem_cons.mpr ⟨(tb6 41 rfl), List.forall_mem_cons.mpr ⟨(tb8 159 rfl), List.forall_mem_cons.mpr ⟨(tb8 160 rfl), List.forall_mem_cons.mpr ⟨(tb8 161 rfl), List.forall_mem_cons.mpr ⟨(tb8 156 rfl), List.forall_mem_cons.mpr ⟨(tb7 15 rfl), List.forall_mem_cons.mpr ⟨(tb7 11 rfl), List.forall_mem_cons.mpr ⟨(tb7 7 rfl), List.forall_mem_cons.mpr ⟨(tb7 5 rfl), List.forall_mem_cons.mpr ⟨(tb7 6 rfl), List.forall_mem_cons.mpr ⟨(tb7 8 rfl), List.forall_mem_cons.mpr ⟨(tb7 9 rfl), List.forall_mem_cons.mpr ⟨(tb7 10 rfl), List.forall_mem_cons.mpr ⟨(tb7 12 rfl), List.forall_mem_cons.mpr ⟨(tb7 13 rfl), List.forall_mem_cons.mpr ⟨(tb7 14 rfl), List.forall_mem_cons.mpr ⟨(tb6 215 rfl), List.forall_mem_cons.mpr ⟨(tb9 57 rfl), List.forall_mem_cons.mpr ⟨(tb9 67 rfl), List.forall_mem_cons.mpr ⟨(tb8 227 rfl), List.forall_mem_cons.mpr ⟨(tb8 226 rfl), List.forall_mem_cons.mpr ⟨(tb9 65 rfl), List.forall_mem_cons.mpr ⟨(tb8 207 rfl), List.forall_mem_cons.mpr ⟨(tb9 63 rfl), List.forall_mem_cons.mpr ⟨(tb8 205 rfl), List.forall_mem_cons.mpr ⟨(tb8 208 rfl), List.forall_mem_cons.mpr ⟨(tb8 223 rfl), List.forall_mem_cons.mpr ⟨(tb8 225 rfl), List.forall_mem_cons.mpr ⟨(tb0 75 (by decide +kernel)), List.forall_mem_cons.mpr ⟨(tb1 34 rfl), List.forall_mem_cons.mpr ⟨(tb8 222 rfl), List.forall_mem_cons.mpr ⟨(tb9 6 rfl), List.forall_mem_cons.mpr ⟨(tb9 64 rfl), List.forall_mem_cons.mpr ⟨(tb9 62 rfl), List.forall_mem_cons.mpr ⟨(tb8 235 rfl), (fun _ h => nomatch h)⟩⟩⟩⟩⟩⟩⟩⟩⟩⟩⟩⟩⟩⟩⟩⟩⟩⟩⟩⟩⟩⟩⟩⟩⟩⟩⟩⟩⟩⟩⟩⟩⟩⟩⟩⟩⟩⟩⟩⟩⟩⟩⟩⟩⟩⟩⟩⟩⟩⟩⟩⟩⟩⟩⟩⟩⟩⟩⟩⟩
set_option maxRecDepth 100000 in
theorem lA6 : ∀ w ∈ aw6, w ∈ lw_tbl := by
  unfold aw6
  exact List.forall_mem_cons.mpr ⟨(tb9 3 rfl), List.forall_mem_cons.mpr ⟨(tb9 5 rfl), List.forall_mem_cons.mpr ⟨(tb0 77 (by decide +kernel)), List.forall_mem_cons.mpr ⟨(tb9 2 rfl), List.forall_mem_cons.mpr ⟨(tb9 49 rfl), List.forall_mem_cons.mpr ⟨(tb7 29 rfl), List.forall_mem_cons.mpr ⟨(tb9 52 rfl), List.forall_mem_cons.mpr ⟨(tb7 34 rfl), List.forall_mem_cons.mpr ⟨(tb9 54 rfl), List.forall_mem_cons.mpr ⟨(tb8 182 rfl), List.forall_mem_cons.mpr ⟨(tb8 199 rfl), List.forall_mem_cons.mpr ⟨(tb1 35 rfl), List.forall_mem_cons.mpr ⟨(tb9 61 rfl), List.forall_mem_cons.mpr ⟨(tb8 180 rfl), List.forall_mem_cons.mpr ⟨(tb9 53 rfl), List.forall_mem_cons.mpr ⟨(tb8 229 rfl), List.forall_mem_cons.mpr ⟨(tb1 36 rfl), List.forall_mem_cons.mpr ⟨(tb9 60 rfl), List.forall_mem_cons.mpr ⟨(tb8 198 rfl), List.forall_mem_cons.mpr ⟨(tb8 200 rfl), List.forall_mem_cons.mpr ⟨(tb8 201 rfl), List.forall_mem_cons.mpr ⟨(tb8 219 rfl), List.forall_mem_cons.mpr ⟨(tb8 221 rfl), List.forall_mem_cons.mpr ⟨(tb0 74 (by decide +kernel)), List.forall_mem_cons.mpr ⟨(tb8 228 rfl), List.forall_mem_cons.mpr ⟨(tb8 230 rfl), List.forall_mem_cons.mpr ⟨(tb8 231 rfl), List.forall_mem_cons.mpr ⟨(tb8 239 rfl), List.forall_mem_cons.mpr ⟨(tb9 1 rfl), List.forall_mem_cons.mpr ⟨(tb0 76 (by decide +kernel)), List.forall_mem_cons.mpr ⟨(tb8 197 rfl), List.forall_mem_cons.mpr ⟨(tb9 14 rfl), List.forall_mem_cons.mpr ⟨(tb9 18 rfl), List.forall_mem_cons.mpr ⟨(tb9 55 rfl), List.forall_mem_cons.mpr ⟨(tb9 11 rfl), List.forall_mem_cons.mpr ⟨(tb9 13 rfl), List.forall_mem_cons.mpr ⟨(tb0 79 (by decide +kernel)), List.forall_mem_cons.mpr ⟨(tb9 15 rfl), List.forall_mem_cons.mpr ⟨(tb9 17 rfl), List.forall_mem_cons.mpr ⟨(tb0 80 (by decide +kernel)), List.forall_mem_cons.mpr ⟨(tb9 10 rfl), List.forall_mem_cons.mpr ⟨(tb9 22 rfl), List.forall_mem_cons.mpr ⟨(tb9 31 rfl), List.forall_mem_cons.mpr ⟨(tb8 209 rfl), List.forall_mem_cons.mpr ⟨(tb9 27 rfl), List.forall_mem_cons.mpr ⟨(tb9 28 rfl), List.forall_mem_cons.mpr ⟨(tb9 30 rfl), List.forall_mem_cons.mpr ⟨(tb0 83 (by decide +kernel)), List.forall_mem_cons.mpr ⟨(tb9 26 rfl), List.forall_mem_cons.mpr ⟨(tb9 35 rfl), List.forall_mem_cons.mpr ⟨(tb9 39 rfl), List.forall_mem_cons.mpr ⟨(tb9 50 rfl), List.forall_mem_cons.mpr ⟨(tb7 234 rfl), List.forall_mem_cons.mpr ⟨(tb6 79 rfl), List.forall_mem_cons.mpr ⟨(tb8 189 rfl), List.forall_mem_cons.mpr ⟨(tb9 56 rfl), List.forall_mem_cons.mpr ⟨(tb8 188 rfl), List.forall_mem_cons.mpr ⟨(tb9 43 rfl), List.forall_mem_cons.mpr ⟨(tb9 47 rfl), List.forall_mem_cons.mpr ⟨(tb7 24 rfl), (fun _ h => nomatch h)⟩⟩⟩⟩⟩⟩⟩⟩⟩⟩⟩⟩⟩⟩⟩⟩⟩⟩⟩⟩⟩⟩⟩⟩⟩⟩⟩⟩⟩⟩⟩⟩⟩⟩⟩⟩⟩⟩⟩⟩⟩⟩⟩⟩⟩⟩⟩⟩⟩⟩⟩⟩⟩⟩⟩⟩⟩⟩⟩⟩
set_option maxRecDepth 100000 in
theorem lA7 : ∀ w ∈ aw7, w ∈ lw_tbl := by
  unfold aw7
  exact List.forall_mem_cons.mpr ⟨(tb9 51 rfl), List.forall_mem_cons.mpr ⟨(tb8 194 rfl), List.forall_mem_cons.mpr ⟨(tb8 196 rfl), List.forall_mem_cons.mpr ⟨(tb0 73 (by decide +kernel)), List.forall_mem_cons.mpr ⟨(tb9 7 rfl), List.forall_mem_cons.mpr ⟨(tb9 9 rfl), List.forall_mem_cons.mpr ⟨(tb0 78 (by decide +kernel)), List.forall_mem_cons.mpr ⟨(tb9 19 rfl), List.forall_mem_cons.mpr ⟨(tb9 21 rfl), List.forall_mem_cons.mpr ⟨(tb0 81 (by decide +kernel)), List.forall_mem_cons.mpr ⟨(tb9 23 rfl), List.forall_mem_cons.mpr ⟨(tb9 25 rfl), List.forall_mem_cons.mpr ⟨(tb0 82 (by decide +kernel)), List.forall_mem_cons.mpr ⟨(tb9 32 rfl), List.forall_mem_cons.mpr ⟨(tb9 34 rfl), List.forall_mem_cons.mpr ⟨(tb0 84 (by decide +kernel)), List.forall_mem_cons.mpr ⟨(tb9 36 rfl), List.forall_mem_cons.mpr ⟨(tb9 38 rfl), List.forall_mem_cons.mpr ⟨(tb0 85 (by decide +kernel)), List.forall_mem_cons.mpr ⟨(tb9 40 rfl), List.forall_mem_cons.mpr ⟨(tb9 42 rfl), List.forall_mem_cons.mpr ⟨(tb0 86 (by decide +kernel)), List.forall_mem_cons.mpr ⟨(tb9 44 rfl), List.forall_mem_cons.mpr ⟨(tb9 46 rfl), List.forall_mem_cons.mpr ⟨(tb0 87 (by decide +kernel)), List.forall_mem_cons.mpr ⟨(tb8 193 rfl), List.forall_mem_cons.mpr ⟨(tb9 59 rfl), List.forall_mem_cons.mpr ⟨(tb9 66 rfl), List.forall_mem_cons.mpr ⟨(tb6 75 rfl), List.forall_mem_cons.mpr ⟨(tb8 190 rfl), List.forall_mem_cons.mpr ⟨(tb8 192 rfl), List.forall_mem_cons.mpr ⟨(tb0 72 (by decide +kernel)), List.forall_mem_cons.mpr ⟨(tb8 179 rfl), List.forall_mem_cons.mpr ⟨(tb9 48 rfl), List.forall_mem_cons.mpr ⟨(tb8 187 rfl), List.forall_mem_cons.mpr ⟨(tb8 176 rfl), List.forall_mem_cons.mpr ⟨(tb8 177 rfl), List.forall_mem_cons.mpr ⟨(tb8 178 rfl), List.forall_mem_cons.mpr ⟨(tb8 184 rfl), List.forall_mem_cons.mpr ⟨(tb8 186 rfl), List.forall_mem_cons.mpr ⟨(tb0 71 (by decide +kernel)), List.forall_mem_cons.mpr ⟨(tb8 175 rfl), List.forall_mem_cons.mpr ⟨(tb9 108 rfl), List.forall_mem_cons.mpr ⟨(tb9 125 rfl), List.forall_mem_cons.mpr ⟨(tb9 121 rfl), List.forall_mem_cons.mpr ⟨(tb9 106 rfl), List.forall_mem_cons.mpr ⟨(tb9 107 rfl), List.forall_mem_cons.mpr ⟨(tb9 122 rfl), List.forall_mem_cons.mpr ⟨(tb9 123 rfl), List.forall_mem_cons.mpr ⟨(tb9 124 rfl), List.forall_mem_cons.mpr ⟨(tb9 120 rfl), List.forall_mem_cons.mpr ⟨(tb6 37 rfl), List.forall_mem_cons.mpr ⟨(tb6 38 rfl), List.forall_mem_cons.mpr ⟨(tb6 87 rfl), List.forall_mem_cons.mpr ⟨(tb6 36 rfl), List.forall_mem_cons.mpr ⟨(tb6 102 rfl), List.forall_mem_cons.mpr ⟨(tb6 86 rfl), List.forall_mem_cons.mpr ⟨(tb6 117 rfl), List.forall_mem_cons.mpr ⟨(tb6 113 rfl), List.forall_mem_cons.mpr ⟨(tb6 114 rfl), (fun _ h => nomatch h)⟩⟩⟩⟩⟩⟩⟩⟩⟩⟩⟩⟩⟩⟩⟩⟩⟩⟩⟩⟩⟩⟩⟩⟩⟩⟩⟩⟩⟩⟩⟩⟩⟩⟩⟩⟩⟩⟩⟩⟩⟩⟩⟩⟩⟩⟩⟩⟩⟩⟩⟩⟩⟩⟩⟩⟩⟩⟩⟩⟩
set_option maxRecDepth 100000 in
theorem lA8 : ∀ w ∈ aw8, w ∈ lw_tbl := by
  unfold aw8
  exact List.forall_mem_cons.mpr ⟨(tb6 116 rfl), List.forall_mem_cons.mpr ⟨(tb0 47 (by decide +kernel)), List.forall_mem_cons.mpr ⟨(tb7 138 rfl), List.forall_mem_cons.mpr ⟨(tb7 139 rfl), List.forall_mem_cons.mpr ⟨(tb7 140 rfl), List.forall_mem_cons.mpr ⟨(tb7 141 rfl), List.forall_mem_cons.mpr ⟨(tb7 137 rfl), List.forall_mem_cons.mpr ⟨(tb6 76 rfl), List.forall_mem_cons.mpr ⟨(tb6 107 rfl), List.forall_mem_cons.mpr ⟨(tb6 110 rfl), List.forall_mem_cons.mpr ⟨(tb6 112 rfl), List.forall_mem_cons.mpr ⟨(tb0 46 (by decide +kernel)), List.forall_mem_cons.mpr ⟨(tb6 118 rfl), List.forall_mem_cons.mpr ⟨(tb6 122 rfl), List.forall_mem_cons.mpr ⟨(tb6 142 rfl), List.forall_mem_cons.mpr ⟨(tb6 106 rfl), List.forall_mem_cons.mpr ⟨(tb7 16 rfl), List.forall_mem_cons.mpr ⟨(tb7 17 rfl), List.forall_mem_cons.mpr ⟨(tb6 80 rfl), List.forall_mem_cons.mpr ⟨(tb6 212 rfl), List.forall_mem_cons.mpr ⟨(tb6 213 rfl), List.forall_mem_cons.mpr ⟨(tb6 214 rfl), List.forall_mem_cons.mpr ⟨(tb7 18 rfl), List.forall_mem_cons.mpr ⟨(tb7 19 rfl), List.forall_mem_cons.mpr ⟨(tb7 44 rfl), List.forall_mem_cons.mpr ⟨(tb7 48 rfl), List.forall_mem_cons.mpr ⟨(tb6 211 rfl), List.forall_mem_cons.mpr ⟨(tb7 107 rfl), List.forall_mem_cons.mpr ⟨(tb8 38 rfl), List.forall_mem_cons.mpr ⟨(tb7 112 rfl), List.forall_mem_cons.mpr ⟨(tb7 16 rfl), List.forall_mem_cons.mpr ⟨(tb7 25 rfl), List.forall_mem_cons.mpr ⟨(tb7 104 rfl), List.forall_mem_cons.mpr ⟨(tb7 106 rfl), List.forall_mem_cons.mpr ⟨(tb0 51 (by decide +kernel)), List.forall_mem_cons.mpr ⟨(tb7 108 rfl), List.forall_mem_cons.mpr ⟨(tb7 109 rfl), List.forall_mem_cons.mpr ⟨(tb7 110 rfl), List.forall_mem_cons.mpr ⟨(tb7 111 rfl), List.forall_mem_cons.mpr ⟨(tb7 103 rfl), List.forall_mem_cons.mpr ⟨(tb7 117 rfl), List.forall_mem_cons.mpr ⟨(tb7 121 rfl), List.forall_mem_cons.mpr ⟨(tb7 116 rfl), List.forall_mem_cons.mpr ⟨(tb7 30 rfl), List.forall_mem_cons.mpr ⟨(tb7 35 rfl), List.forall_mem_cons.mpr ⟨(tb7 237 rfl), List.forall_mem_cons.mpr ⟨(tb7 235 rfl), List.forall_mem_cons.mpr ⟨(tb8 27 rfl), List.forall_mem_cons.mpr ⟨(tb8 26 rfl), List.forall_mem_cons.mpr ⟨(tb7 134 rfl), List.forall_mem_cons.mpr ⟨(tb7 136 rfl), List.forall_mem_cons.mpr ⟨(tb0 53 (by decide +kernel)), List.forall_mem_cons.mpr ⟨(tb8 23 rfl), List.forall_mem_cons.mpr ⟨(tb8 25 rfl), List.forall_mem_cons.mpr ⟨(tb0 62 (by decide +kernel)), List.forall_mem_cons.mpr ⟨(tb7 133 rfl), List.forall_mem_cons.mpr ⟨(tb8 35 rfl), List.forall_mem_cons.mpr ⟨(tb8 37 rfl), List.forall_mem_cons.mpr ⟨(tb0 63 (by decide +kernel)), List.forall_mem_cons.mpr ⟨(tb8 39 rfl), (fun _ h => nomatch h)⟩⟩⟩⟩⟩⟩⟩⟩⟩⟩⟩⟩⟩⟩⟩⟩⟩⟩⟩⟩⟩⟩⟩⟩⟩⟩⟩⟩⟩⟩⟩⟩⟩⟩⟩⟩⟩⟩⟩⟩⟩⟩⟩⟩⟩⟩⟩⟩⟩⟩⟩⟩⟩⟩⟩⟩⟩⟩⟩⟩
set_option maxRecDepth 100000 in
theorem lA9 : ∀ w ∈ aw9, w ∈ lw_tbl := by
  unfold aw9
  exact List.forall_mem_cons.mpr ⟨(tb8 40 rfl), List.forall_mem_cons.mpr ⟨(tb8 41 rfl), List.forall_mem_cons.mpr ⟨(tb8 42 rfl), List.forall_mem_cons.mpr ⟨(tb8 34 rfl), List.forall_mem_cons.mpr ⟨(tb8 52 rfl), List.forall_mem_cons.mpr ⟨(tb8 51 rfl), List.forall_mem_cons.mpr ⟨(tb8 1 rfl), List.forall_mem_cons.mpr ⟨(tb8 48 rfl), List.forall_mem_cons.mpr ⟨(tb8 50 rfl), List.forall_mem_cons.mpr ⟨(tb0 64 (by decide +kernel)), List.forall_mem_cons.mpr ⟨(tb8 47 rfl), List.forall_mem_cons.mpr ⟨(tb8 3 rfl), List.forall_mem_cons.mpr ⟨(tb8 56 rfl), List.forall_mem_cons.mpr ⟨(tb8 61 rfl), List.forall_mem_cons.mpr ⟨(tb8 62 rfl), List.forall_mem_cons.mpr ⟨(tb8 63 rfl), List.forall_mem_cons.mpr ⟨(tb8 60 rfl), List.forall_mem_cons.mpr ⟨(tb8 84 rfl), List.forall_mem_cons.mpr ⟨(tb8 85 rfl), List.forall_mem_cons.mpr ⟨(tb8 86 rfl), List.forall_mem_cons.mpr ⟨(tb8 87 rfl), List.forall_mem_cons.mpr ⟨(tb8 83 rfl), List.forall_mem_cons.mpr ⟨(tb8 80 rfl), List.forall_mem_cons.mpr ⟨(tb8 82 rfl), List.forall_mem_cons.mpr ⟨(tb0 65 (by decide +kernel)), List.forall_mem_cons.mpr ⟨(tb8 79 rfl), List.forall_mem_cons.mpr ⟨(tb8 115 rfl), List.forall_mem_cons.mpr ⟨(tb8 112 rfl), List.forall_mem_cons.mpr ⟨(tb8 93 rfl), List.forall_mem_cons.mpr ⟨(tb8 94 rfl), List.forall_mem_cons.mpr ⟨(tb8 95 rfl), List.forall_mem_cons.mpr ⟨(tb8 113 rfl), List.forall_mem_cons.mpr ⟨(tb8 114 rfl), List.forall_mem_cons.mpr ⟨(tb8 92 rfl), List.forall_mem_cons.mpr ⟨(tb8 130 rfl), List.forall_mem_cons.mpr ⟨(tb8 131 rfl), List.forall_mem_cons.mpr ⟨(tb8 132 rfl), List.forall_mem_cons.mpr ⟨(tb8 133 rfl), List.forall_mem_cons.mpr ⟨(tb8 134 rfl), List.forall_mem_cons.mpr ⟨(tb8 129 rfl), List.forall_mem_cons.mpr ⟨(tb8 124 rfl), List.forall_mem_cons.mpr ⟨(tb8 125 rfl), List.forall_mem_cons.mpr ⟨(tb8 126 rfl), List.forall_mem_cons.mpr ⟨(tb8 128 rfl), List.forall_mem_cons.mpr ⟨(tb0 69 (by decide +kernel)), List.forall_mem_cons.mpr ⟨(tb8 140 rfl), List.forall_mem_cons.mpr ⟨(tb8 142 rfl), List.forall_mem_cons.mpr ⟨(tb8 144 rfl), List.forall_mem_cons.mpr ⟨(tb8 145 rfl), List.forall_mem_cons.mpr ⟨(tb8 146 rfl), List.forall_mem_cons.mpr ⟨(tb8 123 rfl), List.forall_mem_cons.mpr ⟨(tb8 120 rfl), List.forall_mem_cons.mpr ⟨(tb8 122 rfl), List.forall_mem_cons.mpr ⟨(tb0 68 (by decide +kernel)), List.forall_mem_cons.mpr ⟨(tb8 119 rfl), List.forall_mem_cons.mpr ⟨(tb8 151 rfl), List.forall_mem_cons.mpr ⟨(tb8 152 rfl), List.forall_mem_cons.mpr ⟨(tb6 88 rfl), List.forall_mem_cons.mpr ⟨(tb6 89 rfl), List.forall_mem_cons.mpr ⟨(tb8 153 rfl), (fun _ h => nomatch h)⟩⟩⟩⟩⟩⟩⟩⟩⟩⟩⟩⟩⟩⟩⟩⟩⟩⟩⟩⟩⟩⟩⟩⟩⟩⟩⟩⟩⟩⟩⟩⟩⟩⟩⟩⟩⟩⟩⟩⟩⟩⟩⟩⟩⟩⟩⟩⟩⟩⟩⟩⟩⟩⟩⟩⟩⟩⟩⟩⟩
set_option maxRecDepth 100000 in
theorem lA10 : ∀ w ∈ aw10, w ∈ lw_tbl := by
  unfold aw10
  exact List.forall_mem_cons.mpr ⟨(tb8 154 rfl), List.forall_mem_cons.mpr ⟨(tb8 155 rfl), List.forall_mem_cons.mpr ⟨(tb8 173 rfl), List.forall_mem_cons.mpr ⟨(tb8 174 rfl), List.forall_mem_cons.mpr ⟨(tb9 105 rfl), List.forall_mem_cons.mpr ⟨(tb8 150 rfl), List.forall_mem_cons.mpr ⟨(tb9 117 rfl), List.forall_mem_cons.mpr ⟨(tb9 118 rfl), List.forall_mem_cons.mpr ⟨(tb9 119 rfl), List.forall_mem_cons.mpr ⟨(tb9 116 rfl), List.forall_mem_cons.mpr ⟨(tb9 113 rfl), List.forall_mem_cons.mpr ⟨(tb9 115 rfl), List.forall_mem_cons.mpr ⟨(tb0 88 (by decide +kernel)), List.forall_mem_cons.mpr ⟨(tb9 112 rfl), List.forall_mem_cons.mpr ⟨(tb9 133 rfl), List.forall_mem_cons.mpr ⟨(tb9 58 rfl), List.forall_mem_cons.mpr ⟨(tb9 134 rfl), List.forall_mem_cons.mpr ⟨(tb9 130 rfl), List.forall_mem_cons.mpr ⟨(tb9 132 rfl), List.forall_mem_cons.mpr ⟨(tb0 89 (by decide +kernel)), List.forall_mem_cons.mpr ⟨(tb9 129 rfl), List.forall_mem_cons.mpr ⟨(tb9 147 rfl), List.forall_mem_cons.mpr ⟨(tb9 148 rfl), List.forall_mem_cons.mpr ⟨(tb9 143 rfl), List.forall_mem_cons.mpr ⟨(tb9 144 rfl), List.forall_mem_cons.mpr ⟨(tb9 146 rfl), List.forall_mem_cons.mpr ⟨(tb0 91 (by decide +kernel)), List.forall_mem_cons.mpr ⟨(tb9 142 rfl), List.forall_mem_cons.mpr ⟨(tb9 139 rfl), List.forall_mem_cons.mpr ⟨(tb9 141 rfl), List.forall_mem_cons.mpr ⟨(tb0 90 (by decide +kernel)), List.forall_mem_cons.mpr ⟨(tb9 138 rfl), List.forall_mem_cons.mpr ⟨(tb9 152 rfl), List.forall_mem_cons.mpr ⟨(tb9 160 rfl), List.forall_mem_cons.mpr ⟨(tb9 157 rfl), List.forall_mem_cons.mpr ⟨(tb9 159 rfl), List.forall_mem_cons.mpr ⟨(tb0 92 (by decide +kernel)), List.forall_mem_cons.mpr ⟨(tb9 156 rfl), List.forall_mem_cons.mpr ⟨(tb9 172 rfl), List.forall_mem_cons.mpr ⟨(tb9 169 rfl), List.forall_mem_cons.mpr ⟨(tb9 171 rfl), List.forall_mem_cons.mpr ⟨(tb0 93 (by decide +kernel)), List.forall_mem_cons.mpr ⟨(tb9 168 rfl), List.forall_mem_cons.mpr ⟨(tb9 165 rfl), List.forall_mem_cons.mpr ⟨(tb9 166 rfl), List.forall_mem_cons.mpr ⟨(tb9 167 rfl), List.forall_mem_cons.mpr ⟨(tb9 164 rfl), List.forall_mem_cons.mpr ⟨(tb10 176 rfl), List.forall_mem_cons.mpr ⟨(tb10 175 rfl), List.forall_mem_cons.mpr ⟨(tb10 172 rfl), List.forall_mem_cons.mpr ⟨(tb10 174 rfl), List.forall_mem_cons.mpr ⟨(tb0 95 (by decide +kernel)), List.forall_mem_cons.mpr ⟨(tb10 171 rfl), List.forall_mem_cons.mpr ⟨(tb10 180 rfl), List.forall_mem_cons.mpr ⟨(tb10 188 rfl), List.forall_mem_cons.mpr ⟨(tb10 189 rfl), List.forall_mem_cons.mpr ⟨(tb10 185 rfl), List.forall_mem_cons.mpr ⟨(tb10 186 rfl), List.forall_mem_cons.mpr ⟨(tb10 187 rfl), List.forall_mem_cons.mpr ⟨(tb10 184 rfl), (fun _ h => nomatch h)⟩⟩⟩⟩⟩⟩⟩⟩⟩⟩⟩⟩⟩⟩⟩⟩⟩⟩⟩⟩⟩⟩⟩⟩⟩⟩⟩⟩⟩⟩⟩⟩⟩⟩⟩⟩⟩⟩⟩⟩⟩⟩⟩⟩⟩⟩⟩⟩⟩⟩⟩⟩⟩⟩⟩⟩⟩⟩⟩⟩
set_option maxRecDepth 100000 in
theorem lA11 : ∀ w ∈ aw11, w ∈ lw_tbl := by
  unfold aw11
  exact List.forall_mem_cons.mpr ⟨(tb9 194 rfl), List.forall_mem_cons.mpr ⟨(tb9 195 rfl), List.forall_mem_cons.mpr ⟨(tb9 191 rfl), List.forall_mem_cons.mpr ⟨(tb1 1 rfl), List.forall_mem_cons.mpr ⟨(tb9 192 rfl), List.forall_mem_cons.mpr ⟨(tb9 193 rfl), List.forall_mem_cons.mpr ⟨(tb1 40 rfl), List.forall_mem_cons.mpr ⟨(tb9 185 rfl), List.forall_mem_cons.mpr ⟨(tb9 186 rfl), List.forall_mem_cons.mpr ⟨(tb9 187 rfl), List.forall_mem_cons.mpr ⟨(tb9 196 rfl), List.forall_mem_cons.mpr ⟨(tb9 197 rfl), List.forall_mem_cons.mpr ⟨(tb9 189 rfl), List.forall_mem_cons.mpr ⟨(tb9 190 rfl), List.forall_mem_cons.mpr ⟨(tb10 124 rfl), List.forall_mem_cons.mpr ⟨(tb9 199 rfl), List.forall_mem_cons.mpr ⟨(tb9 228 rfl), List.forall_mem_cons.mpr ⟨(tb9 230 rfl), List.forall_mem_cons.mpr ⟨(tb9 229 rfl), List.forall_mem_cons.mpr ⟨(tb9 233 rfl), List.forall_mem_cons.mpr ⟨(tb9 234 rfl), List.forall_mem_cons.mpr ⟨(tb9 235 rfl), List.forall_mem_cons.mpr ⟨(tb9 236 rfl), List.forall_mem_cons.mpr ⟨(tb9 238 rfl), List.forall_mem_cons.mpr ⟨(tb9 225 rfl), List.forall_mem_cons.mpr ⟨(tb10 195 rfl), List.forall_mem_cons.mpr ⟨(tb1 1 rfl), List.forall_mem_cons.mpr ⟨(tb9 227 rfl), List.forall_mem_cons.mpr ⟨(tb1 37 rfl), List.forall_mem_cons.mpr ⟨(tb9 231 rfl), List.forall_mem_cons.mpr ⟨(tb9 232 rfl), List.forall_mem_cons.mpr ⟨(tb9 224 rfl), List.forall_mem_cons.mpr ⟨(tb10 3 rfl), List.forall_mem_cons.mpr ⟨(tb10 12 rfl), List.forall_mem_cons.mpr ⟨(tb10 66 rfl), List.forall_mem_cons.mpr ⟨(tb10 63 rfl), List.forall_mem_cons.mpr ⟨(tb10 16 rfl), List.forall_mem_cons.mpr ⟨(tb10 64 rfl), List.forall_mem_cons.mpr ⟨(tb10 65 rfl), List.forall_mem_cons.mpr ⟨(tb10 60 rfl), List.forall_mem_cons.mpr ⟨(tb10 10 rfl), List.forall_mem_cons.mpr ⟨(tb10 11 rfl), List.forall_mem_cons.mpr ⟨(tb10 61 rfl), List.forall_mem_cons.mpr ⟨(tb10 62 rfl), List.forall_mem_cons.mpr ⟨(tb1 39 rfl), List.forall_mem_cons.mpr ⟨(tb10 23 rfl), List.forall_mem_cons.mpr ⟨(tb10 24 rfl), List.forall_mem_cons.mpr ⟨(tb10 26 rfl), List.forall_mem_cons.mpr ⟨(tb10 28 rfl), List.forall_mem_cons.mpr ⟨(tb10 57 rfl), List.forall_mem_cons.mpr ⟨(tb10 58 rfl), List.forall_mem_cons.mpr ⟨(tb10 59 rfl), List.forall_mem_cons.mpr ⟨(tb10 21 rfl), List.forall_mem_cons.mpr ⟨(tb10 22 rfl), List.forall_mem_cons.mpr ⟨(tb10 55 rfl), List.forall_mem_cons.mpr ⟨(tb10 56 rfl), List.forall_mem_cons.mpr ⟨(tb10 54 rfl), List.forall_mem_cons.mpr ⟨(tb9 239 rfl), List.forall_mem_cons.mpr ⟨(tb10 1 rfl), List.forall_mem_cons.mpr ⟨(tb10 2 rfl), (fun _ h => nomatch h)⟩⟩⟩⟩⟩⟩⟩⟩⟩⟩⟩⟩⟩⟩⟩⟩⟩⟩⟩⟩⟩⟩⟩⟩⟩⟩⟩⟩⟩⟩⟩⟩⟩⟩⟩⟩⟩⟩⟩⟩⟩⟩⟩⟩⟩⟩⟩⟩⟩⟩⟩⟩⟩⟩⟩⟩⟩⟩⟩⟩
set_option maxRecDepth 100000 in
theorem lA12 : ∀ w ∈ aw12, w ∈ lw_tbl := by
  unfold aw12
  exact List.forall_mem_cons.mpr ⟨(tb10 0 rfl), List.forall_mem_cons.mpr ⟨(tb10 52 rfl), List.forall_mem_cons.mpr ⟨(tb10 53 rfl), List.forall_mem_cons.mpr ⟨(tb1 41 rfl), List.forall_mem_cons.mpr ⟨(tb10 51 rfl), List.forall_mem_cons.mpr ⟨(tb10 20 rfl), List.forall_mem_cons.mpr ⟨(tb10 15 rfl), List.forall_mem_cons.mpr ⟨(tb10 18 rfl), List.forall_mem_cons.mpr ⟨(tb10 19 rfl), List.forall_mem_cons.mpr ⟨(tb10 9 rfl), List.forall_mem_cons.mpr ⟨(tb10 13 rfl), List.forall_mem_cons.mpr ⟨(tb10 14 rfl), List.forall_mem_cons.mpr ⟨(tb10 6 rfl), List.forall_mem_cons.mpr ⟨(tb10 7 rfl), List.forall_mem_cons.mpr ⟨(tb10 8 rfl), List.forall_mem_cons.mpr ⟨(tb9 221 rfl), List.forall_mem_cons.mpr ⟨(tb10 194 rfl), List.forall_mem_cons.mpr ⟨(tb1 1 rfl), List.forall_mem_cons.mpr ⟨(tb9 223 rfl), List.forall_mem_cons.mpr ⟨(tb10 4 rfl), List.forall_mem_cons.mpr ⟨(tb10 5 rfl), List.forall_mem_cons.mpr ⟨(tb9 220 rfl), List.forall_mem_cons.mpr ⟨(tb10 37 rfl), List.forall_mem_cons.mpr ⟨(tb10 38 rfl), List.forall_mem_cons.mpr ⟨(tb10 157 rfl), List.forall_mem_cons.mpr ⟨(tb10 33 rfl), List.forall_mem_cons.mpr ⟨(tb10 156 rfl), List.forall_mem_cons.mpr ⟨(tb10 34 rfl), List.forall_mem_cons.mpr ⟨(tb10 35 rfl), List.forall_mem_cons.mpr ⟨(tb10 36 rfl), List.forall_mem_cons.mpr ⟨(tb10 47 rfl), List.forall_mem_cons.mpr ⟨(tb10 48 rfl), List.forall_mem_cons.mpr ⟨(tb10 198 rfl), List.forall_mem_cons.mpr ⟨(tb1 1 rfl), List.forall_mem_cons.mpr ⟨(tb10 50 rfl), List.forall_mem_cons.mpr ⟨(tb10 46 rfl), List.forall_mem_cons.mpr ⟨(tb10 71 rfl), List.forall_mem_cons.mpr ⟨(tb10 72 rfl), List.forall_mem_cons.mpr ⟨(tb10 70 rfl), List.forall_mem_cons.mpr ⟨(tb10 43 rfl), List.forall_mem_cons.mpr ⟨(tb10 197 rfl), List.forall_mem_cons.mpr ⟨(tb1 1 rfl), List.forall_mem_cons.mpr ⟨(tb10 45 rfl), List.forall_mem_cons.mpr ⟨(tb10 67 rfl), List.forall_mem_cons.mpr ⟨(tb10 68 rfl), List.forall_mem_cons.mpr ⟨(tb10 69 rfl), List.forall_mem_cons.mpr ⟨(tb10 42 rfl), List.forall_mem_cons.mpr ⟨(tb9 217 rfl), List.forall_mem_cons.mpr ⟨(tb10 193 rfl), List.forall_mem_cons.mpr ⟨(tb1 1 rfl), List.forall_mem_cons.mpr ⟨(tb9 219 rfl), List.forall_mem_cons.mpr ⟨(tb10 30 rfl), List.forall_mem_cons.mpr ⟨(tb10 31 rfl), List.forall_mem_cons.mpr ⟨(tb10 32 rfl), List.forall_mem_cons.mpr ⟨(tb10 39 rfl), List.forall_mem_cons.mpr ⟨(tb10 196 rfl), List.forall_mem_cons.mpr ⟨(tb1 1 rfl), List.forall_mem_cons.mpr ⟨(tb10 41 rfl), List.forall_mem_cons.mpr ⟨(tb9 216 rfl), List.forall_mem_cons.mpr ⟨(tb10 82 rfl), (fun _ h => nomatch h)⟩⟩⟩⟩⟩⟩⟩⟩⟩⟩⟩⟩⟩⟩⟩⟩⟩⟩⟩⟩⟩⟩⟩⟩⟩⟩⟩⟩⟩⟩⟩⟩⟩⟩⟩⟩⟩⟩⟩⟩⟩⟩⟩⟩⟩⟩⟩⟩⟩⟩⟩⟩⟩⟩⟩⟩⟩⟩⟩⟩
set_option maxRecDepth 100000 in
theorem lA13 : ∀ w ∈ aw13, w ∈ lw_tbl := by
  unfold aw13
  exact List.forall_mem_cons.mpr ⟨(tb10 85 rfl), List.forall_mem_cons.mpr ⟨(tb10 86 rfl), List.forall_mem_cons.mpr ⟨(tb10 88 rfl), List.forall_mem_cons.mpr ⟨(tb10 95 rfl), List.forall_mem_cons.mpr ⟨(tb10 96 rfl), List.forall_mem_cons.mpr ⟨(tb10 97 rfl), List.forall_mem_cons.mpr ⟨(tb10 93 rfl), List.forall_mem_cons.mpr ⟨(tb10 94 rfl), List.forall_mem_cons.mpr ⟨(tb10 92 rfl), List.forall_mem_cons.mpr ⟨(tb10 80 rfl), List.forall_mem_cons.mpr ⟨(tb10 81 rfl), List.forall_mem_cons.mpr ⟨(tb10 83 rfl), List.forall_mem_cons.mpr ⟨(tb10 84 rfl), List.forall_mem_cons.mpr ⟨(tb10 90 rfl), List.forall_mem_cons.mpr ⟨(tb10 91 rfl), List.forall_mem_cons.mpr ⟨(tb10 79 rfl), List.forall_mem_cons.mpr ⟨(tb10 116 rfl), List.forall_mem_cons.mpr ⟨(tb4 8 rfl), List.forall_mem_cons.mpr ⟨(tb3 148 rfl), List.forall_mem_cons.mpr ⟨(tb10 122 rfl), List.forall_mem_cons.mpr ⟨(tb10 123 rfl), List.forall_mem_cons.mpr ⟨(tb10 119 rfl), List.forall_mem_cons.mpr ⟨(tb9 208 rfl), List.forall_mem_cons.mpr ⟨(tb10 118 rfl), List.forall_mem_cons.mpr ⟨(tb10 134 rfl), List.forall_mem_cons.mpr ⟨(tb10 136 rfl), List.forall_mem_cons.mpr ⟨(tb9 179 rfl), List.forall_mem_cons.mpr ⟨(tb1 38 rfl), List.forall_mem_cons.mpr ⟨(tb10 131 rfl), List.forall_mem_cons.mpr ⟨(tb10 132 rfl), List.forall_mem_cons.mpr ⟨(tb10 133 rfl), List.forall_mem_cons.mpr ⟨(tb10 129 rfl), List.forall_mem_cons.mpr ⟨(tb10 130 rfl), List.forall_mem_cons.mpr ⟨(tb10 128 rfl), List.forall_mem_cons.mpr ⟨(tb10 151 rfl), List.forall_mem_cons.mpr ⟨(tb10 148 rfl), List.forall_mem_cons.mpr ⟨(tb10 149 rfl), List.forall_mem_cons.mpr ⟨(tb10 150 rfl), List.forall_mem_cons.mpr ⟨(tb10 146 rfl), List.forall_mem_cons.mpr ⟨(tb10 147 rfl), List.forall_mem_cons.mpr ⟨(tb10 152 rfl), List.forall_mem_cons.mpr ⟨(tb10 127 rfl), List.forall_mem_cons.mpr ⟨(tb10 145 rfl), List.forall_mem_cons.mpr ⟨(tb10 155 rfl), List.forall_mem_cons.mpr ⟨(tb10 111 rfl), List.forall_mem_cons.mpr ⟨(tb9 198 rfl), List.forall_mem_cons.mpr ⟨(tb10 112 rfl), List.forall_mem_cons.mpr ⟨(tb10 114 rfl), List.forall_mem_cons.mpr ⟨(tb10 115 rfl), List.forall_mem_cons.mpr ⟨(tb10 113 rfl), List.forall_mem_cons.mpr ⟨(tb10 117 rfl), List.forall_mem_cons.mpr ⟨(tb10 118 rfl), List.forall_mem_cons.mpr ⟨(tb10 120 rfl), List.forall_mem_cons.mpr ⟨(tb10 121 rfl), List.forall_mem_cons.mpr ⟨(tb10 125 rfl), List.forall_mem_cons.mpr ⟨(tb10 126 rfl), List.forall_mem_cons.mpr ⟨(tb10 143 rfl), List.forall_mem_cons.mpr ⟨(tb10 144 rfl), List.forall_mem_cons.mpr ⟨(tb10 153 rfl), List.forall_mem_cons.mpr ⟨(tb10 154 rfl), (fun _ h => nomatch h)⟩⟩⟩⟩⟩⟩⟩⟩⟩⟩⟩⟩⟩⟩⟩⟩⟩⟩⟩⟩⟩⟩⟩⟩⟩⟩⟩⟩⟩⟩⟩⟩⟩⟩⟩⟩⟩⟩⟩⟩⟩⟩⟩⟩⟩⟩⟩⟩⟩⟩⟩⟩⟩⟩⟩⟩⟩⟩⟩⟩
set_option maxRecDepth 100000 in
theorem lA14 : ∀ w ∈ aw14, w ∈ lw_tbl := by
  unfold aw14
  exact List.forall_mem_cons.mpr ⟨(tb10 110 rfl), List.forall_mem_cons.mpr ⟨(tb10 108 rfl), List.forall_mem_cons.mpr ⟨(tb10 109 rfl), List.forall_mem_cons.mpr ⟨(tb10 107 rfl), List.forall_mem_cons.mpr ⟨(tb9 182 rfl), List.forall_mem_cons.mpr ⟨(tb9 183 rfl), List.forall_mem_cons.mpr ⟨(tb9 184 rfl), List.forall_mem_cons.mpr ⟨(tb9 214 rfl), List.forall_mem_cons.mpr ⟨(tb10 192 rfl), List.forall_mem_cons.mpr ⟨(tb9 215 rfl), List.forall_mem_cons.mpr ⟨(tb9 213 rfl), List.forall_mem_cons.mpr ⟨(tb10 77 rfl), List.forall_mem_cons.mpr ⟨(tb10 199 rfl), List.forall_mem_cons.mpr ⟨(tb10 78 rfl), List.forall_mem_cons.mpr ⟨(tb10 76 rfl), List.forall_mem_cons.mpr ⟨(tb10 103 rfl), List.forall_mem_cons.mpr ⟨(tb10 104 rfl), List.forall_mem_cons.mpr ⟨(tb10 105 rfl), List.forall_mem_cons.mpr ⟨(tb10 106 rfl), List.forall_mem_cons.mpr ⟨(tb10 102 rfl), List.forall_mem_cons.mpr ⟨(tb9 178 rfl), List.forall_mem_cons.mpr ⟨(tb9 180 rfl), List.forall_mem_cons.mpr ⟨(tb9 181 rfl), List.forall_mem_cons.mpr ⟨(tb9 210 rfl), List.forall_mem_cons.mpr ⟨(tb9 211 rfl), List.forall_mem_cons.mpr ⟨(tb9 212 rfl), List.forall_mem_cons.mpr ⟨(tb10 73 rfl), List.forall_mem_cons.mpr ⟨(tb10 74 rfl), List.forall_mem_cons.mpr ⟨(tb10 75 rfl), List.forall_mem_cons.mpr ⟨(tb10 99 rfl), List.forall_mem_cons.mpr ⟨(tb10 100 rfl), List.forall_mem_cons.mpr ⟨(tb10 101 rfl), List.forall_mem_cons.mpr ⟨(tb9 177 rfl), List.forall_mem_cons.mpr ⟨(tb5 112 rfl), List.forall_mem_cons.mpr ⟨(tb5 113 rfl), List.forall_mem_cons.mpr ⟨(tb5 114 rfl), List.forall_mem_cons.mpr ⟨(tb5 115 rfl), List.forall_mem_cons.mpr ⟨(tb5 116 rfl), List.forall_mem_cons.mpr ⟨(tb5 111 rfl), List.forall_mem_cons.mpr ⟨(tb5 143 rfl), List.forall_mem_cons.mpr ⟨(tb5 144 rfl), List.forall_mem_cons.mpr ⟨(tb5 145 rfl), List.forall_mem_cons.mpr ⟨(tb5 142 rfl), List.forall_mem_cons.mpr ⟨(tb5 175 rfl), List.forall_mem_cons.mpr ⟨(tb5 176 rfl), List.forall_mem_cons.mpr ⟨(tb5 177 rfl), List.forall_mem_cons.mpr ⟨(tb5 178 rfl), List.forall_mem_cons.mpr ⟨(tb5 174 rfl), List.forall_mem_cons.mpr ⟨(tb5 183 rfl), List.forall_mem_cons.mpr ⟨(tb5 184 rfl), List.forall_mem_cons.mpr ⟨(tb5 185 rfl), List.forall_mem_cons.mpr ⟨(tb5 182 rfl), List.forall_mem_cons.mpr ⟨(tb5 191 rfl), List.forall_mem_cons.mpr ⟨(tb5 190 rfl), List.forall_mem_cons.mpr ⟨(tb5 195 rfl), List.forall_mem_cons.mpr ⟨(tb5 194 rfl), List.forall_mem_cons.mpr ⟨(tb5 199 rfl), List.forall_mem_cons.mpr ⟨(tb5 198 rfl), List.forall_mem_cons.mpr ⟨(tb5 203 rfl), List.forall_mem_cons.mpr ⟨(tb5 202 rfl), (fun _ h => nomatch h)⟩⟩⟩⟩⟩⟩⟩⟩⟩⟩⟩⟩⟩⟩⟩⟩⟩⟩⟩⟩⟩⟩⟩⟩⟩⟩⟩⟩⟩⟩⟩⟩⟩⟩⟩⟩⟩⟩⟩⟩⟩⟩⟩⟩⟩⟩⟩⟩⟩⟩⟩⟩⟩⟩⟩⟩⟩⟩⟩⟩
set_option maxRecDepth 100000 in
theorem lA15 : ∀ w ∈ aw15, w ∈ lw_tbl := by
  unfold aw15
  exact List.forall_mem_cons.mpr ⟨(tb5 207 rfl), List.forall_mem_cons.mpr ⟨(tb5 206 rfl), List.forall_mem_cons.mpr ⟨(tb5 211 rfl), List.forall_mem_cons.mpr ⟨(tb5 210 rfl), List.forall_mem_cons.mpr ⟨(tb5 215 rfl), List.forall_mem_cons.mpr ⟨(tb5 214 rfl), List.forall_mem_cons.mpr ⟨(tb5 219 rfl), List.forall_mem_cons.mpr ⟨(tb5 218 rfl), List.forall_mem_cons.mpr ⟨(tb5 223 rfl), List.forall_mem_cons.mpr ⟨(tb5 224 rfl), List.forall_mem_cons.mpr ⟨(tb5 225 rfl), List.forall_mem_cons.mpr ⟨(tb5 222 rfl), List.forall_mem_cons.mpr ⟨(tb5 231 rfl), List.forall_mem_cons.mpr ⟨(tb5 230 rfl), List.forall_mem_cons.mpr ⟨(tb5 235 rfl), List.forall_mem_cons.mpr ⟨(tb5 234 rfl), List.forall_mem_cons.mpr ⟨(tb5 239 rfl), List.forall_mem_cons.mpr ⟨(tb5 238 rfl), List.forall_mem_cons.mpr ⟨(tb6 3 rfl), List.forall_mem_cons.mpr ⟨(tb6 2 rfl), List.forall_mem_cons.mpr ⟨(tb6 7 rfl), List.forall_mem_cons.mpr ⟨(tb6 8 rfl), List.forall_mem_cons.mpr ⟨(tb6 9 rfl), List.forall_mem_cons.mpr ⟨(tb6 6 rfl), List.forall_mem_cons.mpr ⟨(tb6 21 rfl), List.forall_mem_cons.mpr ⟨(tb6 20 rfl), List.forall_mem_cons.mpr ⟨(tb6 25 rfl), List.forall_mem_cons.mpr ⟨(tb6 26 rfl), List.forall_mem_cons.mpr ⟨(tb6 27 rfl), List.forall_mem_cons.mpr ⟨(tb6 24 rfl), List.forall_mem_cons.mpr ⟨(tb1 42 rfl), List.forall_mem_cons.mpr ⟨(tb1 43 rfl), List.forall_mem_cons.mpr ⟨(tb6 32 rfl), List.forall_mem_cons.mpr ⟨(tb6 33 rfl), List.forall_mem_cons.mpr ⟨(tb10 190 rfl), List.forall_mem_cons.mpr ⟨(tb1 44 rfl), List.forall_mem_cons.mpr ⟨(tb1 45 rfl), List.forall_mem_cons.mpr ⟨(tb6 34 rfl), List.forall_mem_cons.mpr ⟨(tb6 35 rfl), List.forall_mem_cons.mpr ⟨(tb5 109 rfl), List.forall_mem_cons.mpr ⟨(tb5 110 rfl), List.forall_mem_cons.mpr ⟨(tb1 0 rfl), List.forall_mem_cons.mpr ⟨(tb6 103 rfl), List.forall_mem_cons.mpr ⟨(tb6 104 rfl), List.forall_mem_cons.mpr ⟨(tb6 105 rfl), List.forall_mem_cons.mpr ⟨(tb6 99 rfl), List.forall_mem_cons.mpr ⟨(tb6 100 rfl), List.forall_mem_cons.mpr ⟨(tb6 101 rfl), List.forall_mem_cons.mpr ⟨(tb5 140 rfl), List.forall_mem_cons.mpr ⟨(tb5 141 rfl), List.forall_mem_cons.mpr ⟨(tb6 208 rfl), List.forall_mem_cons.mpr ⟨(tb6 209 rfl), List.forall_mem_cons.mpr ⟨(tb6 210 rfl), List.forall_mem_cons.mpr ⟨(tb5 172 rfl), List.forall_mem_cons.mpr ⟨(tb5 173 rfl), List.forall_mem_cons.mpr ⟨(tb7 100 rfl), List.forall_mem_cons.mpr ⟨(tb7 101 rfl), List.forall_mem_cons.mpr ⟨(tb7 102 rfl), List.forall_mem_cons.mpr ⟨(tb5 180 rfl), List.forall_mem_cons.mpr ⟨(tb5 181 rfl), (fun _ h => nomatch h)⟩⟩⟩⟩⟩⟩⟩⟩⟩⟩⟩⟩⟩⟩⟩⟩⟩⟩⟩⟩⟩⟩⟩⟩⟩⟩⟩⟩⟩⟩⟩⟩⟩⟩⟩⟩⟩⟩⟩⟩⟩⟩⟩⟩⟩⟩⟩⟩⟩⟩⟩⟩⟩⟩⟩⟩⟩⟩⟩⟩
set_option maxRecDepth 100000 in
theorem lA16 : ∀ w ∈ aw16, w ∈ lw_tbl := by
  unfold aw16
  exact List.forall_mem_cons.mpr ⟨(tb7 113 rfl), List.forall_mem_cons.mpr ⟨(tb7 114 rfl), List.forall_mem_cons.mpr ⟨(tb7 115 rfl), List.forall_mem_cons.mpr ⟨(tb5 188 rfl), List.forall_mem_cons.mpr ⟨(tb5 189 rfl), List.forall_mem_cons.mpr ⟨(tb7 130 rfl), List.forall_mem_cons.mpr ⟨(tb7 131 rfl), List.forall_mem_cons.mpr ⟨(tb7 132 rfl), List.forall_mem_cons.mpr ⟨(tb5 192 rfl), List.forall_mem_cons.mpr ⟨(tb5 193 rfl), List.forall_mem_cons.mpr ⟨(tb8 31 rfl), List.forall_mem_cons.mpr ⟨(tb8 32 rfl), List.forall_mem_cons.mpr ⟨(tb8 33 rfl), List.forall_mem_cons.mpr ⟨(tb5 196 rfl), List.forall_mem_cons.mpr ⟨(tb5 197 rfl), List.forall_mem_cons.mpr ⟨(tb8 44 rfl), List.forall_mem_cons.mpr ⟨(tb8 45 rfl), List.forall_mem_cons.mpr ⟨(tb8 46 rfl), List.forall_mem_cons.mpr ⟨(tb5 200 rfl), List.forall_mem_cons.mpr ⟨(tb5 201 rfl), List.forall_mem_cons.mpr ⟨(tb8 53 rfl), List.forall_mem_cons.mpr ⟨(tb8 54 rfl), List.forall_mem_cons.mpr ⟨(tb8 55 rfl), List.forall_mem_cons.mpr ⟨(tb5 204 rfl), List.forall_mem_cons.mpr ⟨(tb5 205 rfl), List.forall_mem_cons.mpr ⟨(tb8 57 rfl), List.forall_mem_cons.mpr ⟨(tb8 58 rfl), List.forall_mem_cons.mpr ⟨(tb8 59 rfl), List.forall_mem_cons.mpr ⟨(tb5 208 rfl), List.forall_mem_cons.mpr ⟨(tb5 209 rfl), List.forall_mem_cons.mpr ⟨(tb8 76 rfl), List.forall_mem_cons.mpr ⟨(tb8 77 rfl), List.forall_mem_cons.mpr ⟨(tb8 78 rfl), List.forall_mem_cons.mpr ⟨(tb5 212 rfl), List.forall_mem_cons.mpr ⟨(tb5 213 rfl), List.forall_mem_cons.mpr ⟨(tb8 89 rfl), List.forall_mem_cons.mpr ⟨(tb8 90 rfl), List.forall_mem_cons.mpr ⟨(tb8 91 rfl), List.forall_mem_cons.mpr ⟨(tb5 216 rfl), List.forall_mem_cons.mpr ⟨(tb5 217 rfl), List.forall_mem_cons.mpr ⟨(tb8 116 rfl), List.forall_mem_cons.mpr ⟨(tb8 117 rfl), List.forall_mem_cons.mpr ⟨(tb8 118 rfl), List.forall_mem_cons.mpr ⟨(tb5 220 rfl), List.forall_mem_cons.mpr ⟨(tb5 221 rfl), List.forall_mem_cons.mpr ⟨(tb8 147 rfl), List.forall_mem_cons.mpr ⟨(tb8 148 rfl), List.forall_mem_cons.mpr ⟨(tb8 149 rfl), List.forall_mem_cons.mpr ⟨(tb5 228 rfl), List.forall_mem_cons.mpr ⟨(tb5 229 rfl), List.forall_mem_cons.mpr ⟨(tb9 109 rfl), List.forall_mem_cons.mpr ⟨(tb9 110 rfl), List.forall_mem_cons.mpr ⟨(tb9 111 rfl), List.forall_mem_cons.mpr ⟨(tb5 232 rfl), List.forall_mem_cons.mpr ⟨(tb5 233 rfl), List.forall_mem_cons.mpr ⟨(tb9 126 rfl), List.forall_mem_cons.mpr ⟨(tb9 127 rfl), List.forall_mem_cons.mpr ⟨(tb9 128 rfl), List.forall_mem_cons.mpr ⟨(tb5 236 rfl), List.forall_mem_cons.mpr ⟨(tb5 237 rfl), (fun _ h => nomatch h)⟩⟩⟩⟩⟩⟩⟩⟩⟩⟩⟩⟩⟩⟩⟩⟩⟩⟩⟩⟩⟩⟩⟩⟩⟩⟩⟩⟩⟩⟩⟩⟩⟩⟩⟩⟩⟩⟩⟩⟩⟩⟩⟩⟩⟩⟩⟩⟩⟩⟩⟩⟩⟩⟩⟩⟩⟩⟩⟩⟩
set_option maxRecDepth 100000 in
theorem lA17 : ∀ w ∈ aw17, w ∈ lw_tbl := by
  unfold aw17
  exact List.forall_mem_cons.mpr ⟨(tb9 135 rfl), List.forall_mem_cons.mpr ⟨(tb9 136 rfl), List.forall_mem_cons.mpr ⟨(tb9 137 rfl), List.forall_mem_cons.mpr ⟨(tb3 134 rfl), List.forall_mem_cons.mpr ⟨(tb3 135 rfl), List.forall_mem_cons.mpr ⟨(tb3 136 rfl), List.forall_mem_cons.mpr ⟨(tb9 149 rfl), List.forall_mem_cons.mpr ⟨(tb9 150 rfl), List.forall_mem_cons.mpr ⟨(tb9 151 rfl), List.forall_mem_cons.mpr ⟨(tb6 0 rfl), List.forall_mem_cons.mpr ⟨(tb6 1 rfl), List.forall_mem_cons.mpr ⟨(tb9 153 rfl), List.forall_mem_cons.mpr ⟨(tb9 154 rfl), List.forall_mem_cons.mpr ⟨(tb9 155 rfl), List.forall_mem_cons.mpr ⟨(tb6 4 rfl), List.forall_mem_cons.mpr ⟨(tb6 5 rfl), List.forall_mem_cons.mpr ⟨(tb9 161 rfl), List.forall_mem_cons.mpr ⟨(tb9 162 rfl), List.forall_mem_cons.mpr ⟨(tb9 163 rfl), List.forall_mem_cons.mpr ⟨(tb6 18 rfl), List.forall_mem_cons.mpr ⟨(tb6 19 rfl), List.forall_mem_cons.mpr ⟨(tb10 168 rfl), List.forall_mem_cons.mpr ⟨(tb10 169 rfl), List.forall_mem_cons.mpr ⟨(tb10 170 rfl), List.forall_mem_cons.mpr ⟨(tb6 22 rfl), List.forall_mem_cons.mpr ⟨(tb6 23 rfl), List.forall_mem_cons.mpr ⟨(tb10 177 rfl), List.forall_mem_cons.mpr ⟨(tb10 178 rfl), List.forall_mem_cons.mpr ⟨(tb10 179 rfl), List.forall_mem_cons.mpr ⟨(tb3 149 rfl), List.forall_mem_cons.mpr ⟨(tb3 150 rfl), List.forall_mem_cons.mpr ⟨(tb3 151 rfl), List.forall_mem_cons.mpr ⟨(tb10 181 rfl), List.forall_mem_cons.mpr ⟨(tb10 182 rfl), List.forall_mem_cons.mpr ⟨(tb10 183 rfl), (fun _ h => nomatch h)⟩⟩⟩⟩⟩⟩⟩⟩⟩⟩⟩⟩⟩⟩⟩⟩⟩⟩⟩⟩⟩⟩⟩⟩⟩⟩⟩⟩⟩⟩⟩⟩⟩⟩⟩
set_option maxRecDepth 100000 in
theorem luJ0 : ∀ w ∈ u_ws RJ0 TJ0 4, w ∈ lw_tbl := by
  intro w hw
  obtain ⟨j, hj, rfl⟩ := List.mem_map.mp hw
  have hj := List.mem_range.mp hj
  match j, hj with
  | 0, _ => exact (tb10 158 rfl)
  | 1, _ => exact (tb10 160 rfl)
  | 2, _ => exact (tb10 162 rfl)
  | 3, _ => exact (tb10 164 rfl)
  | j + 4, h => exact absurd h (by omega)
set_option maxRecDepth 100000 in
theorem luJ4 : ∀ w ∈ u_ws RJ4 TJ4 4, w ∈ lw_tbl := by
  intro w hw
  obtain ⟨j, hj, rfl⟩ := List.mem_map.mp hw
  have hj := List.mem_range.mp hj
  match j, hj with
  | 0, _ => exact (tb9 200 rfl)
  | 1, _ => exact (tb9 202 rfl)
  | 2, _ => exact (tb9 204 rfl)
  | 3, _ => exact (tb9 206 rfl)
  | j + 4, h => exact absurd h (by omega)
set_option maxRecDepth 100000 in
theorem luJ6 : ∀ w ∈ u_ws RJ6 TJ6 1, w ∈ lw_tbl := by
  intro w hw
  obtain ⟨j, hj, rfl⟩ := List.mem_map.mp hw
  have hj := List.mem_range.mp hj
  match j, hj with
  | 0, _ => exact (tb6 139 rfl)
  | j + 1, h => exact absurd h (by omega)
set_option maxRecDepth 100000 in
theorem luJx35411 : ∀ w ∈ u_ws RJx35411 TJx35411 4, w ∈ lw_tbl := by
  intro w hw
  obtain ⟨j, hj, rfl⟩ := List.mem_map.mp hw
  have hj := List.mem_range.mp hj
  match j, hj with
  | 0, _ => exact (tb7 66 rfl)
  | 1, _ => exact (tb7 68 rfl)
  | 2, _ => exact (tb7 70 rfl)
  | 3, _ => exact (tb7 72 rfl)
  | j + 4, h => exact absurd h (by omega)
set_option maxRecDepth 100000 in
theorem luJx4a65c : ∀ w ∈ u_ws RJx4a65c TJx4a65c 3, w ∈ lw_tbl := by
  intro w hw
  obtain ⟨j, hj, rfl⟩ := List.mem_map.mp hw
  have hj := List.mem_range.mp hj
  match j, hj with
  | 0, _ => exact (tb6 70 rfl)
  | 1, _ => exact (tb6 66 rfl)
  | 2, _ => exact (tb6 68 rfl)
  | j + 3, h => exact absurd h (by omega)
set_option maxRecDepth 100000 in
theorem luX0 : ∀ w ∈ u_ws RX0 TX0 13, w ∈ lw_tbl := by
  intro w hw
  obtain ⟨j, hj, rfl⟩ := List.mem_map.mp hw
  have hj := List.mem_range.mp hj
  match j, hj with
  | 0, _ => exact (tb2 2 rfl)
  | 1, _ => exact (tb2 4 rfl)
  | 2, _ => exact (tb2 6 rfl)
  | 3, _ => exact (tb2 8 rfl)
  | 4, _ => exact (tb2 10 rfl)
  | 5, _ => exact (tb2 12 rfl)
  | 6, _ => exact (tb2 14 rfl)
  | 7, _ => exact (tb2 16 rfl)
  | 8, _ => exact (tb2 18 rfl)
  | 9, _ => exact (tb2 20 rfl)
  | 10, _ => exact (tb2 22 rfl)
  | 11, _ => exact (tb2 24 rfl)
  | 12, _ => exact (tb2 26 rfl)
  | j + 13, h => exact absurd h (by omega)
set_option maxRecDepth 100000 in
theorem luX1 : ∀ w ∈ u_ws RX1 TX1 10, w ∈ lw_tbl := by
  intro w hw
  obtain ⟨j, hj, rfl⟩ := List.mem_map.mp hw
  have hj := List.mem_range.mp hj
  match j, hj with
  | 0, _ => exact (tb1 115 rfl)
  | 1, _ => exact (tb1 117 rfl)
  | 2, _ => exact (tb1 119 rfl)
  | 3, _ => exact (tb1 121 rfl)
  | 4, _ => exact (tb1 123 rfl)
  | 5, _ => exact (tb1 125 rfl)
  | 6, _ => exact (tb1 127 rfl)
  | 7, _ => exact (tb1 129 rfl)
  | 8, _ => exact (tb1 131 rfl)
  | 9, _ => exact (tb1 133 rfl)
  | j + 10, h => exact absurd h (by omega)
set_option maxRecDepth 100000 in
theorem luX2 : ∀ w ∈ u_ws RX2 TX2 5, w ∈ lw_tbl := by
  intro w hw
  obtain ⟨j, hj, rfl⟩ := List.mem_map.mp hw
  have hj := List.mem_range.mp hj
  match j, hj with
  | 0, _ => exact (tb1 213 rfl)
  | 1, _ => exact (tb1 215 rfl)
  | 2, _ => exact (tb1 217 rfl)
  | 3, _ => exact (tb1 219 rfl)
  | 4, _ => exact (tb1 221 rfl)
  | j + 5, h => exact absurd h (by omega)
set_option maxRecDepth 100000 in
theorem luX3 : ∀ w ∈ u_ws RX3 TX3 6, w ∈ lw_tbl := by
  intro w hw
  obtain ⟨j, hj, rfl⟩ := List.mem_map.mp hw
  have hj := List.mem_range.mp hj
  match j, hj with
  | 0, _ => exact (tb1 186 rfl)
  | 1, _ => exact (tb1 188 rfl)
  | 2, _ => exact (tb1 190 rfl)
  | 3, _ => exact (tb1 192 rfl)
  | 4, _ => exact (tb1 194 rfl)
  | 5, _ => exact (tb1 196 rfl)
  | j + 6, h => exact absurd h (by omega)
set_option maxRecDepth 100000 in
theorem luX4 : ∀ w ∈ u_ws RX4 TX4 6, w ∈ lw_tbl := by
  intro w hw
  obtain ⟨j, hj, rfl⟩ := List.mem_map.mp hw
  have hj := List.mem_range.mp hj
  match j, hj with
  | 0, _ => exact (tb2 72 rfl)
  | 1, _ => exact (tb2 74 rfl)
  | 2, _ => exact (tb2 76 rfl)
  | 3, _ => exact (tb2 78 rfl)
  | 4, _ => exact (tb2 80 rfl)
  | 5, _ => exact (tb2 82 rfl)
  | j + 6, h => exact absurd h (by omega)
set_option maxRecDepth 100000 in
theorem luX5 : ∀ w ∈ u_ws RX5 TX5 6, w ∈ lw_tbl := by
  intro w hw
  obtain ⟨j, hj, rfl⟩ := List.mem_map.mp hw
  have hj := List.mem_range.mp hj
  match j, hj with
  | 0, _ => exact (tb1 71 rfl)
  | 1, _ => exact (tb1 73 rfl)
  | 2, _ => exact (tb1 75 rfl)
  | 3, _ => exact (tb1 77 rfl)
  | 4, _ => exact (tb1 79 rfl)
  | 5, _ => exact (tb1 81 rfl)
  | j + 6, h => exact absurd h (by omega)
set_option maxRecDepth 100000 in
theorem luX6 : ∀ w ∈ u_ws RX6 TX6 17, w ∈ lw_tbl := by
  intro w hw
  obtain ⟨j, hj, rfl⟩ := List.mem_map.mp hw
  have hj := List.mem_range.mp hj
  match j, hj with
  | 0, _ => exact (tb2 109 rfl)
  | 1, _ => exact (tb2 111 rfl)
  | 2, _ => exact (tb2 113 rfl)
  | 3, _ => exact (tb2 115 rfl)
  | 4, _ => exact (tb2 117 rfl)
  | 5, _ => exact (tb2 119 rfl)
  | 6, _ => exact (tb2 121 rfl)
  | 7, _ => exact (tb2 123 rfl)
  | 8, _ => exact (tb2 125 rfl)
  | 9, _ => exact (tb2 127 rfl)
  | 10, _ => exact (tb2 129 rfl)
  | 11, _ => exact (tb2 131 rfl)
  | 12, _ => exact (tb2 133 rfl)
  | 13, _ => exact (tb2 135 rfl)
  | 14, _ => exact (tb2 137 rfl)
  | 15, _ => exact (tb2 139 rfl)
  | 16, _ => exact (tb2 141 rfl)
  | j + 17, h => exact absurd h (by omega)
set_option maxRecDepth 100000 in
theorem luX7 : ∀ w ∈ u_ws RX7 TX7 4, w ∈ lw_tbl := by
  intro w hw
  obtain ⟨j, hj, rfl⟩ := List.mem_map.mp hw
  have hj := List.mem_range.mp hj
  match j, hj with
  | 0, _ => exact (tb2 47 rfl)
  | 1, _ => exact (tb2 49 rfl)
  | 2, _ => exact (tb2 51 rfl)
  | 3, _ => exact (tb2 53 rfl)
  | j + 4, h => exact absurd h (by omega)
set_option maxRecDepth 100000 in
theorem luX8 : ∀ w ∈ u_ws RX8 TX8 9, w ∈ lw_tbl := by
  intro w hw
  obtain ⟨j, hj, rfl⟩ := List.mem_map.mp hw
  have hj := List.mem_range.mp hj
  match j, hj with
  | 0, _ => exact (tb1 152 rfl)
  | 1, _ => exact (tb1 154 rfl)
  | 2, _ => exact (tb1 156 rfl)
  | 3, _ => exact (tb1 158 rfl)
  | 4, _ => exact (tb1 160 rfl)
  | 5, _ => exact (tb1 162 rfl)
  | 6, _ => exact (tb1 164 rfl)
  | 7, _ => exact (tb1 166 rfl)
  | 8, _ => exact (tb1 168 rfl)
  | j + 9, h => exact absurd h (by omega)
set_option maxRecDepth 100000 in
theorem luX9 : ∀ w ∈ u_ws RX9 TX9 7, w ∈ lw_tbl := by
  intro w hw
  obtain ⟨j, hj, rfl⟩ := List.mem_map.mp hw
  have hj := List.mem_range.mp hj
  match j, hj with
  | 0, _ => exact (tb3 119 rfl)
  | 1, _ => exact (tb3 121 rfl)
  | 2, _ => exact (tb3 123 rfl)
  | 3, _ => exact (tb3 125 rfl)
  | 4, _ => exact (tb3 127 rfl)
  | 5, _ => exact (tb3 129 rfl)
  | 6, _ => exact (tb3 131 rfl)
  | j + 7, h => exact absurd h (by omega)
set_option maxRecDepth 100000 in
theorem luX10 : ∀ w ∈ u_ws RX10 TX10 1, w ∈ lw_tbl := by
  intro w hw
  obtain ⟨j, hj, rfl⟩ := List.mem_map.mp hw
  have hj := List.mem_range.mp hj
  match j, hj with
  | 0, _ => exact (tb8 236 rfl)
  | j + 1, h => exact absurd h (by omega)
set_option maxRecDepth 100000 in
theorem luX11 : ∀ w ∈ u_ws RX11 TX11 9, w ∈ lw_tbl := by
  intro w hw
  obtain ⟨j, hj, rfl⟩ := List.mem_map.mp hw
  have hj := List.mem_range.mp hj
  match j, hj with
  | 0, _ => exact (tb8 4 rfl)
  | 1, _ => exact (tb8 6 rfl)
  | 2, _ => exact (tb8 8 rfl)
  | 3, _ => exact (tb8 10 rfl)
  | 4, _ => exact (tb8 12 rfl)
  | 5, _ => exact (tb8 14 rfl)
  | 6, _ => exact (tb8 16 rfl)
  | 7, _ => exact (tb8 18 rfl)
  | 8, _ => exact (tb8 20 rfl)
  | j + 9, h => exact absurd h (by omega)
set_option maxRecDepth 100000 in
theorem luX12 : ∀ w ∈ u_ws RX12 TX12 3, w ∈ lw_tbl := by
  intro w hw
  obtain ⟨j, hj, rfl⟩ := List.mem_map.mp hw
  have hj := List.mem_range.mp hj
  match j, hj with
  | 0, _ => exact (tb7 37 rfl)
  | 1, _ => exact (tb7 39 rfl)
  | 2, _ => exact (tb7 41 rfl)
  | j + 3, h => exact absurd h (by omega)
set_option maxRecDepth 100000 in
theorem luX13 : ∀ w ∈ u_ws RX13 TX13 4, w ∈ lw_tbl := by
  intro w hw
  obtain ⟨j, hj, rfl⟩ := List.mem_map.mp hw
  have hj := List.mem_range.mp hj
  match j, hj with
  | 0, _ => exact (tb8 210 rfl)
  | 1, _ => exact (tb8 212 rfl)
  | 2, _ => exact (tb8 214 rfl)
  | 3, _ => exact (tb8 216 rfl)
  | j + 4, h => exact absurd h (by omega)
set_option maxRecDepth 100000 in
theorem luX14 : ∀ w ∈ u_ws RX14 TX14 2, w ∈ lw_tbl := by
  intro w hw
  obtain ⟨j, hj, rfl⟩ := List.mem_map.mp hw
  have hj := List.mem_range.mp hj
  match j, hj with
  | 0, _ => exact (tb6 81 rfl)
  | 1, _ => exact (tb6 83 rfl)
  | j + 2, h => exact absurd h (by omega)
set_option maxRecDepth 100000 in
theorem luX15 : ∀ w ∈ u_ws RX15 TX15 18, w ∈ lw_tbl := by
  intro w hw
  obtain ⟨j, hj, rfl⟩ := List.mem_map.mp hw
  have hj := List.mem_range.mp hj
  match j, hj with
  | 0, _ => exact (tb9 68 rfl)
  | 1, _ => exact (tb9 70 rfl)
  | 2, _ => exact (tb9 72 rfl)
  | 3, _ => exact (tb9 74 rfl)
  | 4, _ => exact (tb9 76 rfl)
  | 5, _ => exact (tb9 78 rfl)
  | 6, _ => exact (tb9 80 rfl)
  | 7, _ => exact (tb9 82 rfl)
  | 8, _ => exact (tb9 84 rfl)
  | 9, _ => exact (tb9 86 rfl)
  | 10, _ => exact (tb9 88 rfl)
  | 11, _ => exact (tb9 90 rfl)
  | 12, _ => exact (tb9 92 rfl)
  | 13, _ => exact (tb9 94 rfl)
  | 14, _ => exact (tb9 96 rfl)
  | 15, _ => exact (tb9 98 rfl)
  | 16, _ => exact (tb9 100 rfl)
  | 17, _ => exact (tb9 102 rfl)
  | j + 18, h => exact absurd h (by omega)
set_option maxRecDepth 100000 in
theorem luX16 : ∀ w ∈ u_ws RX16 TX16 4, w ∈ lw_tbl := by
  intro w hw
  obtain ⟨j, hj, rfl⟩ := List.mem_map.mp hw
  have hj := List.mem_range.mp hj
  match j, hj with
  | 0, _ => exact (tb6 90 rfl)
  | 1, _ => exact (tb6 92 rfl)
  | 2, _ => exact (tb6 94 rfl)
  | 3, _ => exact (tb6 96 rfl)
  | j + 4, h => exact absurd h (by omega)
def tbk (k : Nat) : List Cond := [k2_sels lw_privs, tables_1_1, tables_1_2, tables_1_3, tables_1_4, tables_1_5, tables_1_6, tables_1_7, tables_1_8, tables_1_9, tables_1_10].getD k []
theorem tbk_sub : ∀ (k : Nat) {w : Cond}, w ∈ tbk k → w ∈ lw_tbl := by
  intro k w h
  obtain ⟨i, e⟩ := List.getElem?_of_mem h
  match k, e with
  | 0, e => exact tb0 i e
  | 1, e => exact tb1 i e
  | 2, e => exact tb2 i e
  | 3, e => exact tb3 i e
  | 4, e => exact tb4 i e
  | 5, e => exact tb5 i e
  | 6, e => exact tb6 i e
  | 7, e => exact tb7 i e
  | 8, e => exact tb8 i e
  | 9, e => exact tb9 i e
  | 10, e => exact tb10 i e
  | k + 11, e => exact nomatch (show (none : Option Cond) = some w from e)
theorem lf {L : List Cond} (ps : List (Nat × Nat)) (h : ps.filterMap (fun q => (tbk q.1)[q.2]?) = L) : ∀ w ∈ L, w ∈ lw_tbl := by
  subst h
  intro w hw
  obtain ⟨q, -, hq⟩ := List.mem_filterMap.mp hw
  exact tbk_sub q.1 (List.mem_of_getElem? hq)
set_option maxRecDepth 100000 in
theorem lx0 : ∀ w ∈ vxG "java/lang/IllegalArgumentException" 58, w ∈ lw_tbl := lf [(1, 19), (3, 181), (3, 190), (3, 194), (3, 197), (3, 199), (3, 182), (3, 183), (1, 48), (1, 49), (3, 184), (3, 189), (3, 195), (3, 215), (3, 171), (3, 216), (3, 173), (3, 217), (3, 175), (3, 185), (3, 187), (3, 177), (3, 211), (3, 212), (3, 214), (3, 177), (3, 202), (3, 203), (3, 204), (3, 205), (3, 205), (3, 206), (3, 207), (3, 208), (3, 208), (3, 209), (3, 210), (3, 211), (3, 201), (3, 160), (3, 168), (3, 169), (3, 170), (3, 172), (3, 174), (3, 176), (3, 180), (3, 179), (3, 178)] (by decide +kernel)
set_option maxRecDepth 100000 in
theorem lx1 : ∀ w ∈ vxG "java/lang/IllegalStateException" 68, w ∈ lw_tbl := lf [(1, 19), (3, 181), (3, 190), (3, 194), (3, 197), (3, 199), (3, 182), (3, 183), (1, 48), (1, 49), (3, 184), (3, 189), (3, 195), (3, 215), (3, 171), (3, 216), (3, 173), (3, 217), (3, 175), (3, 185), (3, 187), (3, 177), (3, 211), (3, 212), (3, 214), (3, 177), (5, 130), (5, 131), (5, 132), (3, 205), (3, 205), (3, 206), (3, 207), (3, 208), (3, 208), (3, 209), (3, 210), (3, 211), (5, 129), (5, 120), (5, 122), (3, 192), (5, 123), (5, 124), (5, 125), (5, 126), (3, 180), (3, 179), (5, 127)] (by decide +kernel)
set_option maxRecDepth 100000 in
theorem lx2 : ∀ w ∈ vxG "java/lang/IndexOutOfBoundsException" 105, w ∈ lw_tbl := lf [(1, 19), (3, 181), (3, 190), (3, 194), (3, 197), (3, 199), (3, 182), (3, 183), (1, 48), (1, 49), (3, 184), (3, 189), (3, 195), (3, 215), (3, 171), (3, 216), (3, 173), (3, 217), (3, 175), (3, 185), (3, 187), (3, 177), (3, 211), (3, 212), (3, 214), (3, 177), (4, 28), (4, 29), (4, 30), (3, 205), (3, 205), (3, 206), (3, 207), (3, 208), (3, 208), (3, 209), (3, 210), (3, 211), (4, 27), (4, 18), (4, 20), (3, 193), (4, 21), (4, 22), (4, 23), (4, 24), (3, 180), (3, 179), (4, 25)] (by decide +kernel)
theorem lwC_tbl : ∀ w ∈ bwC, w ∈ lw_tbl := by
  unfold bwC
  exact List.forall_mem_append.mpr ⟨lC0, List.forall_mem_append.mpr ⟨lC1, List.forall_mem_append.mpr ⟨lC2, List.forall_mem_append.mpr ⟨lC3, List.forall_mem_append.mpr ⟨lC4, List.forall_mem_append.mpr ⟨lC5, List.forall_mem_append.mpr ⟨lC6, List.forall_mem_append.mpr ⟨lC7, List.forall_mem_append.mpr ⟨lC8, List.forall_mem_append.mpr ⟨lC9, List.forall_mem_append.mpr ⟨lC10, List.forall_mem_append.mpr ⟨lC11, List.forall_mem_append.mpr ⟨lC12, List.forall_mem_append.mpr ⟨lC13, List.forall_mem_append.mpr ⟨luX0, List.forall_mem_append.mpr ⟨luX1, List.forall_mem_append.mpr ⟨luX2, List.forall_mem_append.mpr ⟨luX3, List.forall_mem_append.mpr ⟨luX4, List.forall_mem_append.mpr ⟨luX5, List.forall_mem_append.mpr ⟨luX6, List.forall_mem_append.mpr ⟨luX7, List.forall_mem_append.mpr ⟨luX8, luX9⟩⟩⟩⟩⟩⟩⟩⟩⟩⟩⟩⟩⟩⟩⟩⟩⟩⟩⟩⟩⟩⟩⟩
theorem lwA_tbl : ∀ w ∈ bwA, w ∈ lw_tbl := by
  unfold bwA
  exact List.forall_mem_append.mpr ⟨lwC_tbl, List.forall_mem_append.mpr ⟨lA0, List.forall_mem_append.mpr ⟨lA1, List.forall_mem_append.mpr ⟨lA2, List.forall_mem_append.mpr ⟨lA3, List.forall_mem_append.mpr ⟨lA4, List.forall_mem_append.mpr ⟨lA5, List.forall_mem_append.mpr ⟨lA6, List.forall_mem_append.mpr ⟨lA7, List.forall_mem_append.mpr ⟨lA8, List.forall_mem_append.mpr ⟨lA9, List.forall_mem_append.mpr ⟨lA10, List.forall_mem_append.mpr ⟨lA11, List.forall_mem_append.mpr ⟨lA12, List.forall_mem_append.mpr ⟨lA13, List.forall_mem_append.mpr ⟨lA14, List.forall_mem_append.mpr ⟨lA15, List.forall_mem_append.mpr ⟨lA16, List.forall_mem_append.mpr ⟨lA17, List.forall_mem_append.mpr ⟨luX10, List.forall_mem_append.mpr ⟨luX11, List.forall_mem_append.mpr ⟨luX12, List.forall_mem_append.mpr ⟨luX13, List.forall_mem_append.mpr ⟨luX14, List.forall_mem_append.mpr ⟨luX15, List.forall_mem_append.mpr ⟨luX16, List.forall_mem_append.mpr ⟨luJ6, List.forall_mem_append.mpr ⟨luJx35411, List.forall_mem_append.mpr ⟨luJx4a65c, List.forall_mem_append.mpr ⟨lx0, List.forall_mem_append.mpr ⟨lx1, lx2⟩⟩⟩⟩⟩⟩⟩⟩⟩⟩⟩⟩⟩⟩⟩⟩⟩⟩⟩⟩⟩⟩⟩⟩⟩⟩⟩⟩⟩⟩⟩
