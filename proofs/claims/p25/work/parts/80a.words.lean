/-! the words are the tables' -/
theorem tb0 (i : Nat) {w : Cond} (e : (k2_sels lw_privs)[i]? = some w) : w ∈ lw_tbl := List.mem_append_left _ (List.mem_of_getElem? e)
theorem tb1 (i : Nat) {w : Cond} (e : tables_1_1[i]? = some w) : w ∈ lw_tbl := by
  have h := List.mem_of_getElem? e
  refine List.mem_append_right _ ?_
  unfold tables_1
  exact List.mem_append_left _ h
theorem tb2 (i : Nat) {w : Cond} (e : tables_1_2[i]? = some w) : w ∈ lw_tbl := by
  have h := List.mem_of_getElem? e
  refine List.mem_append_right _ ?_
  unfold tables_1
  exact List.mem_append_right _ (List.mem_append_left _ h)
theorem tb3 (i : Nat) {w : Cond} (e : tables_1_3[i]? = some w) : w ∈ lw_tbl := by
  have h := List.mem_of_getElem? e
  refine List.mem_append_right _ ?_
  unfold tables_1
  exact List.mem_append_right _ (List.mem_append_right _ (List.mem_append_left _ h))
theorem tb4 (i : Nat) {w : Cond} (e : tables_1_4[i]? = some w) : w ∈ lw_tbl := by
  have h := List.mem_of_getElem? e
  refine List.mem_append_right _ ?_
  unfold tables_1
  exact List.mem_append_right _ (List.mem_append_right _ (List.mem_append_right _ (List.mem_append_left _ h)))
theorem tb5 (i : Nat) {w : Cond} (e : tables_1_5[i]? = some w) : w ∈ lw_tbl := by
  have h := List.mem_of_getElem? e
  refine List.mem_append_right _ ?_
  unfold tables_1
  exact List.mem_append_right _ (List.mem_append_right _ (List.mem_append_right _ (List.mem_append_right _ (List.mem_append_left _ h))))
theorem tb6 (i : Nat) {w : Cond} (e : tables_1_6[i]? = some w) : w ∈ lw_tbl := by
  have h := List.mem_of_getElem? e
  refine List.mem_append_right _ ?_
  unfold tables_1
  exact List.mem_append_right _ (List.mem_append_right _ (List.mem_append_right _ (List.mem_append_right _ (List.mem_append_right _ (h)))))
set_option maxRecDepth 100000 in
theorem lC0 : ∀ w ∈ bwC0, w ∈ lw_tbl := by
  unfold bwC0
  exact List.forall_mem_cons.mpr ⟨(tb1 75 rfl), List.forall_mem_cons.mpr ⟨(tb1 76 rfl), List.forall_mem_cons.mpr ⟨(tb1 28 rfl), List.forall_mem_cons.mpr ⟨(tb1 29 rfl), List.forall_mem_cons.mpr ⟨(tb1 77 rfl), List.forall_mem_cons.mpr ⟨(tb1 64 rfl), List.forall_mem_cons.mpr ⟨(tb1 78 rfl), List.forall_mem_cons.mpr ⟨(tb1 80 rfl), List.forall_mem_cons.mpr ⟨(tb1 81 rfl), List.forall_mem_cons.mpr ⟨(tb1 83 rfl), List.forall_mem_cons.mpr ⟨(tb1 85 rfl), List.forall_mem_cons.mpr ⟨(tb1 87 rfl), List.forall_mem_cons.mpr ⟨(tb1 89 rfl), List.forall_mem_cons.mpr ⟨(tb1 91 rfl), List.forall_mem_cons.mpr ⟨(tb1 93 rfl), List.forall_mem_cons.mpr ⟨(tb1 120 rfl), List.forall_mem_cons.mpr ⟨(tb1 121 rfl), List.forall_mem_cons.mpr ⟨(tb1 122 rfl), List.forall_mem_cons.mpr ⟨(tb1 123 rfl), List.forall_mem_cons.mpr ⟨(tb1 124 rfl), List.forall_mem_cons.mpr ⟨(tb1 125 rfl), List.forall_mem_cons.mpr ⟨(tb1 126 rfl), List.forall_mem_cons.mpr ⟨(tb1 127 rfl), List.forall_mem_cons.mpr ⟨(tb1 128 rfl), List.forall_mem_cons.mpr ⟨(tb1 129 rfl), List.forall_mem_cons.mpr ⟨(tb1 130 rfl), List.forall_mem_cons.mpr ⟨(tb1 155 rfl), List.forall_mem_cons.mpr ⟨(tb1 156 rfl), List.forall_mem_cons.mpr ⟨(tb1 157 rfl), List.forall_mem_cons.mpr ⟨(tb1 158 rfl), List.forall_mem_cons.mpr ⟨(tb1 159 rfl), List.forall_mem_cons.mpr ⟨(tb1 179 rfl), List.forall_mem_cons.mpr ⟨(tb1 160 rfl), List.forall_mem_cons.mpr ⟨(tb1 161 rfl), List.forall_mem_cons.mpr ⟨(tb1 163 rfl), List.forall_mem_cons.mpr ⟨(tb1 184 rfl), List.forall_mem_cons.mpr ⟨(tb1 185 rfl), List.forall_mem_cons.mpr ⟨(tb1 186 rfl), List.forall_mem_cons.mpr ⟨(tb1 187 rfl), List.forall_mem_cons.mpr ⟨(tb1 188 rfl), List.forall_mem_cons.mpr ⟨(tb1 189 rfl), List.forall_mem_cons.mpr ⟨(tb1 190 rfl), List.forall_mem_cons.mpr ⟨(tb1 70 rfl), List.forall_mem_cons.mpr ⟨(tb1 204 rfl), List.forall_mem_cons.mpr ⟨(tb1 71 rfl), List.forall_mem_cons.mpr ⟨(tb1 72 rfl), List.forall_mem_cons.mpr ⟨(tb1 4 rfl), List.forall_mem_cons.mpr ⟨(tb1 205 rfl), List.forall_mem_cons.mpr ⟨(tb1 116 rfl), List.forall_mem_cons.mpr ⟨(tb1 117 rfl), List.forall_mem_cons.mpr ⟨(tb1 5 rfl), List.forall_mem_cons.mpr ⟨(tb1 207 rfl), List.forall_mem_cons.mpr ⟨(tb1 151 rfl), List.forall_mem_cons.mpr ⟨(tb1 152 rfl), List.forall_mem_cons.mpr ⟨(tb1 6 rfl), List.forall_mem_cons.mpr ⟨(tb1 209 rfl), List.forall_mem_cons.mpr ⟨(tb1 180 rfl), List.forall_mem_cons.mpr ⟨(tb1 181 rfl), List.forall_mem_cons.mpr ⟨(tb1 7 rfl), List.forall_mem_cons.mpr ⟨(tb1 211 rfl), (fun _ h => nomatch h)⟩⟩⟩⟩⟩⟩⟩⟩⟩⟩⟩⟩⟩⟩⟩⟩⟩⟩⟩⟩⟩⟩⟩⟩⟩⟩⟩⟩⟩⟩⟩⟩⟩⟩⟩⟩⟩⟩⟩⟩⟩⟩⟩⟩⟩⟩⟩⟩⟩⟩⟩⟩⟩⟩⟩⟩⟩⟩⟩⟩
set_option maxRecDepth 100000 in
theorem lC1 : ∀ w ∈ bwC1, w ∈ lw_tbl := by
  unfold bwC1
  exact List.forall_mem_cons.mpr ⟨(tb1 213 rfl), List.forall_mem_cons.mpr ⟨(tb1 214 rfl), List.forall_mem_cons.mpr ⟨(tb1 215 rfl), List.forall_mem_cons.mpr ⟨(tb1 216 rfl), List.forall_mem_cons.mpr ⟨(tb1 217 rfl), List.forall_mem_cons.mpr ⟨(tb1 218 rfl), List.forall_mem_cons.mpr ⟨(tb1 219 rfl), List.forall_mem_cons.mpr ⟨(tb1 220 rfl), List.forall_mem_cons.mpr ⟨(tb1 73 rfl), List.forall_mem_cons.mpr ⟨(tb1 74 rfl), List.forall_mem_cons.mpr ⟨(tb1 118 rfl), List.forall_mem_cons.mpr ⟨(tb1 119 rfl), List.forall_mem_cons.mpr ⟨(tb1 153 rfl), List.forall_mem_cons.mpr ⟨(tb1 154 rfl), List.forall_mem_cons.mpr ⟨(tb1 182 rfl), List.forall_mem_cons.mpr ⟨(tb1 183 rfl), List.forall_mem_cons.mpr ⟨(tb1 69 rfl), List.forall_mem_cons.mpr ⟨(tb2 134 rfl), List.forall_mem_cons.mpr ⟨(tb2 131 rfl), List.forall_mem_cons.mpr ⟨(tb1 191 rfl), List.forall_mem_cons.mpr ⟨(tb2 132 rfl), List.forall_mem_cons.mpr ⟨(tb2 133 rfl), List.forall_mem_cons.mpr ⟨(tb1 11 rfl), List.forall_mem_cons.mpr ⟨(tb2 150 rfl), List.forall_mem_cons.mpr ⟨(tb1 44 rfl), List.forall_mem_cons.mpr ⟨(tb2 146 rfl), List.forall_mem_cons.mpr ⟨(tb1 37 rfl), List.forall_mem_cons.mpr ⟨(tb2 147 rfl), List.forall_mem_cons.mpr ⟨(tb2 148 rfl), List.forall_mem_cons.mpr ⟨(tb2 149 rfl), List.forall_mem_cons.mpr ⟨(tb1 2 rfl), List.forall_mem_cons.mpr ⟨(tb2 154 rfl), List.forall_mem_cons.mpr ⟨(tb1 39 rfl), List.forall_mem_cons.mpr ⟨(tb2 158 rfl), List.forall_mem_cons.mpr ⟨(tb1 38 rfl), List.forall_mem_cons.mpr ⟨(tb2 142 rfl), List.forall_mem_cons.mpr ⟨(tb2 143 rfl), List.forall_mem_cons.mpr ⟨(tb2 144 rfl), List.forall_mem_cons.mpr ⟨(tb2 145 rfl), List.forall_mem_cons.mpr ⟨(tb2 151 rfl), List.forall_mem_cons.mpr ⟨(tb2 152 rfl), List.forall_mem_cons.mpr ⟨(tb2 153 rfl), List.forall_mem_cons.mpr ⟨(tb2 155 rfl), List.forall_mem_cons.mpr ⟨(tb2 156 rfl), List.forall_mem_cons.mpr ⟨(tb2 157 rfl), List.forall_mem_cons.mpr ⟨(tb2 162 rfl), List.forall_mem_cons.mpr ⟨(tb2 170 rfl), List.forall_mem_cons.mpr ⟨(tb1 40 rfl), List.forall_mem_cons.mpr ⟨(tb1 36 rfl), List.forall_mem_cons.mpr ⟨(tb2 166 rfl), List.forall_mem_cons.mpr ⟨(tb2 167 rfl), List.forall_mem_cons.mpr ⟨(tb2 168 rfl), List.forall_mem_cons.mpr ⟨(tb2 169 rfl), List.forall_mem_cons.mpr ⟨(tb2 174 rfl), List.forall_mem_cons.mpr ⟨(tb2 182 rfl), List.forall_mem_cons.mpr ⟨(tb2 178 rfl), List.forall_mem_cons.mpr ⟨(tb2 179 rfl), List.forall_mem_cons.mpr ⟨(tb2 181 rfl), List.forall_mem_cons.mpr ⟨(tb1 1 rfl), List.forall_mem_cons.mpr ⟨(tb1 45 rfl), (fun _ h => nomatch h)⟩⟩⟩⟩⟩⟩⟩⟩⟩⟩⟩⟩⟩⟩⟩⟩⟩⟩⟩⟩⟩⟩⟩⟩⟩⟩⟩⟩⟩⟩⟩⟩⟩⟩⟩⟩⟩⟩⟩⟩⟩⟩⟩⟩⟩⟩⟩⟩⟩⟩⟩⟩⟩⟩⟩⟩⟩⟩⟩⟩
set_option maxRecDepth 100000 in
theorem lC2 : ∀ w ∈ bwC2, w ∈ lw_tbl := by
  unfold bwC2
  exact List.forall_mem_cons.mpr ⟨(tb2 139 rfl), List.forall_mem_cons.mpr ⟨(tb2 141 rfl), List.forall_mem_cons.mpr ⟨(tb0 1 (by decide +kernel)), List.forall_mem_cons.mpr ⟨(tb2 159 rfl), List.forall_mem_cons.mpr ⟨(tb2 161 rfl), List.forall_mem_cons.mpr ⟨(tb0 2 (by decide +kernel)), List.forall_mem_cons.mpr ⟨(tb2 163 rfl), List.forall_mem_cons.mpr ⟨(tb2 164 rfl), List.forall_mem_cons.mpr ⟨(tb2 165 rfl), List.forall_mem_cons.mpr ⟨(tb2 171 rfl), List.forall_mem_cons.mpr ⟨(tb2 173 rfl), List.forall_mem_cons.mpr ⟨(tb0 3 (by decide +kernel)), List.forall_mem_cons.mpr ⟨(tb2 175 rfl), List.forall_mem_cons.mpr ⟨(tb2 177 rfl), List.forall_mem_cons.mpr ⟨(tb0 4 (by decide +kernel)), List.forall_mem_cons.mpr ⟨(tb2 138 rfl), List.forall_mem_cons.mpr ⟨(tb2 190 rfl), List.forall_mem_cons.mpr ⟨(tb2 193 rfl), List.forall_mem_cons.mpr ⟨(tb1 46 rfl), List.forall_mem_cons.mpr ⟨(tb2 187 rfl), List.forall_mem_cons.mpr ⟨(tb2 189 rfl), List.forall_mem_cons.mpr ⟨(tb2 192 rfl), List.forall_mem_cons.mpr ⟨(tb2 194 rfl), List.forall_mem_cons.mpr ⟨(tb2 186 rfl), List.forall_mem_cons.mpr ⟨(tb2 209 rfl), List.forall_mem_cons.mpr ⟨(tb2 204 rfl), List.forall_mem_cons.mpr ⟨(tb2 206 rfl), List.forall_mem_cons.mpr ⟨(tb2 208 rfl), List.forall_mem_cons.mpr ⟨(tb0 6 (by decide +kernel)), List.forall_mem_cons.mpr ⟨(tb2 203 rfl), List.forall_mem_cons.mpr ⟨(tb2 213 rfl), List.forall_mem_cons.mpr ⟨(tb1 50 rfl), List.forall_mem_cons.mpr ⟨(tb2 199 rfl), List.forall_mem_cons.mpr ⟨(tb2 200 rfl), List.forall_mem_cons.mpr ⟨(tb2 202 rfl), List.forall_mem_cons.mpr ⟨(tb0 5 (by decide +kernel)), List.forall_mem_cons.mpr ⟨(tb2 210 rfl), List.forall_mem_cons.mpr ⟨(tb2 212 rfl), List.forall_mem_cons.mpr ⟨(tb0 7 (by decide +kernel)), List.forall_mem_cons.mpr ⟨(tb2 198 rfl), List.forall_mem_cons.mpr ⟨(tb2 217 rfl), List.forall_mem_cons.mpr ⟨(tb2 221 rfl), List.forall_mem_cons.mpr ⟨(tb2 230 rfl), List.forall_mem_cons.mpr ⟨(tb2 231 rfl), List.forall_mem_cons.mpr ⟨(tb3 5 rfl), List.forall_mem_cons.mpr ⟨(tb3 0 rfl), List.forall_mem_cons.mpr ⟨(tb1 82 rfl), List.forall_mem_cons.mpr ⟨(tb1 162 rfl), List.forall_mem_cons.mpr ⟨(tb1 79 rfl), List.forall_mem_cons.mpr ⟨(tb3 2 rfl), List.forall_mem_cons.mpr ⟨(tb3 3 rfl), List.forall_mem_cons.mpr ⟨(tb3 4 rfl), List.forall_mem_cons.mpr ⟨(tb1 3 rfl), List.forall_mem_cons.mpr ⟨(tb3 9 rfl), List.forall_mem_cons.mpr ⟨(tb3 10 rfl), List.forall_mem_cons.mpr ⟨(tb2 215 rfl), List.forall_mem_cons.mpr ⟨(tb2 216 rfl), List.forall_mem_cons.mpr ⟨(tb3 11 rfl), List.forall_mem_cons.mpr ⟨(tb3 19 rfl), List.forall_mem_cons.mpr ⟨(tb3 15 rfl), (fun _ h => nomatch h)⟩⟩⟩⟩⟩⟩⟩⟩⟩⟩⟩⟩⟩⟩⟩⟩⟩⟩⟩⟩⟩⟩⟩⟩⟩⟩⟩⟩⟩⟩⟩⟩⟩⟩⟩⟩⟩⟩⟩⟩⟩⟩⟩⟩⟩⟩⟩⟩⟩⟩⟩⟩⟩⟩⟩⟩⟩⟩⟩⟩
set_option maxRecDepth 100000 in
theorem lC3 : ∀ w ∈ bwC3, w ∈ lw_tbl := by
  unfold bwC3
  exact List.forall_mem_cons.mpr ⟨(tb1 42 rfl), List.forall_mem_cons.mpr ⟨(tb3 16 rfl), List.forall_mem_cons.mpr ⟨(tb3 17 rfl), List.forall_mem_cons.mpr ⟨(tb3 18 rfl), List.forall_mem_cons.mpr ⟨(tb3 23 rfl), List.forall_mem_cons.mpr ⟨(tb1 88 rfl), List.forall_mem_cons.mpr ⟨(tb1 90 rfl), List.forall_mem_cons.mpr ⟨(tb1 94 rfl), List.forall_mem_cons.mpr ⟨(tb2 237 rfl), List.forall_mem_cons.mpr ⟨(tb2 239 rfl), List.forall_mem_cons.mpr ⟨(tb0 10 (by decide +kernel)), List.forall_mem_cons.mpr ⟨(tb3 6 rfl), List.forall_mem_cons.mpr ⟨(tb3 7 rfl), List.forall_mem_cons.mpr ⟨(tb3 8 rfl), List.forall_mem_cons.mpr ⟨(tb3 12 rfl), List.forall_mem_cons.mpr ⟨(tb3 14 rfl), List.forall_mem_cons.mpr ⟨(tb0 11 (by decide +kernel)), List.forall_mem_cons.mpr ⟨(tb3 20 rfl), List.forall_mem_cons.mpr ⟨(tb3 21 rfl), List.forall_mem_cons.mpr ⟨(tb3 22 rfl), List.forall_mem_cons.mpr ⟨(tb2 236 rfl), List.forall_mem_cons.mpr ⟨(tb2 232 rfl), List.forall_mem_cons.mpr ⟨(tb1 47 rfl), List.forall_mem_cons.mpr ⟨(tb2 227 rfl), List.forall_mem_cons.mpr ⟨(tb2 228 rfl), List.forall_mem_cons.mpr ⟨(tb2 229 rfl), List.forall_mem_cons.mpr ⟨(tb2 233 rfl), List.forall_mem_cons.mpr ⟨(tb2 235 rfl), List.forall_mem_cons.mpr ⟨(tb0 9 (by decide +kernel)), List.forall_mem_cons.mpr ⟨(tb2 226 rfl), List.forall_mem_cons.mpr ⟨(tb3 35 rfl), List.forall_mem_cons.mpr ⟨(tb3 36 rfl), List.forall_mem_cons.mpr ⟨(tb3 32 rfl), List.forall_mem_cons.mpr ⟨(tb3 33 rfl), List.forall_mem_cons.mpr ⟨(tb3 34 rfl), List.forall_mem_cons.mpr ⟨(tb3 31 rfl), List.forall_mem_cons.mpr ⟨(tb1 92 rfl), List.forall_mem_cons.mpr ⟨(tb3 28 rfl), List.forall_mem_cons.mpr ⟨(tb3 30 rfl), List.forall_mem_cons.mpr ⟨(tb0 13 (by decide +kernel)), List.forall_mem_cons.mpr ⟨(tb3 27 rfl), List.forall_mem_cons.mpr ⟨(tb3 43 rfl), List.forall_mem_cons.mpr ⟨(tb3 44 rfl), List.forall_mem_cons.mpr ⟨(tb3 48 rfl), List.forall_mem_cons.mpr ⟨(tb3 52 rfl), List.forall_mem_cons.mpr ⟨(tb3 60 rfl), List.forall_mem_cons.mpr ⟨(tb3 68 rfl), List.forall_mem_cons.mpr ⟨(tb3 64 rfl), List.forall_mem_cons.mpr ⟨(tb3 65 rfl), List.forall_mem_cons.mpr ⟨(tb3 66 rfl), List.forall_mem_cons.mpr ⟨(tb3 67 rfl), List.forall_mem_cons.mpr ⟨(tb3 71 rfl), List.forall_mem_cons.mpr ⟨(tb3 75 rfl), List.forall_mem_cons.mpr ⟨(tb1 164 rfl), List.forall_mem_cons.mpr ⟨(tb3 57 rfl), List.forall_mem_cons.mpr ⟨(tb3 59 rfl), List.forall_mem_cons.mpr ⟨(tb0 15 (by decide +kernel)), List.forall_mem_cons.mpr ⟨(tb3 61 rfl), List.forall_mem_cons.mpr ⟨(tb3 62 rfl), List.forall_mem_cons.mpr ⟨(tb3 63 rfl), (fun _ h => nomatch h)⟩⟩⟩⟩⟩⟩⟩⟩⟩⟩⟩⟩⟩⟩⟩⟩⟩⟩⟩⟩⟩⟩⟩⟩⟩⟩⟩⟩⟩⟩⟩⟩⟩⟩⟩⟩⟩⟩⟩⟩⟩⟩⟩⟩⟩⟩⟩⟩⟩⟩⟩⟩⟩⟩⟩⟩⟩⟩⟩⟩
set_option maxRecDepth 100000 in
theorem lC4 : ∀ w ∈ bwC4, w ∈ lw_tbl := by
  unfold bwC4
  exact List.forall_mem_cons.mpr ⟨(tb3 70 rfl), List.forall_mem_cons.mpr ⟨(tb3 72 rfl), List.forall_mem_cons.mpr ⟨(tb3 73 rfl), List.forall_mem_cons.mpr ⟨(tb3 74 rfl), List.forall_mem_cons.mpr ⟨(tb3 56 rfl), List.forall_mem_cons.mpr ⟨(tb1 84 rfl), List.forall_mem_cons.mpr ⟨(tb1 86 rfl), List.forall_mem_cons.mpr ⟨(tb3 41 rfl), List.forall_mem_cons.mpr ⟨(tb3 42 rfl), List.forall_mem_cons.mpr ⟨(tb1 12 rfl), List.forall_mem_cons.mpr ⟨(tb2 218 rfl), List.forall_mem_cons.mpr ⟨(tb2 219 rfl), List.forall_mem_cons.mpr ⟨(tb2 220 rfl), List.forall_mem_cons.mpr ⟨(tb3 45 rfl), List.forall_mem_cons.mpr ⟨(tb3 46 rfl), List.forall_mem_cons.mpr ⟨(tb3 47 rfl), List.forall_mem_cons.mpr ⟨(tb3 49 rfl), List.forall_mem_cons.mpr ⟨(tb3 50 rfl), List.forall_mem_cons.mpr ⟨(tb3 51 rfl), List.forall_mem_cons.mpr ⟨(tb3 53 rfl), List.forall_mem_cons.mpr ⟨(tb3 54 rfl), List.forall_mem_cons.mpr ⟨(tb3 55 rfl), List.forall_mem_cons.mpr ⟨(tb3 40 rfl), List.forall_mem_cons.mpr ⟨(tb3 84 rfl), List.forall_mem_cons.mpr ⟨(tb3 91 rfl), List.forall_mem_cons.mpr ⟨(tb3 88 rfl), List.forall_mem_cons.mpr ⟨(tb3 90 rfl), List.forall_mem_cons.mpr ⟨(tb3 80 rfl), List.forall_mem_cons.mpr ⟨(tb3 81 rfl), List.forall_mem_cons.mpr ⟨(tb3 83 rfl), List.forall_mem_cons.mpr ⟨(tb0 17 (by decide +kernel)), List.forall_mem_cons.mpr ⟨(tb3 85 rfl), List.forall_mem_cons.mpr ⟨(tb3 86 rfl), List.forall_mem_cons.mpr ⟨(tb3 87 rfl), List.forall_mem_cons.mpr ⟨(tb3 79 rfl), List.forall_mem_cons.mpr ⟨(tb1 131 rfl), List.forall_mem_cons.mpr ⟨(tb2 128 rfl), List.forall_mem_cons.mpr ⟨(tb2 130 rfl), List.forall_mem_cons.mpr ⟨(tb0 0 (by decide +kernel)), List.forall_mem_cons.mpr ⟨(tb2 135 rfl), List.forall_mem_cons.mpr ⟨(tb2 136 rfl), List.forall_mem_cons.mpr ⟨(tb2 137 rfl), List.forall_mem_cons.mpr ⟨(tb2 183 rfl), List.forall_mem_cons.mpr ⟨(tb2 184 rfl), List.forall_mem_cons.mpr ⟨(tb2 185 rfl), List.forall_mem_cons.mpr ⟨(tb2 195 rfl), List.forall_mem_cons.mpr ⟨(tb2 196 rfl), List.forall_mem_cons.mpr ⟨(tb2 197 rfl), List.forall_mem_cons.mpr ⟨(tb2 214 rfl), List.forall_mem_cons.mpr ⟨(tb2 223 rfl), List.forall_mem_cons.mpr ⟨(tb2 225 rfl), List.forall_mem_cons.mpr ⟨(tb0 8 (by decide +kernel)), List.forall_mem_cons.mpr ⟨(tb3 24 rfl), List.forall_mem_cons.mpr ⟨(tb3 26 rfl), List.forall_mem_cons.mpr ⟨(tb0 12 (by decide +kernel)), List.forall_mem_cons.mpr ⟨(tb3 37 rfl), List.forall_mem_cons.mpr ⟨(tb3 39 rfl), List.forall_mem_cons.mpr ⟨(tb0 14 (by decide +kernel)), List.forall_mem_cons.mpr ⟨(tb3 76 rfl), List.forall_mem_cons.mpr ⟨(tb3 78 rfl), (fun _ h => nomatch h)⟩⟩⟩⟩⟩⟩⟩⟩⟩⟩⟩⟩⟩⟩⟩⟩⟩⟩⟩⟩⟩⟩⟩⟩⟩⟩⟩⟩⟩⟩⟩⟩⟩⟩⟩⟩⟩⟩⟩⟩⟩⟩⟩⟩⟩⟩⟩⟩⟩⟩⟩⟩⟩⟩⟩⟩⟩⟩⟩⟩
set_option maxRecDepth 100000 in
theorem lC5 : ∀ w ∈ bwC5, w ∈ lw_tbl := by
  unfold bwC5
  exact List.forall_mem_cons.mpr ⟨(tb0 16 (by decide +kernel)), List.forall_mem_cons.mpr ⟨(tb2 127 rfl), List.forall_mem_cons.mpr ⟨(tb5 107 rfl), List.forall_mem_cons.mpr ⟨(tb5 108 rfl), List.forall_mem_cons.mpr ⟨(tb4 197 rfl), List.forall_mem_cons.mpr ⟨(tb5 65 rfl), List.forall_mem_cons.mpr ⟨(tb5 32 rfl), List.forall_mem_cons.mpr ⟨(tb5 31 rfl), List.forall_mem_cons.mpr ⟨(tb5 33 rfl), List.forall_mem_cons.mpr ⟨(tb4 193 rfl), List.forall_mem_cons.mpr ⟨(tb4 194 rfl), List.forall_mem_cons.mpr ⟨(tb4 195 rfl), List.forall_mem_cons.mpr ⟨(tb4 196 rfl), List.forall_mem_cons.mpr ⟨(tb4 186 rfl), List.forall_mem_cons.mpr ⟨(tb4 187 rfl), List.forall_mem_cons.mpr ⟨(tb4 188 rfl), List.forall_mem_cons.mpr ⟨(tb4 189 rfl), List.forall_mem_cons.mpr ⟨(tb4 201 rfl), List.forall_mem_cons.mpr ⟨(tb4 203 rfl), List.forall_mem_cons.mpr ⟨(tb4 204 rfl), List.forall_mem_cons.mpr ⟨(tb1 20 rfl), List.forall_mem_cons.mpr ⟨(tb4 205 rfl), List.forall_mem_cons.mpr ⟨(tb4 202 rfl), List.forall_mem_cons.mpr ⟨(tb4 185 rfl), List.forall_mem_cons.mpr ⟨(tb5 40 rfl), List.forall_mem_cons.mpr ⟨(tb5 37 rfl), List.forall_mem_cons.mpr ⟨(tb5 38 rfl), List.forall_mem_cons.mpr ⟨(tb5 39 rfl), List.forall_mem_cons.mpr ⟨(tb5 44 rfl), List.forall_mem_cons.mpr ⟨(tb5 116 rfl), List.forall_mem_cons.mpr ⟨(tb5 121 rfl), List.forall_mem_cons.mpr ⟨(tb5 122 rfl), List.forall_mem_cons.mpr ⟨(tb5 114 rfl), List.forall_mem_cons.mpr ⟨(tb5 115 rfl), List.forall_mem_cons.mpr ⟨(tb4 239 rfl), List.forall_mem_cons.mpr ⟨(tb5 101 rfl), List.forall_mem_cons.mpr ⟨(tb2 40 rfl), List.forall_mem_cons.mpr ⟨(tb2 41 rfl), List.forall_mem_cons.mpr ⟨(tb2 42 rfl), List.forall_mem_cons.mpr ⟨(tb2 43 rfl), List.forall_mem_cons.mpr ⟨(tb2 44 rfl), List.forall_mem_cons.mpr ⟨(tb2 45 rfl), List.forall_mem_cons.mpr ⟨(tb2 46 rfl), List.forall_mem_cons.mpr ⟨(tb2 49 rfl), List.forall_mem_cons.mpr ⟨(tb4 17 rfl), List.forall_mem_cons.mpr ⟨(tb4 81 rfl), List.forall_mem_cons.mpr ⟨(tb4 35 rfl), List.forall_mem_cons.mpr ⟨(tb4 97 rfl), List.forall_mem_cons.mpr ⟨(tb4 78 rfl), List.forall_mem_cons.mpr ⟨(tb4 79 rfl), List.forall_mem_cons.mpr ⟨(tb4 80 rfl), List.forall_mem_cons.mpr ⟨(tb1 10 rfl), List.forall_mem_cons.mpr ⟨(tb4 115 rfl), List.forall_mem_cons.mpr ⟨(tb4 77 rfl), List.forall_mem_cons.mpr ⟨(tb4 151 rfl), List.forall_mem_cons.mpr ⟨(tb4 127 rfl), List.forall_mem_cons.mpr ⟨(tb4 131 rfl), List.forall_mem_cons.mpr ⟨(tb4 89 rfl), List.forall_mem_cons.mpr ⟨(tb4 139 rfl), List.forall_mem_cons.mpr ⟨(tb1 34 rfl), (fun _ h => nomatch h)⟩⟩⟩⟩⟩⟩⟩⟩⟩⟩⟩⟩⟩⟩⟩⟩⟩⟩⟩⟩⟩⟩⟩⟩⟩⟩⟩⟩⟩⟩⟩⟩⟩⟩⟩⟩⟩⟩⟩⟩⟩⟩⟩⟩⟩⟩⟩⟩⟩⟩⟩⟩⟩⟩⟩⟩⟩⟩⟩⟩
set_option maxRecDepth 100000 in
theorem lC6 : ∀ w ∈ bwC6, w ∈ lw_tbl := by
  unfold bwC6
  exact List.forall_mem_cons.mpr ⟨(tb1 35 rfl), List.forall_mem_cons.mpr ⟨(tb4 213 rfl), List.forall_mem_cons.mpr ⟨(tb4 214 rfl), List.forall_mem_cons.mpr ⟨(tb4 216 rfl), List.forall_mem_cons.mpr ⟨(tb4 215 rfl), List.forall_mem_cons.mpr ⟨(tb1 19 rfl), List.forall_mem_cons.mpr ⟨(tb5 195 rfl), List.forall_mem_cons.mpr ⟨(tb4 0 rfl), List.forall_mem_cons.mpr ⟨(tb4 232 rfl), List.forall_mem_cons.mpr ⟨(tb4 233 rfl), List.forall_mem_cons.mpr ⟨(tb4 234 rfl), List.forall_mem_cons.mpr ⟨(tb3 238 rfl), List.forall_mem_cons.mpr ⟨(tb3 239 rfl), List.forall_mem_cons.mpr ⟨(tb4 220 rfl), List.forall_mem_cons.mpr ⟨(tb5 26 rfl), List.forall_mem_cons.mpr ⟨(tb5 75 rfl), List.forall_mem_cons.mpr ⟨(tb5 76 rfl), List.forall_mem_cons.mpr ⟨(tb5 24 rfl), List.forall_mem_cons.mpr ⟨(tb5 25 rfl), List.forall_mem_cons.mpr ⟨(tb3 194 rfl), List.forall_mem_cons.mpr ⟨(tb3 197 rfl), List.forall_mem_cons.mpr ⟨(tb3 190 rfl), List.forall_mem_cons.mpr ⟨(tb3 193 rfl), List.forall_mem_cons.mpr ⟨(tb3 196 rfl), List.forall_mem_cons.mpr ⟨(tb3 218 rfl), List.forall_mem_cons.mpr ⟨(tb2 19 rfl), List.forall_mem_cons.mpr ⟨(tb2 20 rfl), List.forall_mem_cons.mpr ⟨(tb2 21 rfl), List.forall_mem_cons.mpr ⟨(tb2 22 rfl), List.forall_mem_cons.mpr ⟨(tb2 23 rfl), List.forall_mem_cons.mpr ⟨(tb2 24 rfl), List.forall_mem_cons.mpr ⟨(tb2 14 rfl), List.forall_mem_cons.mpr ⟨(tb2 65 rfl), List.forall_mem_cons.mpr ⟨(tb2 66 rfl), List.forall_mem_cons.mpr ⟨(tb2 15 rfl), List.forall_mem_cons.mpr ⟨(tb2 16 rfl), List.forall_mem_cons.mpr ⟨(tb1 9 rfl), List.forall_mem_cons.mpr ⟨(tb2 67 rfl), List.forall_mem_cons.mpr ⟨(tb2 36 rfl), List.forall_mem_cons.mpr ⟨(tb2 37 rfl), List.forall_mem_cons.mpr ⟨(tb2 69 rfl), List.forall_mem_cons.mpr ⟨(tb2 71 rfl), List.forall_mem_cons.mpr ⟨(tb2 72 rfl), List.forall_mem_cons.mpr ⟨(tb2 73 rfl), List.forall_mem_cons.mpr ⟨(tb2 74 rfl), List.forall_mem_cons.mpr ⟨(tb2 75 rfl), List.forall_mem_cons.mpr ⟨(tb2 76 rfl), List.forall_mem_cons.mpr ⟨(tb2 77 rfl), List.forall_mem_cons.mpr ⟨(tb2 78 rfl), List.forall_mem_cons.mpr ⟨(tb2 80 rfl), List.forall_mem_cons.mpr ⟨(tb2 82 rfl), List.forall_mem_cons.mpr ⟨(tb2 84 rfl), List.forall_mem_cons.mpr ⟨(tb2 86 rfl), List.forall_mem_cons.mpr ⟨(tb2 88 rfl), List.forall_mem_cons.mpr ⟨(tb2 17 rfl), List.forall_mem_cons.mpr ⟨(tb2 18 rfl), List.forall_mem_cons.mpr ⟨(tb2 38 rfl), List.forall_mem_cons.mpr ⟨(tb2 39 rfl), List.forall_mem_cons.mpr ⟨(tb2 13 rfl), List.forall_mem_cons.mpr ⟨(tb4 179 rfl), (fun _ h => nomatch h)⟩⟩⟩⟩⟩⟩⟩⟩⟩⟩⟩⟩⟩⟩⟩⟩⟩⟩⟩⟩⟩⟩⟩⟩⟩⟩⟩⟩⟩⟩⟩⟩⟩⟩⟩⟩⟩⟩⟩⟩⟩⟩⟩⟩⟩⟩⟩⟩⟩⟩⟩⟩⟩⟩⟩⟩⟩⟩⟩⟩
set_option maxRecDepth 100000 in
theorem lC7 : ∀ w ∈ bwC7, w ∈ lw_tbl := by
  unfold bwC7
  exact List.forall_mem_cons.mpr ⟨(tb2 47 rfl), List.forall_mem_cons.mpr ⟨(tb2 50 rfl), List.forall_mem_cons.mpr ⟨(tb4 13 rfl), List.forall_mem_cons.mpr ⟨(tb2 25 rfl), List.forall_mem_cons.mpr ⟨(tb4 14 rfl), List.forall_mem_cons.mpr ⟨(tb4 15 rfl), List.forall_mem_cons.mpr ⟨(tb4 16 rfl), List.forall_mem_cons.mpr ⟨(tb4 18 rfl), List.forall_mem_cons.mpr ⟨(tb4 44 rfl), List.forall_mem_cons.mpr ⟨(tb4 31 rfl), List.forall_mem_cons.mpr ⟨(tb4 52 rfl), List.forall_mem_cons.mpr ⟨(tb4 48 rfl), List.forall_mem_cons.mpr ⟨(tb4 49 rfl), List.forall_mem_cons.mpr ⟨(tb4 51 rfl), List.forall_mem_cons.mpr ⟨(tb0 25 (by decide +kernel)), List.forall_mem_cons.mpr ⟨(tb1 8 rfl), List.forall_mem_cons.mpr ⟨(tb4 56 rfl), List.forall_mem_cons.mpr ⟨(tb4 41 rfl), List.forall_mem_cons.mpr ⟨(tb4 43 rfl), List.forall_mem_cons.mpr ⟨(tb0 23 (by decide +kernel)), List.forall_mem_cons.mpr ⟨(tb4 45 rfl), List.forall_mem_cons.mpr ⟨(tb4 47 rfl), List.forall_mem_cons.mpr ⟨(tb0 24 (by decide +kernel)), List.forall_mem_cons.mpr ⟨(tb4 53 rfl), List.forall_mem_cons.mpr ⟨(tb4 55 rfl), List.forall_mem_cons.mpr ⟨(tb0 26 (by decide +kernel)), List.forall_mem_cons.mpr ⟨(tb4 40 rfl), List.forall_mem_cons.mpr ⟨(tb4 32 rfl), List.forall_mem_cons.mpr ⟨(tb4 33 rfl), List.forall_mem_cons.mpr ⟨(tb4 34 rfl), List.forall_mem_cons.mpr ⟨(tb4 37 rfl), List.forall_mem_cons.mpr ⟨(tb4 39 rfl), List.forall_mem_cons.mpr ⟨(tb0 22 (by decide +kernel)), List.forall_mem_cons.mpr ⟨(tb4 30 rfl), List.forall_mem_cons.mpr ⟨(tb4 64 rfl), List.forall_mem_cons.mpr ⟨(tb4 69 rfl), List.forall_mem_cons.mpr ⟨(tb4 61 rfl), List.forall_mem_cons.mpr ⟨(tb4 63 rfl), List.forall_mem_cons.mpr ⟨(tb0 28 (by decide +kernel)), List.forall_mem_cons.mpr ⟨(tb4 66 rfl), List.forall_mem_cons.mpr ⟨(tb4 68 rfl), List.forall_mem_cons.mpr ⟨(tb0 29 (by decide +kernel)), List.forall_mem_cons.mpr ⟨(tb4 60 rfl), List.forall_mem_cons.mpr ⟨(tb4 74 rfl), List.forall_mem_cons.mpr ⟨(tb4 75 rfl), List.forall_mem_cons.mpr ⟨(tb4 76 rfl), List.forall_mem_cons.mpr ⟨(tb4 73 rfl), List.forall_mem_cons.mpr ⟨(tb4 93 rfl), List.forall_mem_cons.mpr ⟨(tb4 101 rfl), List.forall_mem_cons.mpr ⟨(tb4 107 rfl), List.forall_mem_cons.mpr ⟨(tb4 86 rfl), List.forall_mem_cons.mpr ⟨(tb4 87 rfl), List.forall_mem_cons.mpr ⟨(tb4 88 rfl), List.forall_mem_cons.mpr ⟨(tb4 90 rfl), List.forall_mem_cons.mpr ⟨(tb4 92 rfl), List.forall_mem_cons.mpr ⟨(tb0 32 (by decide +kernel)), List.forall_mem_cons.mpr ⟨(tb4 94 rfl), List.forall_mem_cons.mpr ⟨(tb4 95 rfl), List.forall_mem_cons.mpr ⟨(tb4 96 rfl), List.forall_mem_cons.mpr ⟨(tb4 98 rfl), (fun _ h => nomatch h)⟩⟩⟩⟩⟩⟩⟩⟩⟩⟩⟩⟩⟩⟩⟩⟩⟩⟩⟩⟩⟩⟩⟩⟩⟩⟩⟩⟩⟩⟩⟩⟩⟩⟩⟩⟩⟩⟩⟩⟩⟩⟩⟩⟩⟩⟩⟩⟩⟩⟩⟩⟩⟩⟩⟩⟩⟩⟩⟩⟩
set_option maxRecDepth 100000 in
theorem lC8 : ∀ w ∈ bwC8, w ∈ lw_tbl := by
  unfold bwC8
  exact List.forall_mem_cons.mpr ⟨(tb4 99 rfl), List.forall_mem_cons.mpr ⟨(tb4 100 rfl), List.forall_mem_cons.mpr ⟨(tb4 104 rfl), List.forall_mem_cons.mpr ⟨(tb4 106 rfl), List.forall_mem_cons.mpr ⟨(tb0 33 (by decide +kernel)), List.forall_mem_cons.mpr ⟨(tb4 85 rfl), List.forall_mem_cons.mpr ⟨(tb4 119 rfl), List.forall_mem_cons.mpr ⟨(tb4 112 rfl), List.forall_mem_cons.mpr ⟨(tb4 113 rfl), List.forall_mem_cons.mpr ⟨(tb4 114 rfl), List.forall_mem_cons.mpr ⟨(tb4 116 rfl), List.forall_mem_cons.mpr ⟨(tb4 118 rfl), List.forall_mem_cons.mpr ⟨(tb0 35 (by decide +kernel)), List.forall_mem_cons.mpr ⟨(tb4 111 rfl), List.forall_mem_cons.mpr ⟨(tb4 123 rfl), List.forall_mem_cons.mpr ⟨(tb4 124 rfl), List.forall_mem_cons.mpr ⟨(tb4 125 rfl), List.forall_mem_cons.mpr ⟨(tb4 126 rfl), List.forall_mem_cons.mpr ⟨(tb4 128 rfl), List.forall_mem_cons.mpr ⟨(tb4 129 rfl), List.forall_mem_cons.mpr ⟨(tb4 130 rfl), List.forall_mem_cons.mpr ⟨(tb4 135 rfl), List.forall_mem_cons.mpr ⟨(tb4 136 rfl), List.forall_mem_cons.mpr ⟨(tb4 137 rfl), List.forall_mem_cons.mpr ⟨(tb4 138 rfl), List.forall_mem_cons.mpr ⟨(tb4 27 rfl), List.forall_mem_cons.mpr ⟨(tb4 29 rfl), List.forall_mem_cons.mpr ⟨(tb0 21 (by decide +kernel)), List.forall_mem_cons.mpr ⟨(tb4 57 rfl), List.forall_mem_cons.mpr ⟨(tb4 59 rfl), List.forall_mem_cons.mpr ⟨(tb0 27 (by decide +kernel)), List.forall_mem_cons.mpr ⟨(tb4 70 rfl), List.forall_mem_cons.mpr ⟨(tb4 72 rfl), List.forall_mem_cons.mpr ⟨(tb0 30 (by decide +kernel)), List.forall_mem_cons.mpr ⟨(tb4 82 rfl), List.forall_mem_cons.mpr ⟨(tb4 84 rfl), List.forall_mem_cons.mpr ⟨(tb0 31 (by decide +kernel)), List.forall_mem_cons.mpr ⟨(tb4 108 rfl), List.forall_mem_cons.mpr ⟨(tb4 110 rfl), List.forall_mem_cons.mpr ⟨(tb0 34 (by decide +kernel)), List.forall_mem_cons.mpr ⟨(tb4 120 rfl), List.forall_mem_cons.mpr ⟨(tb4 122 rfl), List.forall_mem_cons.mpr ⟨(tb0 36 (by decide +kernel)), List.forall_mem_cons.mpr ⟨(tb4 132 rfl), List.forall_mem_cons.mpr ⟨(tb4 134 rfl), List.forall_mem_cons.mpr ⟨(tb0 37 (by decide +kernel)), List.forall_mem_cons.mpr ⟨(tb4 26 rfl), List.forall_mem_cons.mpr ⟨(tb4 148 rfl), List.forall_mem_cons.mpr ⟨(tb4 149 rfl), List.forall_mem_cons.mpr ⟨(tb4 150 rfl), List.forall_mem_cons.mpr ⟨(tb4 147 rfl), List.forall_mem_cons.mpr ⟨(tb4 156 rfl), List.forall_mem_cons.mpr ⟨(tb4 144 rfl), List.forall_mem_cons.mpr ⟨(tb4 146 rfl), List.forall_mem_cons.mpr ⟨(tb0 39 (by decide +kernel)), List.forall_mem_cons.mpr ⟨(tb4 153 rfl), List.forall_mem_cons.mpr ⟨(tb4 155 rfl), List.forall_mem_cons.mpr ⟨(tb0 40 (by decide +kernel)), List.forall_mem_cons.mpr ⟨(tb4 143 rfl), List.forall_mem_cons.mpr ⟨(tb4 166 rfl), (fun _ h => nomatch h)⟩⟩⟩⟩⟩⟩⟩⟩⟩⟩⟩⟩⟩⟩⟩⟩⟩⟩⟩⟩⟩⟩⟩⟩⟩⟩⟩⟩⟩⟩⟩⟩⟩⟩⟩⟩⟩⟩⟩⟩⟩⟩⟩⟩⟩⟩⟩⟩⟩⟩⟩⟩⟩⟩⟩⟩⟩⟩⟩⟩
set_option maxRecDepth 100000 in
theorem lC9 : ∀ w ∈ bwC9, w ∈ lw_tbl := by
  unfold bwC9
  exact List.forall_mem_cons.mpr ⟨(tb4 20 rfl), List.forall_mem_cons.mpr ⟨(tb4 21 rfl), List.forall_mem_cons.mpr ⟨(tb4 161 rfl), List.forall_mem_cons.mpr ⟨(tb4 162 rfl), List.forall_mem_cons.mpr ⟨(tb4 163 rfl), List.forall_mem_cons.mpr ⟨(tb4 164 rfl), List.forall_mem_cons.mpr ⟨(tb4 165 rfl), List.forall_mem_cons.mpr ⟨(tb4 160 rfl), List.forall_mem_cons.mpr ⟨(tb1 43 rfl), List.forall_mem_cons.mpr ⟨(tb4 140 rfl), List.forall_mem_cons.mpr ⟨(tb4 142 rfl), List.forall_mem_cons.mpr ⟨(tb0 38 (by decide +kernel)), List.forall_mem_cons.mpr ⟨(tb4 170 rfl), List.forall_mem_cons.mpr ⟨(tb1 49 rfl), List.forall_mem_cons.mpr ⟨(tb4 10 rfl), List.forall_mem_cons.mpr ⟨(tb4 12 rfl), List.forall_mem_cons.mpr ⟨(tb0 19 (by decide +kernel)), List.forall_mem_cons.mpr ⟨(tb4 19 rfl), List.forall_mem_cons.mpr ⟨(tb4 22 rfl), List.forall_mem_cons.mpr ⟨(tb4 23 rfl), List.forall_mem_cons.mpr ⟨(tb4 25 rfl), List.forall_mem_cons.mpr ⟨(tb0 20 (by decide +kernel)), List.forall_mem_cons.mpr ⟨(tb4 157 rfl), List.forall_mem_cons.mpr ⟨(tb4 159 rfl), List.forall_mem_cons.mpr ⟨(tb0 41 (by decide +kernel)), List.forall_mem_cons.mpr ⟨(tb4 167 rfl), List.forall_mem_cons.mpr ⟨(tb4 169 rfl), List.forall_mem_cons.mpr ⟨(tb0 42 (by decide +kernel)), List.forall_mem_cons.mpr ⟨(tb4 9 rfl), List.forall_mem_cons.mpr ⟨(tb5 131 rfl), List.forall_mem_cons.mpr ⟨(tb5 132 rfl), List.forall_mem_cons.mpr ⟨(tb5 133 rfl), List.forall_mem_cons.mpr ⟨(tb5 134 rfl), List.forall_mem_cons.mpr ⟨(tb5 142 rfl), List.forall_mem_cons.mpr ⟨(tb5 143 rfl), List.forall_mem_cons.mpr ⟨(tb5 129 rfl), List.forall_mem_cons.mpr ⟨(tb5 130 rfl), List.forall_mem_cons.mpr ⟨(tb5 148 rfl), List.forall_mem_cons.mpr ⟨(tb5 149 rfl), List.forall_mem_cons.mpr ⟨(tb5 140 rfl), List.forall_mem_cons.mpr ⟨(tb5 141 rfl), List.forall_mem_cons.mpr ⟨(tb1 27 rfl), List.forall_mem_cons.mpr ⟨(tb1 30 rfl), List.forall_mem_cons.mpr ⟨(tb1 31 rfl), List.forall_mem_cons.mpr ⟨(tb3 92 rfl), List.forall_mem_cons.mpr ⟨(tb1 65 rfl), List.forall_mem_cons.mpr ⟨(tb1 66 rfl), List.forall_mem_cons.mpr ⟨(tb3 93 rfl), List.forall_mem_cons.mpr ⟨(tb2 9 rfl), List.forall_mem_cons.mpr ⟨(tb2 10 rfl), List.forall_mem_cons.mpr ⟨(tb1 208 rfl), List.forall_mem_cons.mpr ⟨(tb3 94 rfl), List.forall_mem_cons.mpr ⟨(tb3 95 rfl), List.forall_mem_cons.mpr ⟨(tb3 96 rfl), List.forall_mem_cons.mpr ⟨(tb3 97 rfl), List.forall_mem_cons.mpr ⟨(tb3 98 rfl), List.forall_mem_cons.mpr ⟨(tb1 32 rfl), List.forall_mem_cons.mpr ⟨(tb1 33 rfl), List.forall_mem_cons.mpr ⟨(tb1 67 rfl), List.forall_mem_cons.mpr ⟨(tb1 68 rfl), (fun _ h => nomatch h)⟩⟩⟩⟩⟩⟩⟩⟩⟩⟩⟩⟩⟩⟩⟩⟩⟩⟩⟩⟩⟩⟩⟩⟩⟩⟩⟩⟩⟩⟩⟩⟩⟩⟩⟩⟩⟩⟩⟩⟩⟩⟩⟩⟩⟩⟩⟩⟩⟩⟩⟩⟩⟩⟩⟩⟩⟩⟩⟩⟩
set_option maxRecDepth 100000 in
theorem lC10 : ∀ w ∈ bwC10, w ∈ lw_tbl := by
  unfold bwC10
  exact List.forall_mem_cons.mpr ⟨(tb2 11 rfl), List.forall_mem_cons.mpr ⟨(tb2 12 rfl), List.forall_mem_cons.mpr ⟨(tb2 124 rfl), List.forall_mem_cons.mpr ⟨(tb2 125 rfl), List.forall_mem_cons.mpr ⟨(tb2 126 rfl), List.forall_mem_cons.mpr ⟨(tb1 26 rfl), List.forall_mem_cons.mpr ⟨(tb3 198 rfl), List.forall_mem_cons.mpr ⟨(tb1 17 rfl), List.forall_mem_cons.mpr ⟨(tb3 221 rfl), List.forall_mem_cons.mpr ⟨(tb1 18 rfl), List.forall_mem_cons.mpr ⟨(tb1 41 rfl), List.forall_mem_cons.mpr ⟨(tb5 192 rfl), List.forall_mem_cons.mpr ⟨(tb5 193 rfl), List.forall_mem_cons.mpr ⟨(tb5 194 rfl), List.forall_mem_cons.mpr ⟨(tb5 189 rfl), List.forall_mem_cons.mpr ⟨(tb1 48 rfl), List.forall_mem_cons.mpr ⟨(tb3 187 rfl), List.forall_mem_cons.mpr ⟨(tb3 188 rfl), List.forall_mem_cons.mpr ⟨(tb3 189 rfl), List.forall_mem_cons.mpr ⟨(tb3 215 rfl), List.forall_mem_cons.mpr ⟨(tb3 216 rfl), List.forall_mem_cons.mpr ⟨(tb3 217 rfl), List.forall_mem_cons.mpr ⟨(tb3 220 rfl), List.forall_mem_cons.mpr ⟨(tb4 229 rfl), List.forall_mem_cons.mpr ⟨(tb4 230 rfl), List.forall_mem_cons.mpr ⟨(tb4 231 rfl), List.forall_mem_cons.mpr ⟨(tb5 211 rfl), List.forall_mem_cons.mpr ⟨(tb3 119 rfl), List.forall_mem_cons.mpr ⟨(tb1 21 rfl), List.forall_mem_cons.mpr ⟨(tb3 118 rfl), List.forall_mem_cons.mpr ⟨(tb3 214 rfl), List.forall_mem_cons.mpr ⟨(tb3 237 rfl), List.forall_mem_cons.mpr ⟨(tb3 117 rfl), List.forall_mem_cons.mpr ⟨(tb5 11 rfl), List.forall_mem_cons.mpr ⟨(tb5 53 rfl), List.forall_mem_cons.mpr ⟨(tb5 54 rfl), List.forall_mem_cons.mpr ⟨(tb5 55 rfl), List.forall_mem_cons.mpr ⟨(tb5 56 rfl), List.forall_mem_cons.mpr ⟨(tb5 52 rfl), List.forall_mem_cons.mpr ⟨(tb4 225 rfl), List.forall_mem_cons.mpr ⟨(tb4 226 rfl), List.forall_mem_cons.mpr ⟨(tb5 62 rfl), List.forall_mem_cons.mpr ⟨(tb5 63 rfl), List.forall_mem_cons.mpr ⟨(tb5 64 rfl), List.forall_mem_cons.mpr ⟨(tb5 60 rfl), List.forall_mem_cons.mpr ⟨(tb5 72 rfl), List.forall_mem_cons.mpr ⟨(tb5 73 rfl), List.forall_mem_cons.mpr ⟨(tb5 74 rfl), List.forall_mem_cons.mpr ⟨(tb5 82 rfl), List.forall_mem_cons.mpr ⟨(tb5 80 rfl), List.forall_mem_cons.mpr ⟨(tb5 70 rfl), List.forall_mem_cons.mpr ⟨(tb5 86 rfl), List.forall_mem_cons.mpr ⟨(tb5 71 rfl), List.forall_mem_cons.mpr ⟨(tb5 69 rfl), List.forall_mem_cons.mpr ⟨(tb1 210 rfl), List.forall_mem_cons.mpr ⟨(tb5 96 rfl), List.forall_mem_cons.mpr ⟨(tb5 98 rfl), List.forall_mem_cons.mpr ⟨(tb5 99 rfl), List.forall_mem_cons.mpr ⟨(tb5 100 rfl), List.forall_mem_cons.mpr ⟨(tb5 102 rfl), (fun _ h => nomatch h)⟩⟩⟩⟩⟩⟩⟩⟩⟩⟩⟩⟩⟩⟩⟩⟩⟩⟩⟩⟩⟩⟩⟩⟩⟩⟩⟩⟩⟩⟩⟩⟩⟩⟩⟩⟩⟩⟩⟩⟩⟩⟩⟩⟩⟩⟩⟩⟩⟩⟩⟩⟩⟩⟩⟩⟩⟩⟩⟩⟩
set_option maxRecDepth 100000 in
theorem lC11 : ∀ w ∈ bwC11, w ∈ lw_tbl := by
  unfold bwC11
  exact List.forall_mem_cons.mpr ⟨(tb5 103 rfl), List.forall_mem_cons.mpr ⟨(tb5 104 rfl), List.forall_mem_cons.mpr ⟨(tb5 105 rfl), List.forall_mem_cons.mpr ⟨(tb5 106 rfl), List.forall_mem_cons.mpr ⟨(tb5 95 rfl), List.forall_mem_cons.mpr ⟨(tb1 212 rfl), List.forall_mem_cons.mpr ⟨(tb5 113 rfl), List.forall_mem_cons.mpr ⟨(tb5 118 rfl), List.forall_mem_cons.mpr ⟨(tb5 119 rfl), List.forall_mem_cons.mpr ⟨(tb5 120 rfl), List.forall_mem_cons.mpr ⟨(tb5 112 rfl), List.forall_mem_cons.mpr ⟨(tb1 206 rfl), List.forall_mem_cons.mpr ⟨(tb5 23 rfl), List.forall_mem_cons.mpr ⟨(tb5 28 rfl), List.forall_mem_cons.mpr ⟨(tb5 29 rfl), List.forall_mem_cons.mpr ⟨(tb5 30 rfl), List.forall_mem_cons.mpr ⟨(tb5 34 rfl), List.forall_mem_cons.mpr ⟨(tb5 35 rfl), List.forall_mem_cons.mpr ⟨(tb5 36 rfl), List.forall_mem_cons.mpr ⟨(tb5 41 rfl), List.forall_mem_cons.mpr ⟨(tb5 42 rfl), List.forall_mem_cons.mpr ⟨(tb5 43 rfl), List.forall_mem_cons.mpr ⟨(tb5 22 rfl), List.forall_mem_cons.mpr ⟨(tb1 192 rfl), List.forall_mem_cons.mpr ⟨(tb2 79 rfl), List.forall_mem_cons.mpr ⟨(tb4 6 rfl), List.forall_mem_cons.mpr ⟨(tb4 7 rfl), List.forall_mem_cons.mpr ⟨(tb4 8 rfl), List.forall_mem_cons.mpr ⟨(tb4 4 rfl), List.forall_mem_cons.mpr ⟨(tb4 174 rfl), List.forall_mem_cons.mpr ⟨(tb2 81 rfl), List.forall_mem_cons.mpr ⟨(tb2 68 rfl), List.forall_mem_cons.mpr ⟨(tb2 26 rfl), List.forall_mem_cons.mpr ⟨(tb2 83 rfl), List.forall_mem_cons.mpr ⟨(tb2 70 rfl), List.forall_mem_cons.mpr ⟨(tb2 48 rfl), List.forall_mem_cons.mpr ⟨(tb2 85 rfl), List.forall_mem_cons.mpr ⟨(tb2 51 rfl), List.forall_mem_cons.mpr ⟨(tb2 87 rfl), List.forall_mem_cons.mpr ⟨(tb4 176 rfl), List.forall_mem_cons.mpr ⟨(tb4 177 rfl), List.forall_mem_cons.mpr ⟨(tb4 178 rfl), List.forall_mem_cons.mpr ⟨(tb5 139 rfl), List.forall_mem_cons.mpr ⟨(tb5 145 rfl), List.forall_mem_cons.mpr ⟨(tb5 146 rfl), List.forall_mem_cons.mpr ⟨(tb5 147 rfl), List.forall_mem_cons.mpr ⟨(tb5 138 rfl), List.forall_mem_cons.mpr ⟨(tb1 165 rfl), List.forall_mem_cons.mpr ⟨(tb1 221 rfl), List.forall_mem_cons.mpr ⟨(tb4 184 rfl), List.forall_mem_cons.mpr ⟨(tb4 190 rfl), List.forall_mem_cons.mpr ⟨(tb4 191 rfl), List.forall_mem_cons.mpr ⟨(tb4 192 rfl), List.forall_mem_cons.mpr ⟨(tb4 198 rfl), List.forall_mem_cons.mpr ⟨(tb4 199 rfl), List.forall_mem_cons.mpr ⟨(tb4 200 rfl), List.forall_mem_cons.mpr ⟨(tb4 183 rfl), List.forall_mem_cons.mpr ⟨(tb4 210 rfl), List.forall_mem_cons.mpr ⟨(tb4 211 rfl), List.forall_mem_cons.mpr ⟨(tb4 212 rfl), (fun _ h => nomatch h)⟩⟩⟩⟩⟩⟩⟩⟩⟩⟩⟩⟩⟩⟩⟩⟩⟩⟩⟩⟩⟩⟩⟩⟩⟩⟩⟩⟩⟩⟩⟩⟩⟩⟩⟩⟩⟩⟩⟩⟩⟩⟩⟩⟩⟩⟩⟩⟩⟩⟩⟩⟩⟩⟩⟩⟩⟩⟩⟩⟩
set_option maxRecDepth 100000 in
theorem lC12 : ∀ w ∈ bwC12, w ∈ lw_tbl := by
  unfold bwC12
  exact List.forall_mem_cons.mpr ⟨(tb4 217 rfl), List.forall_mem_cons.mpr ⟨(tb4 218 rfl), List.forall_mem_cons.mpr ⟨(tb4 219 rfl), List.forall_mem_cons.mpr ⟨(tb4 209 rfl), List.forall_mem_cons.mpr ⟨(tb4 227 rfl), List.forall_mem_cons.mpr ⟨(tb4 235 rfl), List.forall_mem_cons.mpr ⟨(tb4 236 rfl), List.forall_mem_cons.mpr ⟨(tb4 237 rfl), List.forall_mem_cons.mpr ⟨(tb4 238 rfl), List.forall_mem_cons.mpr ⟨(tb4 224 rfl), List.forall_mem_cons.mpr ⟨(tb5 3 rfl), List.forall_mem_cons.mpr ⟨(tb5 9 rfl), List.forall_mem_cons.mpr ⟨(tb5 7 rfl), List.forall_mem_cons.mpr ⟨(tb5 17 rfl), List.forall_mem_cons.mpr ⟨(tb5 49 rfl), List.forall_mem_cons.mpr ⟨(tb5 50 rfl), List.forall_mem_cons.mpr ⟨(tb5 51 rfl), List.forall_mem_cons.mpr ⟨(tb5 57 rfl), List.forall_mem_cons.mpr ⟨(tb5 58 rfl), List.forall_mem_cons.mpr ⟨(tb5 59 rfl), List.forall_mem_cons.mpr ⟨(tb5 66 rfl), List.forall_mem_cons.mpr ⟨(tb5 67 rfl), List.forall_mem_cons.mpr ⟨(tb5 68 rfl), List.forall_mem_cons.mpr ⟨(tb5 77 rfl), List.forall_mem_cons.mpr ⟨(tb5 78 rfl), List.forall_mem_cons.mpr ⟨(tb5 79 rfl), List.forall_mem_cons.mpr ⟨(tb5 83 rfl), List.forall_mem_cons.mpr ⟨(tb5 84 rfl), List.forall_mem_cons.mpr ⟨(tb5 85 rfl), List.forall_mem_cons.mpr ⟨(tb5 87 rfl), List.forall_mem_cons.mpr ⟨(tb4 207 rfl), List.forall_mem_cons.mpr ⟨(tb4 208 rfl), List.forall_mem_cons.mpr ⟨(tb5 48 rfl), List.forall_mem_cons.mpr ⟨(tb5 92 rfl), List.forall_mem_cons.mpr ⟨(tb5 93 rfl), List.forall_mem_cons.mpr ⟨(tb5 94 rfl), List.forall_mem_cons.mpr ⟨(tb5 109 rfl), List.forall_mem_cons.mpr ⟨(tb5 110 rfl), List.forall_mem_cons.mpr ⟨(tb5 111 rfl), List.forall_mem_cons.mpr ⟨(tb5 91 rfl), List.forall_mem_cons.mpr ⟨(tb5 127 rfl), List.forall_mem_cons.mpr ⟨(tb4 172 rfl), List.forall_mem_cons.mpr ⟨(tb4 173 rfl), List.forall_mem_cons.mpr ⟨(tb5 128 rfl), List.forall_mem_cons.mpr ⟨(tb5 135 rfl), List.forall_mem_cons.mpr ⟨(tb5 136 rfl), List.forall_mem_cons.mpr ⟨(tb5 137 rfl), List.forall_mem_cons.mpr ⟨(tb5 126 rfl), List.forall_mem_cons.mpr ⟨(tb5 16 rfl), List.forall_mem_cons.mpr ⟨(tb5 18 rfl), List.forall_mem_cons.mpr ⟨(tb4 181 rfl), List.forall_mem_cons.mpr ⟨(tb4 182 rfl), List.forall_mem_cons.mpr ⟨(tb5 19 rfl), List.forall_mem_cons.mpr ⟨(tb5 20 rfl), List.forall_mem_cons.mpr ⟨(tb5 21 rfl), List.forall_mem_cons.mpr ⟨(tb5 45 rfl), List.forall_mem_cons.mpr ⟨(tb5 47 rfl), List.forall_mem_cons.mpr ⟨(tb0 43 (by decide +kernel)), List.forall_mem_cons.mpr ⟨(tb5 88 rfl), List.forall_mem_cons.mpr ⟨(tb5 90 rfl), (fun _ h => nomatch h)⟩⟩⟩⟩⟩⟩⟩⟩⟩⟩⟩⟩⟩⟩⟩⟩⟩⟩⟩⟩⟩⟩⟩⟩⟩⟩⟩⟩⟩⟩⟩⟩⟩⟩⟩⟩⟩⟩⟩⟩⟩⟩⟩⟩⟩⟩⟩⟩⟩⟩⟩⟩⟩⟩⟩⟩⟩⟩⟩⟩
set_option maxRecDepth 100000 in
theorem lC13 : ∀ w ∈ bwC13, w ∈ lw_tbl := by
  unfold bwC13
  exact List.forall_mem_cons.mpr ⟨(tb0 44 (by decide +kernel)), List.forall_mem_cons.mpr ⟨(tb5 123 rfl), List.forall_mem_cons.mpr ⟨(tb5 125 rfl), List.forall_mem_cons.mpr ⟨(tb0 45 (by decide +kernel)), List.forall_mem_cons.mpr ⟨(tb5 150 rfl), List.forall_mem_cons.mpr ⟨(tb5 1 rfl), List.forall_mem_cons.mpr ⟨(tb5 2 rfl), List.forall_mem_cons.mpr ⟨(tb5 15 rfl), List.forall_mem_cons.mpr ⟨(tb5 155 rfl), List.forall_mem_cons.mpr ⟨(tb5 156 rfl), List.forall_mem_cons.mpr ⟨(tb5 159 rfl), List.forall_mem_cons.mpr ⟨(tb5 157 rfl), List.forall_mem_cons.mpr ⟨(tb5 161 rfl), List.forall_mem_cons.mpr ⟨(tb5 163 rfl), List.forall_mem_cons.mpr ⟨(tb5 206 rfl), List.forall_mem_cons.mpr ⟨(tb5 207 rfl), List.forall_mem_cons.mpr ⟨(tb5 222 rfl), List.forall_mem_cons.mpr ⟨(tb6 14 rfl), List.forall_mem_cons.mpr ⟨(tb6 15 rfl), List.forall_mem_cons.mpr ⟨(tb5 220 rfl), List.forall_mem_cons.mpr ⟨(tb5 221 rfl), List.forall_mem_cons.mpr ⟨(tb1 13 rfl), List.forall_mem_cons.mpr ⟨(tb6 6 rfl), List.forall_mem_cons.mpr ⟨(tb5 233 rfl), List.forall_mem_cons.mpr ⟨(tb5 203 rfl), List.forall_mem_cons.mpr ⟨(tb4 205 rfl), List.forall_mem_cons.mpr ⟨(tb5 134 rfl), List.forall_mem_cons.mpr ⟨(tb5 174 rfl), List.forall_mem_cons.mpr ⟨(tb5 175 rfl), List.forall_mem_cons.mpr ⟨(tb5 178 rfl), List.forall_mem_cons.mpr ⟨(tb5 179 rfl), List.forall_mem_cons.mpr ⟨(tb5 162 rfl), List.forall_mem_cons.mpr ⟨(tb5 200 rfl), List.forall_mem_cons.mpr ⟨(tb5 201 rfl), List.forall_mem_cons.mpr ⟨(tb5 202 rfl), List.forall_mem_cons.mpr ⟨(tb5 204 rfl), List.forall_mem_cons.mpr ⟨(tb5 205 rfl), List.forall_mem_cons.mpr ⟨(tb5 208 rfl), List.forall_mem_cons.mpr ⟨(tb5 209 rfl), List.forall_mem_cons.mpr ⟨(tb5 210 rfl), List.forall_mem_cons.mpr ⟨(tb5 199 rfl), List.forall_mem_cons.mpr ⟨(tb5 160 rfl), List.forall_mem_cons.mpr ⟨(tb5 172 rfl), List.forall_mem_cons.mpr ⟨(tb5 173 rfl), List.forall_mem_cons.mpr ⟨(tb1 0 rfl), List.forall_mem_cons.mpr ⟨(tb5 186 rfl), List.forall_mem_cons.mpr ⟨(tb5 187 rfl), List.forall_mem_cons.mpr ⟨(tb5 188 rfl), List.forall_mem_cons.mpr ⟨(tb5 185 rfl), List.forall_mem_cons.mpr ⟨(tb5 218 rfl), List.forall_mem_cons.mpr ⟨(tb5 219 rfl), List.forall_mem_cons.mpr ⟨(tb5 197 rfl), List.forall_mem_cons.mpr ⟨(tb5 198 rfl), List.forall_mem_cons.mpr ⟨(tb5 225 rfl), List.forall_mem_cons.mpr ⟨(tb5 216 rfl), List.forall_mem_cons.mpr ⟨(tb5 217 rfl), List.forall_mem_cons.mpr ⟨(tb5 223 rfl), List.forall_mem_cons.mpr ⟨(tb5 224 rfl), List.forall_mem_cons.mpr ⟨(tb5 215 rfl), List.forall_mem_cons.mpr ⟨(tb5 176 rfl), (fun _ h => nomatch h)⟩⟩⟩⟩⟩⟩⟩⟩⟩⟩⟩⟩⟩⟩⟩⟩⟩⟩⟩⟩⟩⟩⟩⟩⟩⟩⟩⟩⟩⟩⟩⟩⟩⟩⟩⟩⟩⟩⟩⟩⟩⟩⟩⟩⟩⟩⟩⟩⟩⟩⟩⟩⟩⟩⟩⟩⟩⟩⟩⟩
set_option maxRecDepth 100000 in
theorem lC14 : ∀ w ∈ bwC14, w ∈ lw_tbl := by
  unfold bwC14
  exact List.forall_mem_cons.mpr ⟨(tb5 177 rfl), List.forall_mem_cons.mpr ⟨(tb5 183 rfl), List.forall_mem_cons.mpr ⟨(tb5 184 rfl), List.forall_mem_cons.mpr ⟨(tb5 213 rfl), List.forall_mem_cons.mpr ⟨(tb5 214 rfl), List.forall_mem_cons.mpr ⟨(tb5 182 rfl), List.forall_mem_cons.mpr ⟨(tb4 180 rfl), List.forall_mem_cons.mpr ⟨(tb5 229 rfl), List.forall_mem_cons.mpr ⟨(tb3 114 rfl), List.forall_mem_cons.mpr ⟨(tb3 115 rfl), List.forall_mem_cons.mpr ⟨(tb3 116 rfl), List.forall_mem_cons.mpr ⟨(tb5 230 rfl), List.forall_mem_cons.mpr ⟨(tb5 231 rfl), List.forall_mem_cons.mpr ⟨(tb5 232 rfl), List.forall_mem_cons.mpr ⟨(tb5 228 rfl), List.forall_mem_cons.mpr ⟨(tb5 237 rfl), List.forall_mem_cons.mpr ⟨(tb4 171 rfl), List.forall_mem_cons.mpr ⟨(tb5 238 rfl), List.forall_mem_cons.mpr ⟨(tb5 236 rfl), List.forall_mem_cons.mpr ⟨(tb6 10 rfl), List.forall_mem_cons.mpr ⟨(tb5 164 rfl), List.forall_mem_cons.mpr ⟨(tb6 2 rfl), List.forall_mem_cons.mpr ⟨(tb6 3 rfl), List.forall_mem_cons.mpr ⟨(tb6 4 rfl), List.forall_mem_cons.mpr ⟨(tb6 5 rfl), List.forall_mem_cons.mpr ⟨(tb6 7 rfl), List.forall_mem_cons.mpr ⟨(tb6 8 rfl), List.forall_mem_cons.mpr ⟨(tb6 9 rfl), List.forall_mem_cons.mpr ⟨(tb6 11 rfl), List.forall_mem_cons.mpr ⟨(tb6 12 rfl), List.forall_mem_cons.mpr ⟨(tb6 13 rfl), List.forall_mem_cons.mpr ⟨(tb4 221 rfl), List.forall_mem_cons.mpr ⟨(tb4 222 rfl), List.forall_mem_cons.mpr ⟨(tb4 223 rfl), List.forall_mem_cons.mpr ⟨(tb6 16 rfl), List.forall_mem_cons.mpr ⟨(tb6 1 rfl), List.forall_mem_cons.mpr ⟨(tb1 22 rfl), List.forall_mem_cons.mpr ⟨(tb1 23 rfl), List.forall_mem_cons.mpr ⟨(tb5 151 rfl), List.forall_mem_cons.mpr ⟨(tb5 152 rfl), List.forall_mem_cons.mpr ⟨(tb1 24 rfl), List.forall_mem_cons.mpr ⟨(tb1 25 rfl), List.forall_mem_cons.mpr ⟨(tb5 154 rfl), List.forall_mem_cons.mpr ⟨(tb5 180 rfl), List.forall_mem_cons.mpr ⟨(tb5 181 rfl), List.forall_mem_cons.mpr ⟨(tb5 226 rfl), List.forall_mem_cons.mpr ⟨(tb5 227 rfl), List.forall_mem_cons.mpr ⟨(tb4 1 rfl), List.forall_mem_cons.mpr ⟨(tb4 2 rfl), List.forall_mem_cons.mpr ⟨(tb4 3 rfl), List.forall_mem_cons.mpr ⟨(tb5 234 rfl), List.forall_mem_cons.mpr ⟨(tb5 235 rfl), List.forall_mem_cons.mpr ⟨(tb5 239 rfl), List.forall_mem_cons.mpr ⟨(tb6 0 rfl), List.forall_mem_cons.mpr ⟨(tb5 4 rfl), List.forall_mem_cons.mpr ⟨(tb5 5 rfl), List.forall_mem_cons.mpr ⟨(tb5 6 rfl), List.forall_mem_cons.mpr ⟨(tb5 12 rfl), List.forall_mem_cons.mpr ⟨(tb5 13 rfl), List.forall_mem_cons.mpr ⟨(tb5 14 rfl), (fun _ h => nomatch h)⟩⟩⟩⟩⟩⟩⟩⟩⟩⟩⟩⟩⟩⟩⟩⟩⟩⟩⟩⟩⟩⟩⟩⟩⟩⟩⟩⟩⟩⟩⟩⟩⟩⟩⟩⟩⟩⟩⟩⟩⟩⟩⟩⟩⟩⟩⟩⟩⟩⟩⟩⟩⟩⟩⟩⟩⟩⟩⟩⟩
set_option maxRecDepth 100000 in
theorem lC15 : ∀ w ∈ bwC15, w ∈ lw_tbl := by
  unfold bwC15
  exact List.forall_mem_cons.mpr ⟨(tb5 0 rfl), List.forall_mem_cons.mpr ⟨(tb4 206 rfl), (fun _ h => nomatch h)⟩⟩
set_option maxRecDepth 100000 in
theorem luX0 : ∀ w ∈ u_ws RX0 TX0 13, w ∈ lw_tbl := by
  intro w hw
  obtain ⟨j, hj, rfl⟩ := List.mem_map.mp hw
  have hj := List.mem_range.mp hj
  match j, hj with
  | 0, _ => exact (tb1 222 rfl)
  | 1, _ => exact (tb1 224 rfl)
  | 2, _ => exact (tb1 226 rfl)
  | 3, _ => exact (tb1 228 rfl)
  | 4, _ => exact (tb1 230 rfl)
  | 5, _ => exact (tb1 232 rfl)
  | 6, _ => exact (tb1 234 rfl)
  | 7, _ => exact (tb1 236 rfl)
  | 8, _ => exact (tb1 238 rfl)
  | 9, _ => exact (tb2 0 rfl)
  | 10, _ => exact (tb2 2 rfl)
  | 11, _ => exact (tb2 4 rfl)
  | 12, _ => exact (tb2 6 rfl)
  | j + 13, h => exact absurd h (by omega)
set_option maxRecDepth 100000 in
theorem luX1 : ∀ w ∈ u_ws RX1 TX1 10, w ∈ lw_tbl := by
  intro w hw
  obtain ⟨j, hj, rfl⟩ := List.mem_map.mp hw
  have hj := List.mem_range.mp hj
  match j, hj with
  | 0, _ => exact (tb1 95 rfl)
  | 1, _ => exact (tb1 97 rfl)
  | 2, _ => exact (tb1 99 rfl)
  | 3, _ => exact (tb1 101 rfl)
  | 4, _ => exact (tb1 103 rfl)
  | 5, _ => exact (tb1 105 rfl)
  | 6, _ => exact (tb1 107 rfl)
  | 7, _ => exact (tb1 109 rfl)
  | 8, _ => exact (tb1 111 rfl)
  | 9, _ => exact (tb1 113 rfl)
  | j + 10, h => exact absurd h (by omega)
set_option maxRecDepth 100000 in
theorem luX2 : ∀ w ∈ u_ws RX2 TX2 5, w ∈ lw_tbl := by
  intro w hw
  obtain ⟨j, hj, rfl⟩ := List.mem_map.mp hw
  have hj := List.mem_range.mp hj
  match j, hj with
  | 0, _ => exact (tb1 193 rfl)
  | 1, _ => exact (tb1 195 rfl)
  | 2, _ => exact (tb1 197 rfl)
  | 3, _ => exact (tb1 199 rfl)
  | 4, _ => exact (tb1 201 rfl)
  | j + 5, h => exact absurd h (by omega)
set_option maxRecDepth 100000 in
theorem luX3 : ∀ w ∈ u_ws RX3 TX3 6, w ∈ lw_tbl := by
  intro w hw
  obtain ⟨j, hj, rfl⟩ := List.mem_map.mp hw
  have hj := List.mem_range.mp hj
  match j, hj with
  | 0, _ => exact (tb1 166 rfl)
  | 1, _ => exact (tb1 168 rfl)
  | 2, _ => exact (tb1 170 rfl)
  | 3, _ => exact (tb1 172 rfl)
  | 4, _ => exact (tb1 174 rfl)
  | 5, _ => exact (tb1 176 rfl)
  | j + 6, h => exact absurd h (by omega)
set_option maxRecDepth 100000 in
theorem luX4 : ∀ w ∈ u_ws RX4 TX4 6, w ∈ lw_tbl := by
  intro w hw
  obtain ⟨j, hj, rfl⟩ := List.mem_map.mp hw
  have hj := List.mem_range.mp hj
  match j, hj with
  | 0, _ => exact (tb2 52 rfl)
  | 1, _ => exact (tb2 54 rfl)
  | 2, _ => exact (tb2 56 rfl)
  | 3, _ => exact (tb2 58 rfl)
  | 4, _ => exact (tb2 60 rfl)
  | 5, _ => exact (tb2 62 rfl)
  | j + 6, h => exact absurd h (by omega)
set_option maxRecDepth 100000 in
theorem luX5 : ∀ w ∈ u_ws RX5 TX5 6, w ∈ lw_tbl := by
  intro w hw
  obtain ⟨j, hj, rfl⟩ := List.mem_map.mp hw
  have hj := List.mem_range.mp hj
  match j, hj with
  | 0, _ => exact (tb1 51 rfl)
  | 1, _ => exact (tb1 53 rfl)
  | 2, _ => exact (tb1 55 rfl)
  | 3, _ => exact (tb1 57 rfl)
  | 4, _ => exact (tb1 59 rfl)
  | 5, _ => exact (tb1 61 rfl)
  | j + 6, h => exact absurd h (by omega)
set_option maxRecDepth 100000 in
theorem luX6 : ∀ w ∈ u_ws RX6 TX6 17, w ∈ lw_tbl := by
  intro w hw
  obtain ⟨j, hj, rfl⟩ := List.mem_map.mp hw
  have hj := List.mem_range.mp hj
  match j, hj with
  | 0, _ => exact (tb2 89 rfl)
  | 1, _ => exact (tb2 91 rfl)
  | 2, _ => exact (tb2 93 rfl)
  | 3, _ => exact (tb2 95 rfl)
  | 4, _ => exact (tb2 97 rfl)
  | 5, _ => exact (tb2 99 rfl)
  | 6, _ => exact (tb2 101 rfl)
  | 7, _ => exact (tb2 103 rfl)
  | 8, _ => exact (tb2 105 rfl)
  | 9, _ => exact (tb2 107 rfl)
  | 10, _ => exact (tb2 109 rfl)
  | 11, _ => exact (tb2 111 rfl)
  | 12, _ => exact (tb2 113 rfl)
  | 13, _ => exact (tb2 115 rfl)
  | 14, _ => exact (tb2 117 rfl)
  | 15, _ => exact (tb2 119 rfl)
  | 16, _ => exact (tb2 121 rfl)
  | j + 17, h => exact absurd h (by omega)
set_option maxRecDepth 100000 in
theorem luX7 : ∀ w ∈ u_ws RX7 TX7 4, w ∈ lw_tbl := by
  intro w hw
  obtain ⟨j, hj, rfl⟩ := List.mem_map.mp hw
  have hj := List.mem_range.mp hj
  match j, hj with
  | 0, _ => exact (tb2 27 rfl)
  | 1, _ => exact (tb2 29 rfl)
  | 2, _ => exact (tb2 31 rfl)
  | 3, _ => exact (tb2 33 rfl)
  | j + 4, h => exact absurd h (by omega)
set_option maxRecDepth 100000 in
theorem luX8 : ∀ w ∈ u_ws RX8 TX8 9, w ∈ lw_tbl := by
  intro w hw
  obtain ⟨j, hj, rfl⟩ := List.mem_map.mp hw
  have hj := List.mem_range.mp hj
  match j, hj with
  | 0, _ => exact (tb1 132 rfl)
  | 1, _ => exact (tb1 134 rfl)
  | 2, _ => exact (tb1 136 rfl)
  | 3, _ => exact (tb1 138 rfl)
  | 4, _ => exact (tb1 140 rfl)
  | 5, _ => exact (tb1 142 rfl)
  | 6, _ => exact (tb1 144 rfl)
  | 7, _ => exact (tb1 146 rfl)
  | 8, _ => exact (tb1 148 rfl)
  | j + 9, h => exact absurd h (by omega)
set_option maxRecDepth 100000 in
theorem luX9 : ∀ w ∈ u_ws RX9 TX9 7, w ∈ lw_tbl := by
  intro w hw
  obtain ⟨j, hj, rfl⟩ := List.mem_map.mp hw
  have hj := List.mem_range.mp hj
  match j, hj with
  | 0, _ => exact (tb3 99 rfl)
  | 1, _ => exact (tb3 101 rfl)
  | 2, _ => exact (tb3 103 rfl)
  | 3, _ => exact (tb3 105 rfl)
  | 4, _ => exact (tb3 107 rfl)
  | 5, _ => exact (tb3 109 rfl)
  | 6, _ => exact (tb3 111 rfl)
  | j + 7, h => exact absurd h (by omega)
set_option maxRecDepth 100000 in
theorem luX10 : ∀ w ∈ u_ws RX10 TX10 3, w ∈ lw_tbl := by
  intro w hw
  obtain ⟨j, hj, rfl⟩ := List.mem_map.mp hw
  have hj := List.mem_range.mp hj
  match j, hj with
  | 0, _ => exact (tb5 165 rfl)
  | 1, _ => exact (tb5 167 rfl)
  | 2, _ => exact (tb5 169 rfl)
  | j + 3, h => exact absurd h (by omega)
theorem lwC_tbl : ∀ w ∈ bwC, w ∈ lw_tbl := by
  unfold bwC
  exact List.forall_mem_append.mpr ⟨lC0, List.forall_mem_append.mpr ⟨lC1, List.forall_mem_append.mpr ⟨lC2, List.forall_mem_append.mpr ⟨lC3, List.forall_mem_append.mpr ⟨lC4, List.forall_mem_append.mpr ⟨lC5, List.forall_mem_append.mpr ⟨lC6, List.forall_mem_append.mpr ⟨lC7, List.forall_mem_append.mpr ⟨lC8, List.forall_mem_append.mpr ⟨lC9, List.forall_mem_append.mpr ⟨lC10, List.forall_mem_append.mpr ⟨lC11, List.forall_mem_append.mpr ⟨lC12, List.forall_mem_append.mpr ⟨lC13, List.forall_mem_append.mpr ⟨lC14, List.forall_mem_append.mpr ⟨lC15, List.forall_mem_append.mpr ⟨luX0, List.forall_mem_append.mpr ⟨luX1, List.forall_mem_append.mpr ⟨luX2, List.forall_mem_append.mpr ⟨luX3, List.forall_mem_append.mpr ⟨luX4, List.forall_mem_append.mpr ⟨luX5, List.forall_mem_append.mpr ⟨luX6, List.forall_mem_append.mpr ⟨luX7, List.forall_mem_append.mpr ⟨luX8, List.forall_mem_append.mpr ⟨luX9, luX10⟩⟩⟩⟩⟩⟩⟩⟩⟩⟩⟩⟩⟩⟩⟩⟩⟩⟩⟩⟩⟩⟩⟩⟩⟩⟩
