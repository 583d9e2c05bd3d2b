set_option maxRecDepth 20000 in
theorem inX0 : ∀ w ∈ wsX00, w ∈ gtbl := by
  intro w hw
  obtain ⟨k, hk, rfl⟩ := List.mem_map.mp hw
  have hk : k < 6 := List.mem_range.mp hk
  match k, hk with
  | 0, _ => exact gt_t0 (List.mem_of_getElem? (i := 223) rfl) rfl
  | 1, _ => exact gt_t0 (List.mem_of_getElem? (i := 225) rfl) rfl
  | 2, _ => exact gt_t0 (List.mem_of_getElem? (i := 227) rfl) rfl
  | 3, _ => exact gt_t0 (List.mem_of_getElem? (i := 229) rfl) rfl
  | 4, _ => exact gt_t0 (List.mem_of_getElem? (i := 231) rfl) rfl
  | 5, _ => exact gt_t0 (List.mem_of_getElem? (i := 233) rfl) rfl
  | _ + 6, h => exact absurd h (by omega)
set_option maxRecDepth 20000 in
theorem inX1 : ∀ w ∈ wsX10, w ∈ gtbl := by
  intro w hw
  obtain ⟨k, hk, rfl⟩ := List.mem_map.mp hw
  have hk : k < 7 := List.mem_range.mp hk
  match k, hk with
  | 0, _ => exact gt_t0 (List.mem_of_getElem? (i := 193) rfl) rfl
  | 1, _ => exact gt_t0 (List.mem_of_getElem? (i := 195) rfl) rfl
  | 2, _ => exact gt_t0 (List.mem_of_getElem? (i := 197) rfl) rfl
  | 3, _ => exact gt_t0 (List.mem_of_getElem? (i := 199) rfl) rfl
  | 4, _ => exact gt_t0 (List.mem_of_getElem? (i := 201) rfl) rfl
  | 5, _ => exact gt_t0 (List.mem_of_getElem? (i := 203) rfl) rfl
  | 6, _ => exact gt_t0 (List.mem_of_getElem? (i := 205) rfl) rfl
  | _ + 7, h => exact absurd h (by omega)
set_option maxRecDepth 20000 in
theorem inX2 : ∀ w ∈ wsX20, w ∈ gtbl := by
  intro w hw
  obtain ⟨k, hk, rfl⟩ := List.mem_map.mp hw
  have hk : k < 2 := List.mem_range.mp hk
  match k, hk with
  | 0, _ => exact gt_t0 (List.mem_of_getElem? (i := 95) rfl) rfl
  | 1, _ => exact gt_t0 (List.mem_of_getElem? (i := 97) rfl) rfl
  | _ + 2, h => exact absurd h (by omega)
set_option maxRecDepth 20000 in
theorem inX3 : ∀ w ∈ wsX30, w ∈ gtbl := by
  intro w hw
  obtain ⟨k, hk, rfl⟩ := List.mem_map.mp hw
  have hk : k < 6 := List.mem_range.mp hk
  match k, hk with
  | 0, _ => exact gt_t0 (List.mem_of_getElem? (i := 49) rfl) rfl
  | 1, _ => exact gt_t0 (List.mem_of_getElem? (i := 51) rfl) rfl
  | 2, _ => exact gt_t0 (List.mem_of_getElem? (i := 53) rfl) rfl
  | 3, _ => exact gt_t0 (List.mem_of_getElem? (i := 55) rfl) rfl
  | 4, _ => exact gt_t0 (List.mem_of_getElem? (i := 57) rfl) rfl
  | 5, _ => exact gt_t0 (List.mem_of_getElem? (i := 59) rfl) rfl
  | _ + 6, h => exact absurd h (by omega)
set_option maxRecDepth 20000 in
theorem inX4 : ∀ w ∈ wsX40, w ∈ gtbl := by
  intro w hw
  obtain ⟨k, hk, rfl⟩ := List.mem_map.mp hw
  have hk : k < 3 := List.mem_range.mp hk
  match k, hk with
  | 0, _ => exact gt_t1 (List.mem_of_getElem? (i := 8) rfl) rfl
  | 1, _ => exact gt_t1 (List.mem_of_getElem? (i := 10) rfl) rfl
  | 2, _ => exact gt_t1 (List.mem_of_getElem? (i := 12) rfl) rfl
  | _ + 3, h => exact absurd h (by omega)
set_option maxRecDepth 20000 in
theorem inX5 : ∀ w ∈ wsX50, w ∈ gtbl := by
  intro w hw
  obtain ⟨k, hk, rfl⟩ := List.mem_map.mp hw
  have hk : k < 5 := List.mem_range.mp hk
  match k, hk with
  | 0, _ => exact gt_t0 (List.mem_of_getElem? (i := 75) rfl) rfl
  | 1, _ => exact gt_t0 (List.mem_of_getElem? (i := 77) rfl) rfl
  | 2, _ => exact gt_t0 (List.mem_of_getElem? (i := 79) rfl) rfl
  | 3, _ => exact gt_t0 (List.mem_of_getElem? (i := 81) rfl) rfl
  | 4, _ => exact gt_t0 (List.mem_of_getElem? (i := 83) rfl) rfl
  | _ + 5, h => exact absurd h (by omega)
set_option maxRecDepth 20000 in
theorem inX6 : ∀ w ∈ wsX60, w ∈ gtbl := by
  intro w hw
  obtain ⟨k, hk, rfl⟩ := List.mem_map.mp hw
  have hk : k < 7 := List.mem_range.mp hk
  match k, hk with
  | 0, _ => exact gt_t0 (List.mem_of_getElem? (i := 162) rfl) rfl
  | 1, _ => exact gt_t0 (List.mem_of_getElem? (i := 164) rfl) rfl
  | 2, _ => exact gt_t0 (List.mem_of_getElem? (i := 166) rfl) rfl
  | 3, _ => exact gt_t0 (List.mem_of_getElem? (i := 168) rfl) rfl
  | 4, _ => exact gt_t0 (List.mem_of_getElem? (i := 170) rfl) rfl
  | 5, _ => exact gt_t0 (List.mem_of_getElem? (i := 172) rfl) rfl
  | 6, _ => exact gt_t0 (List.mem_of_getElem? (i := 174) rfl) rfl
  | _ + 7, h => exact absurd h (by omega)
set_option maxRecDepth 20000 in
theorem inX7 : ∀ w ∈ wsX70, w ∈ gtbl := by
  intro w hw
  obtain ⟨k, hk, rfl⟩ := List.mem_map.mp hw
  have hk : k < 5 := List.mem_range.mp hk
  match k, hk with
  | 0, _ => exact gt_t0 (List.mem_of_getElem? (i := 117) rfl) rfl
  | 1, _ => exact gt_t0 (List.mem_of_getElem? (i := 119) rfl) rfl
  | 2, _ => exact gt_t0 (List.mem_of_getElem? (i := 121) rfl) rfl
  | 3, _ => exact gt_t0 (List.mem_of_getElem? (i := 123) rfl) rfl
  | 4, _ => exact gt_t0 (List.mem_of_getElem? (i := 125) rfl) rfl
  | _ + 5, h => exact absurd h (by omega)
set_option maxRecDepth 20000 in
theorem inX8 : ∀ w ∈ wsX80, w ∈ gtbl := by
  intro w hw
  obtain ⟨k, hk, rfl⟩ := List.mem_map.mp hw
  have hk : k < 4 := List.mem_range.mp hk
  match k, hk with
  | 0, _ => exact gt_t0 (List.mem_of_getElem? (i := 139) rfl) rfl
  | 1, _ => exact gt_t0 (List.mem_of_getElem? (i := 141) rfl) rfl
  | 2, _ => exact gt_t0 (List.mem_of_getElem? (i := 143) rfl) rfl
  | 3, _ => exact gt_t0 (List.mem_of_getElem? (i := 145) rfl) rfl
  | _ + 4, h => exact absurd h (by omega)
set_option maxRecDepth 20000 in
theorem inX9 : ∀ w ∈ wsX90, w ∈ gtbl := by
  intro w hw
  obtain ⟨k, hk, rfl⟩ := List.mem_map.mp hw
  have hk : k < 9 := List.mem_range.mp hk
  match k, hk with
  | 0, _ => exact gt_t1 (List.mem_of_getElem? (i := 24) rfl) rfl
  | 1, _ => exact gt_t1 (List.mem_of_getElem? (i := 26) rfl) rfl
  | 2, _ => exact gt_t1 (List.mem_of_getElem? (i := 28) rfl) rfl
  | 3, _ => exact gt_t1 (List.mem_of_getElem? (i := 30) rfl) rfl
  | 4, _ => exact gt_t1 (List.mem_of_getElem? (i := 32) rfl) rfl
  | 5, _ => exact gt_t1 (List.mem_of_getElem? (i := 34) rfl) rfl
  | 6, _ => exact gt_t1 (List.mem_of_getElem? (i := 36) rfl) rfl
  | 7, _ => exact gt_t1 (List.mem_of_getElem? (i := 38) rfl) rfl
  | 8, _ => exact gt_t1 (List.mem_of_getElem? (i := 40) rfl) rfl
  | _ + 9, h => exact absurd h (by omega)
set_option maxRecDepth 20000 in
theorem inX10 : ∀ w ∈ wsX100, w ∈ gtbl := by
  intro w hw
  obtain ⟨k, hk, rfl⟩ := List.mem_map.mp hw
  have hk : k < 63 := List.mem_range.mp hk
  match k, hk with
  | 0, _ => exact gt_t3 (List.mem_of_getElem? (i := 131) rfl) rfl
  | 1, _ => exact gt_t3 (List.mem_of_getElem? (i := 133) rfl) rfl
  | 2, _ => exact gt_t3 (List.mem_of_getElem? (i := 135) rfl) rfl
  | 3, _ => exact gt_t3 (List.mem_of_getElem? (i := 137) rfl) rfl
  | 4, _ => exact gt_t3 (List.mem_of_getElem? (i := 139) rfl) rfl
  | 5, _ => exact gt_t3 (List.mem_of_getElem? (i := 141) rfl) rfl
  | 6, _ => exact gt_t3 (List.mem_of_getElem? (i := 143) rfl) rfl
  | 7, _ => exact gt_t3 (List.mem_of_getElem? (i := 145) rfl) rfl
  | 8, _ => exact gt_t3 (List.mem_of_getElem? (i := 147) rfl) rfl
  | 9, _ => exact gt_t3 (List.mem_of_getElem? (i := 149) rfl) rfl
  | 10, _ => exact gt_t3 (List.mem_of_getElem? (i := 151) rfl) rfl
  | 11, _ => exact gt_t3 (List.mem_of_getElem? (i := 153) rfl) rfl
  | 12, _ => exact gt_t3 (List.mem_of_getElem? (i := 155) rfl) rfl
  | 13, _ => exact gt_t3 (List.mem_of_getElem? (i := 157) rfl) rfl
  | 14, _ => exact gt_t3 (List.mem_of_getElem? (i := 159) rfl) rfl
  | 15, _ => exact gt_t3 (List.mem_of_getElem? (i := 161) rfl) rfl
  | 16, _ => exact gt_t3 (List.mem_of_getElem? (i := 163) rfl) rfl
  | 17, _ => exact gt_t3 (List.mem_of_getElem? (i := 165) rfl) rfl
  | 18, _ => exact gt_t3 (List.mem_of_getElem? (i := 167) rfl) rfl
  | 19, _ => exact gt_t3 (List.mem_of_getElem? (i := 169) rfl) rfl
  | 20, _ => exact gt_t3 (List.mem_of_getElem? (i := 171) rfl) rfl
  | 21, _ => exact gt_t3 (List.mem_of_getElem? (i := 173) rfl) rfl
  | 22, _ => exact gt_t3 (List.mem_of_getElem? (i := 175) rfl) rfl
  | 23, _ => exact gt_t3 (List.mem_of_getElem? (i := 177) rfl) rfl
  | 24, _ => exact gt_t3 (List.mem_of_getElem? (i := 179) rfl) rfl
  | 25, _ => exact gt_t3 (List.mem_of_getElem? (i := 181) rfl) rfl
  | 26, _ => exact gt_t3 (List.mem_of_getElem? (i := 183) rfl) rfl
  | 27, _ => exact gt_t3 (List.mem_of_getElem? (i := 185) rfl) rfl
  | 28, _ => exact gt_t3 (List.mem_of_getElem? (i := 187) rfl) rfl
  | 29, _ => exact gt_t3 (List.mem_of_getElem? (i := 189) rfl) rfl
  | 30, _ => exact gt_t3 (List.mem_of_getElem? (i := 191) rfl) rfl
  | 31, _ => exact gt_t3 (List.mem_of_getElem? (i := 193) rfl) rfl
  | 32, _ => exact gt_t3 (List.mem_of_getElem? (i := 195) rfl) rfl
  | 33, _ => exact gt_t3 (List.mem_of_getElem? (i := 197) rfl) rfl
  | 34, _ => exact gt_t3 (List.mem_of_getElem? (i := 199) rfl) rfl
  | 35, _ => exact gt_t3 (List.mem_of_getElem? (i := 201) rfl) rfl
  | 36, _ => exact gt_t3 (List.mem_of_getElem? (i := 203) rfl) rfl
  | 37, _ => exact gt_t3 (List.mem_of_getElem? (i := 205) rfl) rfl
  | 38, _ => exact gt_t3 (List.mem_of_getElem? (i := 207) rfl) rfl
  | 39, _ => exact gt_t3 (List.mem_of_getElem? (i := 209) rfl) rfl
  | 40, _ => exact gt_t3 (List.mem_of_getElem? (i := 211) rfl) rfl
  | 41, _ => exact gt_t3 (List.mem_of_getElem? (i := 213) rfl) rfl
  | 42, _ => exact gt_t3 (List.mem_of_getElem? (i := 215) rfl) rfl
  | 43, _ => exact gt_t3 (List.mem_of_getElem? (i := 217) rfl) rfl
  | 44, _ => exact gt_t3 (List.mem_of_getElem? (i := 219) rfl) rfl
  | 45, _ => exact gt_t3 (List.mem_of_getElem? (i := 221) rfl) rfl
  | 46, _ => exact gt_t3 (List.mem_of_getElem? (i := 223) rfl) rfl
  | 47, _ => exact gt_t3 (List.mem_of_getElem? (i := 225) rfl) rfl
  | 48, _ => exact gt_t3 (List.mem_of_getElem? (i := 227) rfl) rfl
  | 49, _ => exact gt_t3 (List.mem_of_getElem? (i := 229) rfl) rfl
  | 50, _ => exact gt_t3 (List.mem_of_getElem? (i := 231) rfl) rfl
  | 51, _ => exact gt_t3 (List.mem_of_getElem? (i := 233) rfl) rfl
  | 52, _ => exact gt_t3 (List.mem_of_getElem? (i := 235) rfl) rfl
  | 53, _ => exact gt_t3 (List.mem_of_getElem? (i := 237) rfl) rfl
  | 54, _ => exact gt_t3 (List.mem_of_getElem? (i := 239) rfl) rfl
  | 55, _ => exact gt_t4 (List.mem_of_getElem? (i := 1) rfl) rfl
  | 56, _ => exact gt_t4 (List.mem_of_getElem? (i := 3) rfl) rfl
  | 57, _ => exact gt_t4 (List.mem_of_getElem? (i := 5) rfl) rfl
  | 58, _ => exact gt_t4 (List.mem_of_getElem? (i := 7) rfl) rfl
  | 59, _ => exact gt_t4 (List.mem_of_getElem? (i := 9) rfl) rfl
  | 60, _ => exact gt_t4 (List.mem_of_getElem? (i := 11) rfl) rfl
  | 61, _ => exact gt_t4 (List.mem_of_getElem? (i := 13) rfl) rfl
  | 62, _ => exact gt_t4 (List.mem_of_getElem? (i := 15) rfl) rfl
  | _ + 63, h => exact absurd h (by omega)
