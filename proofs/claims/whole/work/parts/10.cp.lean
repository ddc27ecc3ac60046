/-! constant pools, the words of methods: printed by program -/
theorem gtp (ws : List Cond) (ps : List Nat) (hp : ws = ps.filterMap (fun i => tables_1[i]?)) (g : ws.all goodWord = true) : ∀ w ∈ ws, w ∈ gtb := by
  intro w hw
  have h1 := List.all_eq_true.mp g w hw
  rw [hp] at hw
  obtain ⟨i, -, hi⟩ := List.mem_filterMap.mp hw
  exact gtm i hi h1
theorem inGX0 : ∀ w ∈ u_ws RX0 TX0 4, w ∈ gtb := gtp _ [188, 190, 192, 194] (by decide +kernel) (by decide +kernel)
theorem inGX1 : ∀ w ∈ u_ws RX1 TX1 6, w ∈ gtb := gtp _ [211, 213, 215, 217, 219, 221] (by decide +kernel) (by decide +kernel)
theorem inGX2 : ∀ w ∈ u_ws RX2 TX2 10, w ∈ gtb := gtp _ [154, 156, 158, 160, 162, 164, 166, 168, 170, 172] (by decide +kernel) (by decide +kernel)
theorem inGX4 : ∀ w ∈ u_ws RX4 TX4 9, w ∈ gtb := gtp _ [113, 115, 117, 119, 121, 123, 125, 127, 129] (by decide +kernel) (by decide +kernel)
theorem inGX5 : ∀ w ∈ u_ws RX5 TX5 3, w ∈ gtb := gtp _ [29, 31, 33] (by decide +kernel) (by decide +kernel)
theorem inGX6 : ∀ w ∈ u_ws RX6 TX6 10, w ∈ gtb := gtp _ [55, 57, 59, 61, 63, 65, 67, 69, 71, 73] (by decide +kernel) (by decide +kernel)
theorem inGX7 : ∀ w ∈ u_ws RX7 TX7 15, w ∈ gtb := gtp _ [239, 241, 243, 245, 247, 249, 251, 253, 255, 257, 259, 261, 263, 265, 267] (by decide +kernel) (by decide +kernel)
theorem inGX8 : ∀ w ∈ u_ws RX8 TX8 28, w ∈ gtb := gtp _ [766, 768, 770, 772, 774, 776, 778, 780, 782, 784, 786, 788, 790, 792, 794, 796, 798, 800, 802, 804, 806, 808, 810, 812, 814, 816, 818, 820] (by decide +kernel) (by decide +kernel)
def cpX5 (i : Nat) : Option CE := match i with
  | 9 => some (0, 4, 0, false)
  | 13 => some (0, 4, 1, false)
  | 16 => some (0, 4, 2, false)
  | 19 => some (4, 0, 0, false)
  | _ => none
theorem cpX5_ok : ∀ i e, cpX5 i = some e → cpV RX5 i e := by
  intro i e h
  unfold cpX5 at h
  split at h
  · cases h; exact ⟨RX5, TX5, 3, rfl, by decide, inGX5, gtm 26 (by decide +kernel) (by decide +kernel)⟩
  · cases h; exact ⟨RX5, TX5, 3, rfl, by decide, inGX5, gtm 27 (by decide +kernel) (by decide +kernel)⟩
  · cases h; exact ⟨RX5, TX5, 3, rfl, by decide, inGX5, gtm 28 (by decide +kernel) (by decide +kernel)⟩
  · cases h; exact ⟨gtm 319 (by decide +kernel) (by decide +kernel), gtm 321 (by decide +kernel) (by decide +kernel), gtm 320 (by decide +kernel) (by decide +kernel), gtm 9 (by decide +kernel) (by decide +kernel)⟩
  · cases h
def cpX6 (i : Nat) : Option CE := match i with
  | 11 => some (0, 5, 0, false)
  | 15 => some (5, 5, 1, false)
  | 19 => some (5, 5, 2, false)
  | 27 => some (5, 5, 6, false)
  | 30 => some (5, 5, 8, true)
  | 34 => some (5, 5, 9, true)
  | 40 => some (5, 5, 3, false)
  | 47 => some (5, 5, 4, false)
  | 57 => some (5, 5, 5, false)
  | 79 => some (5, 3, 0, false)
  | 89 => some (5, 3, 1, false)
  | 96 => some (5, 5, 7, false)
  | _ => none
theorem cpX6_ok : ∀ i e, cpX6 i = some e → cpV RX6 i e := by
  intro i e h
  unfold cpX6 at h
  split at h
  · cases h; exact ⟨RX6, TX6, 10, rfl, by decide, inGX6, gtm 43 (by decide +kernel) (by decide +kernel)⟩
  · cases h; exact ⟨RX6, TX6, 10, tyX6, rfl, by decide, inGX6, gtm 44 (by decide +kernel) (by decide +kernel), tyX6_ok, nmX6, rfl, by decide +kernel⟩
  · cases h; exact ⟨RX6, TX6, 10, tyX6, rfl, by decide, inGX6, gtm 46 (by decide +kernel) (by decide +kernel), tyX6_ok, nmX6, rfl, by decide +kernel⟩
  · cases h; exact ⟨RX6, TX6, 10, tyX6, rfl, by decide, inGX6, gtm 51 (by decide +kernel) (by decide +kernel), tyX6_ok, nmX6, rfl, by decide +kernel⟩
  · cases h; exact ⟨RX6, TX6, 10, tyX6, rfl, by decide, inGX6, gtm 53 (by decide +kernel) (by decide +kernel), tyX6_ok, nmX6, rfl, by decide +kernel⟩
  · cases h; exact ⟨RX6, TX6, 10, tyX6, rfl, by decide, inGX6, gtm 54 (by decide +kernel) (by decide +kernel), tyX6_ok, nmX6, rfl, by decide +kernel⟩
  · cases h; exact ⟨RX6, TX6, 10, tyX6, rfl, by decide, inGX6, gtm 48 (by decide +kernel) (by decide +kernel), tyX6_ok, nmX6, rfl, by decide +kernel⟩
  · cases h; exact ⟨RX6, TX6, 10, tyX6, rfl, by decide, inGX6, gtm 49 (by decide +kernel) (by decide +kernel), tyX6_ok, nmX6, rfl, by decide +kernel⟩
  · cases h; exact ⟨RX6, TX6, 10, tyX6, rfl, by decide, inGX6, gtm 50 (by decide +kernel) (by decide +kernel), tyX6_ok, nmX6, rfl, by decide +kernel⟩
  · cases h; exact ⟨RX4, TX4, 9, tyX4, rfl, by decide, inGX4, gtm 85 (by decide +kernel) (by decide +kernel), tyX4_ok, nmX4, rfl, by decide +kernel⟩
  · cases h; exact ⟨RX4, TX4, 9, tyX4, rfl, by decide, inGX4, gtm 90 (by decide +kernel) (by decide +kernel), tyX4_ok, nmX4, rfl, by decide +kernel⟩
  · cases h; exact ⟨RX6, TX6, 10, tyX6, rfl, by decide, inGX6, gtm 52 (by decide +kernel) (by decide +kernel), tyX6_ok, nmX6, rfl, by decide +kernel⟩
  · cases h
def cpX7 (i : Nat) : Option CE := match i with
  | 10 => some (0, 6, 0, false)
  | 19 => some (0, 6, 1, false)
  | 26 => some (0, 6, 2, false)
  | 33 => some (0, 6, 3, false)
  | 37 => some (0, 6, 4, false)
  | 40 => some (0, 6, 5, false)
  | 43 => some (0, 6, 6, false)
  | 50 => some (0, 6, 7, false)
  | 57 => some (0, 6, 8, false)
  | 61 => some (5, 6, 9, true)
  | 65 => some (5, 6, 10, true)
  | 68 => some (5, 6, 11, false)
  | 72 => some (5, 6, 12, false)
  | 75 => some (5, 6, 13, false)
  | 78 => some (5, 6, 14, false)
  | 85 => some (1, -1000001, 0, false)
  | 119 => some (5, 5, 1, false)
  | 122 => some (1, -1000003, 0, false)
  | 130 => some (1, -1000100, 0, false)
  | 131 => some (5, 5, 2, false)
  | 144 => some (5, 3, 1, false)
  | 153 => some (0, 3, 7, false)
  | 157 => some (1, -1000002, 0, false)
  | 164 => some (0, 3, 3, false)
  | 174 => some (5, 3, 0, false)
  | 180 => some (5, 0, 0, false)
  | 207 => some (0, 3, 8, false)
  | 214 => some (0, 2, 4, false)
  | 217 => some (0, 2, 5, false)
  | 223 => some (0, 3, 6, false)
  | 226 => some (0, 2, 3, false)
  | 232 => some (0, 3, 4, false)
  | 235 => some (0, 3, 5, false)
  | 238 => some (5, 2, 0, false)
  | 241 => some (5, 2, 1, false)
  | 244 => some (5, 2, 2, false)
  | 263 => some (5, 3, 2, false)
  | 275 => some (1, 999999, 0, false)
  | 292 => some (5, 1, 0, false)
  | 295 => some (0, 1, 1, false)
  | 298 => some (1, -1000000, 0, false)
  | 302 => some (1, -1000010, 0, false)
  | 306 => some (1, 1000000, 0, false)
  | 322 => some (2, 16807, 0, false)
  | 324 => some (2, 2147483647, 0, false)
  | 326 => some (2, 32, 0, false)
  | 328 => some (2, 12, 0, false)
  | _ => none
theorem cpX7_ok : ∀ i e, cpX7 i = some e → cpV RX7 i e := by
  intro i e h
  unfold cpX7 at h
  split at h
  · cases h; exact ⟨RX7, TX7, 15, rfl, by decide, inGX7, gtm 224 (by decide +kernel) (by decide +kernel)⟩
  · cases h; exact ⟨RX7, TX7, 15, rfl, by decide, inGX7, gtm 225 (by decide +kernel) (by decide +kernel)⟩
  · cases h; exact ⟨RX7, TX7, 15, rfl, by decide, inGX7, gtm 226 (by decide +kernel) (by decide +kernel)⟩
  · cases h; exact ⟨RX7, TX7, 15, rfl, by decide, inGX7, gtm 227 (by decide +kernel) (by decide +kernel)⟩
  · cases h; exact ⟨RX7, TX7, 15, rfl, by decide, inGX7, gtm 228 (by decide +kernel) (by decide +kernel)⟩
  · cases h; exact ⟨RX7, TX7, 15, rfl, by decide, inGX7, gtm 229 (by decide +kernel) (by decide +kernel)⟩
  · cases h; exact ⟨RX7, TX7, 15, rfl, by decide, inGX7, gtm 230 (by decide +kernel) (by decide +kernel)⟩
  · cases h; exact ⟨RX7, TX7, 15, rfl, by decide, inGX7, gtm 231 (by decide +kernel) (by decide +kernel)⟩
  · cases h; exact ⟨RX7, TX7, 15, rfl, by decide, inGX7, gtm 232 (by decide +kernel) (by decide +kernel)⟩
  · cases h; exact ⟨RX7, TX7, 15, tyX7, rfl, by decide, inGX7, gtm 233 (by decide +kernel) (by decide +kernel), tyX7_ok, nmX7, rfl, by decide +kernel⟩
  · cases h; exact ⟨RX7, TX7, 15, tyX7, rfl, by decide, inGX7, gtm 234 (by decide +kernel) (by decide +kernel), tyX7_ok, nmX7, rfl, by decide +kernel⟩
  · cases h; exact ⟨RX7, TX7, 15, tyX7, rfl, by decide, inGX7, gtm 235 (by decide +kernel) (by decide +kernel), tyX7_ok, nmX7, rfl, by decide +kernel⟩
  · cases h; exact ⟨RX7, TX7, 15, tyX7, rfl, by decide, inGX7, gtm 236 (by decide +kernel) (by decide +kernel), tyX7_ok, nmX7, rfl, by decide +kernel⟩
  · cases h; exact ⟨RX7, TX7, 15, tyX7, rfl, by decide, inGX7, gtm 237 (by decide +kernel) (by decide +kernel), tyX7_ok, nmX7, rfl, by decide +kernel⟩
  · cases h; exact ⟨RX7, TX7, 15, tyX7, rfl, by decide, inGX7, gtm 238 (by decide +kernel) (by decide +kernel), tyX7_ok, nmX7, rfl, by decide +kernel⟩
  · cases h; exact gtm 277 (by decide +kernel) (by decide +kernel)
  · cases h; exact ⟨RX6, TX6, 10, tyX6, rfl, by decide, inGX6, gtm 45 (by decide +kernel) (by decide +kernel), tyX6_ok, nmX6, rfl, by decide +kernel⟩
  · cases h; exact gtm 334 (by decide +kernel) (by decide +kernel)
  · cases h; exact gtm 412 (by decide +kernel) (by decide +kernel)
  · cases h; exact ⟨RX6, TX6, 10, tyX6, rfl, by decide, inGX6, gtm 47 (by decide +kernel) (by decide +kernel), tyX6_ok, nmX6, rfl, by decide +kernel⟩
  · cases h; exact ⟨RX4, TX4, 9, tyX4, rfl, by decide, inGX4, gtm 89 (by decide +kernel) (by decide +kernel), tyX4_ok, nmX4, rfl, by decide +kernel⟩
  · cases h; exact ⟨RX4, TX4, 9, rfl, by decide, inGX4, gtm 109 (by decide +kernel) (by decide +kernel)⟩
  · cases h; exact gtm 439 (by decide +kernel) (by decide +kernel)
  · cases h; exact ⟨RX4, TX4, 9, rfl, by decide, inGX4, gtm 96 (by decide +kernel) (by decide +kernel)⟩
  · cases h; exact ⟨RX4, TX4, 9, tyX4, rfl, by decide, inGX4, gtm 86 (by decide +kernel) (by decide +kernel), tyX4_ok, nmX4, rfl, by decide +kernel⟩
  · cases h; exact ⟨RX0, TX0, 4, tyX0, rfl, by decide, inGX0, gtm 184 (by decide +kernel) (by decide +kernel), tyX0_ok, nmX0, rfl, by decide +kernel⟩
  · cases h; exact ⟨RX4, TX4, 9, rfl, by decide, inGX4, gtm 112 (by decide +kernel) (by decide +kernel)⟩
  · cases h; exact ⟨RX2, TX2, 10, rfl, by decide, inGX2, gtm 147 (by decide +kernel) (by decide +kernel)⟩
  · cases h; exact ⟨RX2, TX2, 10, rfl, by decide, inGX2, gtm 149 (by decide +kernel) (by decide +kernel)⟩
  · cases h; exact ⟨RX4, TX4, 9, rfl, by decide, inGX4, gtm 105 (by decide +kernel) (by decide +kernel)⟩
  · cases h; exact ⟨RX2, TX2, 10, rfl, by decide, inGX2, gtm 145 (by decide +kernel) (by decide +kernel)⟩
  · cases h; exact ⟨RX4, TX4, 9, rfl, by decide, inGX4, gtm 99 (by decide +kernel) (by decide +kernel)⟩
  · cases h; exact ⟨RX4, TX4, 9, rfl, by decide, inGX4, gtm 102 (by decide +kernel) (by decide +kernel)⟩
  · cases h; exact ⟨RX2, TX2, 10, tyX2, rfl, by decide, inGX2, gtm 139 (by decide +kernel) (by decide +kernel), tyX2_ok, nmX2, rfl, by decide +kernel⟩
  · cases h; exact ⟨RX2, TX2, 10, tyX2, rfl, by decide, inGX2, gtm 141 (by decide +kernel) (by decide +kernel), tyX2_ok, nmX2, rfl, by decide +kernel⟩
  · cases h; exact ⟨RX2, TX2, 10, tyX2, rfl, by decide, inGX2, gtm 143 (by decide +kernel) (by decide +kernel), tyX2_ok, nmX2, rfl, by decide +kernel⟩
  · cases h; exact ⟨RX4, TX4, 9, tyX4, rfl, by decide, inGX4, gtm 93 (by decide +kernel) (by decide +kernel), tyX4_ok, nmX4, rfl, by decide +kernel⟩
  · cases h; exact gtm 665 (by decide +kernel) (by decide +kernel)
  · cases h; exact ⟨RX1, TX1, 6, tyX1, rfl, by decide, inGX1, gtm 204 (by decide +kernel) (by decide +kernel), tyX1_ok, nmX1, rfl, by decide +kernel⟩
  · cases h; exact ⟨RX1, TX1, 6, rfl, by decide, inGX1, gtm 206 (by decide +kernel) (by decide +kernel)⟩
  · cases h; exact gtm 635 (by decide +kernel) (by decide +kernel)
  · cases h; exact gtm 282 (by decide +kernel) (by decide +kernel)
  · cases h; exact gtm 606 (by decide +kernel) (by decide +kernel)
  · cases h; exact gtm 670 (by decide +kernel) (by decide +kernel)
  · cases h; exact gtm 671 (by decide +kernel) (by decide +kernel)
  · cases h; exact gtm 672 (by decide +kernel) (by decide +kernel)
  · cases h; exact gtm 673 (by decide +kernel) (by decide +kernel)
  · cases h
def cpX4 (i : Nat) : Option CE := match i with
  | 9 => some (5, 3, 0, false)
  | 15 => some (5, 3, 1, false)
  | 18 => some (5, 3, 2, false)
  | 21 => some (0, 3, 3, false)
  | 25 => some (0, 3, 4, false)
  | 28 => some (0, 3, 5, false)
  | 31 => some (0, 3, 6, false)
  | 34 => some (0, 3, 7, false)
  | 37 => some (0, 3, 8, false)
  | 40 => some (4, 0, 0, false)
  | _ => none
theorem cpX4_ok : ∀ i e, cpX4 i = some e → cpV RX4 i e := by
  intro i e h
  unfold cpX4 at h
  split at h
  · cases h; exact ⟨RX4, TX4, 9, tyX4, rfl, by decide, inGX4, gtm 82 (by decide +kernel) (by decide +kernel), tyX4_ok, nmX4, rfl, by decide +kernel⟩
  · cases h; exact ⟨RX4, TX4, 9, tyX4, rfl, by decide, inGX4, gtm 87 (by decide +kernel) (by decide +kernel), tyX4_ok, nmX4, rfl, by decide +kernel⟩
  · cases h; exact ⟨RX4, TX4, 9, tyX4, rfl, by decide, inGX4, gtm 91 (by decide +kernel) (by decide +kernel), tyX4_ok, nmX4, rfl, by decide +kernel⟩
  · cases h; exact ⟨RX4, TX4, 9, rfl, by decide, inGX4, gtm 94 (by decide +kernel) (by decide +kernel)⟩
  · cases h; exact ⟨RX4, TX4, 9, rfl, by decide, inGX4, gtm 97 (by decide +kernel) (by decide +kernel)⟩
  · cases h; exact ⟨RX4, TX4, 9, rfl, by decide, inGX4, gtm 100 (by decide +kernel) (by decide +kernel)⟩
  · cases h; exact ⟨RX4, TX4, 9, rfl, by decide, inGX4, gtm 103 (by decide +kernel) (by decide +kernel)⟩
  · cases h; exact ⟨RX4, TX4, 9, rfl, by decide, inGX4, gtm 106 (by decide +kernel) (by decide +kernel)⟩
  · cases h; exact ⟨RX4, TX4, 9, rfl, by decide, inGX4, gtm 110 (by decide +kernel) (by decide +kernel)⟩
  · cases h; exact ⟨gtm 417 (by decide +kernel) (by decide +kernel), gtm 321 (by decide +kernel) (by decide +kernel), gtm 320 (by decide +kernel) (by decide +kernel), gtm 9 (by decide +kernel) (by decide +kernel)⟩
  · cases h
def cpX0 (i : Nat) : Option CE := match i with
  | 7 => some (5, 0, 0, false)
  | 13 => some (0, 0, 1, false)
  | 17 => some (0, 0, 2, false)
  | 20 => some (0, 0, 3, false)
  | 26 => some (4, 0, 0, false)
  | 32 => some (0, 3, 7, false)
  | 37 => some (0, 3, 3, false)
  | 40 => some (5, 3, 0, false)
  | _ => none
theorem cpX0_ok : ∀ i e, cpX0 i = some e → cpV RX0 i e := by
  intro i e h
  unfold cpX0 at h
  split at h
  · cases h; exact ⟨RX0, TX0, 4, tyX0, rfl, by decide, inGX0, gtm 183 (by decide +kernel) (by decide +kernel), tyX0_ok, nmX0, rfl, by decide +kernel⟩
  · cases h; exact ⟨RX0, TX0, 4, rfl, by decide, inGX0, gtm 185 (by decide +kernel) (by decide +kernel)⟩
  · cases h; exact ⟨RX0, TX0, 4, rfl, by decide, inGX0, gtm 186 (by decide +kernel) (by decide +kernel)⟩
  · cases h; exact ⟨RX0, TX0, 4, rfl, by decide, inGX0, gtm 187 (by decide +kernel) (by decide +kernel)⟩
  · cases h; exact ⟨gtm 452 (by decide +kernel) (by decide +kernel), gtm 321 (by decide +kernel) (by decide +kernel), gtm 320 (by decide +kernel) (by decide +kernel), gtm 9 (by decide +kernel) (by decide +kernel)⟩
  · cases h; exact ⟨RX4, TX4, 9, rfl, by decide, inGX4, gtm 107 (by decide +kernel) (by decide +kernel)⟩
  · cases h; exact ⟨RX4, TX4, 9, rfl, by decide, inGX4, gtm 95 (by decide +kernel) (by decide +kernel)⟩
  · cases h; exact ⟨RX4, TX4, 9, tyX4, rfl, by decide, inGX4, gtm 83 (by decide +kernel) (by decide +kernel), tyX4_ok, nmX4, rfl, by decide +kernel⟩
  · cases h
def cpX2 (i : Nat) : Option CE := match i with
  | 9 => some (5, 2, 0, false)
  | 15 => some (5, 2, 1, false)
  | 18 => some (5, 2, 2, false)
  | 21 => some (0, 2, 3, false)
  | 25 => some (0, 2, 4, false)
  | 28 => some (0, 2, 5, false)
  | 31 => some (0, 2, 6, false)
  | 34 => some (0, 2, 7, false)
  | 38 => some (0, 2, 8, false)
  | 41 => some (0, 2, 9, false)
  | 44 => some (5, 3, 1, false)
  | 65 => some (0, 3, 5, false)
  | 72 => some (1, 1000000, 0, false)
  | 73 => some (2, 99999999, 0, false)
  | 81 => some (5, 3, 2, false)
  | 84 => some (0, 3, 8, false)
  | 87 => some (0, 3, 6, false)
  | 90 => some (0, 3, 4, false)
  | 93 => some (5, 3, 0, false)
  | 99 => some (0, 3, 7, false)
  | 120 => some (1, -1000000, 0, false)
  | _ => none
theorem cpX2_ok : ∀ i e, cpX2 i = some e → cpV RX2 i e := by
  intro i e h
  unfold cpX2 at h
  split at h
  · cases h; exact ⟨RX2, TX2, 10, tyX2, rfl, by decide, inGX2, gtm 138 (by decide +kernel) (by decide +kernel), tyX2_ok, nmX2, rfl, by decide +kernel⟩
  · cases h; exact ⟨RX2, TX2, 10, tyX2, rfl, by decide, inGX2, gtm 140 (by decide +kernel) (by decide +kernel), tyX2_ok, nmX2, rfl, by decide +kernel⟩
  · cases h; exact ⟨RX2, TX2, 10, tyX2, rfl, by decide, inGX2, gtm 142 (by decide +kernel) (by decide +kernel), tyX2_ok, nmX2, rfl, by decide +kernel⟩
  · cases h; exact ⟨RX2, TX2, 10, rfl, by decide, inGX2, gtm 144 (by decide +kernel) (by decide +kernel)⟩
  · cases h; exact ⟨RX2, TX2, 10, rfl, by decide, inGX2, gtm 146 (by decide +kernel) (by decide +kernel)⟩
  · cases h; exact ⟨RX2, TX2, 10, rfl, by decide, inGX2, gtm 148 (by decide +kernel) (by decide +kernel)⟩
  · cases h; exact ⟨RX2, TX2, 10, rfl, by decide, inGX2, gtm 150 (by decide +kernel) (by decide +kernel)⟩
  · cases h; exact ⟨RX2, TX2, 10, rfl, by decide, inGX2, gtm 151 (by decide +kernel) (by decide +kernel)⟩
  · cases h; exact ⟨RX2, TX2, 10, rfl, by decide, inGX2, gtm 152 (by decide +kernel) (by decide +kernel)⟩
  · cases h; exact ⟨RX2, TX2, 10, rfl, by decide, inGX2, gtm 153 (by decide +kernel) (by decide +kernel)⟩
  · cases h; exact ⟨RX4, TX4, 9, tyX4, rfl, by decide, inGX4, gtm 88 (by decide +kernel) (by decide +kernel), tyX4_ok, nmX4, rfl, by decide +kernel⟩
  · cases h; exact ⟨RX4, TX4, 9, rfl, by decide, inGX4, gtm 101 (by decide +kernel) (by decide +kernel)⟩
  · cases h; exact gtm 548 (by decide +kernel) (by decide +kernel)
  · cases h; exact gtm 567 (by decide +kernel) (by decide +kernel)
  · cases h; exact ⟨RX4, TX4, 9, tyX4, rfl, by decide, inGX4, gtm 92 (by decide +kernel) (by decide +kernel), tyX4_ok, nmX4, rfl, by decide +kernel⟩
  · cases h; exact ⟨RX4, TX4, 9, rfl, by decide, inGX4, gtm 111 (by decide +kernel) (by decide +kernel)⟩
  · cases h; exact ⟨RX4, TX4, 9, rfl, by decide, inGX4, gtm 104 (by decide +kernel) (by decide +kernel)⟩
  · cases h; exact ⟨RX4, TX4, 9, rfl, by decide, inGX4, gtm 98 (by decide +kernel) (by decide +kernel)⟩
  · cases h; exact ⟨RX4, TX4, 9, tyX4, rfl, by decide, inGX4, gtm 84 (by decide +kernel) (by decide +kernel), tyX4_ok, nmX4, rfl, by decide +kernel⟩
  · cases h; exact ⟨RX4, TX4, 9, rfl, by decide, inGX4, gtm 108 (by decide +kernel) (by decide +kernel)⟩
  · cases h; exact gtm 587 (by decide +kernel) (by decide +kernel)
  · cases h
def cpX1 (i : Nat) : Option CE := match i with
  | 7 => some (5, 1, 0, false)
  | 13 => some (0, 1, 1, false)
  | 17 => some (5, 1, 2, false)
  | 20 => some (5, 1, 3, false)
  | 23 => some (5, 1, 4, false)
  | 26 => some (5, 1, 5, false)
  | 29 => some (3, 0, 76, false)
  | 32 => some (3, 0, 77, false)
  | 35 => some (3, 0, 78, false)
  | _ => none
theorem cpX1_ok : ∀ i e, cpX1 i = some e → cpV RX1 i e := by
  intro i e h
  unfold cpX1 at h
  split at h
  · cases h; exact ⟨RX1, TX1, 6, tyX1, rfl, by decide, inGX1, gtm 203 (by decide +kernel) (by decide +kernel), tyX1_ok, nmX1, rfl, by decide +kernel⟩
  · cases h; exact ⟨RX1, TX1, 6, rfl, by decide, inGX1, gtm 205 (by decide +kernel) (by decide +kernel)⟩
  · cases h; exact ⟨RX1, TX1, 6, tyX1, rfl, by decide, inGX1, gtm 207 (by decide +kernel) (by decide +kernel), tyX1_ok, nmX1, rfl, by decide +kernel⟩
  · cases h; exact ⟨RX1, TX1, 6, tyX1, rfl, by decide, inGX1, gtm 208 (by decide +kernel) (by decide +kernel), tyX1_ok, nmX1, rfl, by decide +kernel⟩
  · cases h; exact ⟨RX1, TX1, 6, tyX1, rfl, by decide, inGX1, gtm 209 (by decide +kernel) (by decide +kernel), tyX1_ok, nmX1, rfl, by decide +kernel⟩
  · cases h; exact ⟨RX1, TX1, 6, tyX1, rfl, by decide, inGX1, gtm 210 (by decide +kernel) (by decide +kernel), tyX1_ok, nmX1, rfl, by decide +kernel⟩
  · cases h; exact Or.inl ⟨rfl, gtm 693 (by decide +kernel) (by decide +kernel)⟩
  · cases h; exact Or.inr (Or.inl ⟨rfl, gtm 703 (by decide +kernel) (by decide +kernel)⟩)
  · cases h; exact Or.inr (Or.inr ⟨rfl, gtm 705 (by decide +kernel) (by decide +kernel)⟩)
  · cases h
def cpX8 (i : Nat) : Option CE := match i with
  | 7 => some (0, 7, 0, false)
  | 13 => some (0, 7, 1, false)
  | 16 => some (0, 7, 2, false)
  | 19 => some (0, 7, 3, false)
  | 22 => some (0, 7, 5, false)
  | 25 => some (0, 7, 13, false)
  | 28 => some (0, 7, 14, false)
  | 31 => some (0, 7, 15, false)
  | 34 => some (0, 7, 16, false)
  | 37 => some (0, 7, 18, false)
  | 40 => some (0, 7, 19, false)
  | 44 => some (0, 7, 20, false)
  | 47 => some (0, 7, 21, false)
  | 50 => some (0, 7, 22, false)
  | 53 => some (0, 7, 24, false)
  | 56 => some (0, 7, 25, false)
  | 59 => some (0, 7, 26, false)
  | 62 => some (1, -1000000, 0, false)
  | 63 => some (5, 7, 4, false)
  | 67 => some (1, -1000010, 0, false)
  | 76 => some (1, -1000001, 0, false)
  | 94 => some (5, 7, 6, false)
  | 97 => some (1, -1000003, 0, false)
  | 98 => some (5, 7, 9, false)
  | 101 => some (5, 7, 10, false)
  | 107 => some (5, 7, 12, false)
  | 110 => some (5, 7, 11, false)
  | 113 => some (5, 7, 8, false)
  | 120 => some (5, 7, 7, false)
  | 146 => some (1, -1000100, 0, false)
  | 151 => some (5, 7, 17, false)
  | 191 => some (1, 99999999, 0, false)
  | 199 => some (5, 7, 23, false)
  | 208 => some (1, -1000002, 0, false)
  | 251 => some (1, 999999, 0, false)
  | 252 => some (2, 16807, 0, false)
  | 254 => some (2, 2147483647, 0, false)
  | 256 => some (2, 32, 0, false)
  | 258 => some (2, 12, 0, false)
  | 263 => some (5, 7, 27, false)
  | _ => none
theorem cpX8_ok : ∀ i e, cpX8 i = some e → cpV RX8 i e := by
  intro i e h
  unfold cpX8 at h
  split at h
  · cases h; exact ⟨RX8, TX8, 28, rfl, by decide, inGX8, gtm 738 (by decide +kernel) (by decide +kernel)⟩
  · cases h; exact ⟨RX8, TX8, 28, rfl, by decide, inGX8, gtm 739 (by decide +kernel) (by decide +kernel)⟩
  · cases h; exact ⟨RX8, TX8, 28, rfl, by decide, inGX8, gtm 740 (by decide +kernel) (by decide +kernel)⟩
  · cases h; exact ⟨RX8, TX8, 28, rfl, by decide, inGX8, gtm 741 (by decide +kernel) (by decide +kernel)⟩
  · cases h; exact ⟨RX8, TX8, 28, rfl, by decide, inGX8, gtm 743 (by decide +kernel) (by decide +kernel)⟩
  · cases h; exact ⟨RX8, TX8, 28, rfl, by decide, inGX8, gtm 751 (by decide +kernel) (by decide +kernel)⟩
  · cases h; exact ⟨RX8, TX8, 28, rfl, by decide, inGX8, gtm 752 (by decide +kernel) (by decide +kernel)⟩
  · cases h; exact ⟨RX8, TX8, 28, rfl, by decide, inGX8, gtm 753 (by decide +kernel) (by decide +kernel)⟩
  · cases h; exact ⟨RX8, TX8, 28, rfl, by decide, inGX8, gtm 754 (by decide +kernel) (by decide +kernel)⟩
  · cases h; exact ⟨RX8, TX8, 28, rfl, by decide, inGX8, gtm 756 (by decide +kernel) (by decide +kernel)⟩
  · cases h; exact ⟨RX8, TX8, 28, rfl, by decide, inGX8, gtm 757 (by decide +kernel) (by decide +kernel)⟩
  · cases h; exact ⟨RX8, TX8, 28, rfl, by decide, inGX8, gtm 758 (by decide +kernel) (by decide +kernel)⟩
  · cases h; exact ⟨RX8, TX8, 28, rfl, by decide, inGX8, gtm 759 (by decide +kernel) (by decide +kernel)⟩
  · cases h; exact ⟨RX8, TX8, 28, rfl, by decide, inGX8, gtm 760 (by decide +kernel) (by decide +kernel)⟩
  · cases h; exact ⟨RX8, TX8, 28, rfl, by decide, inGX8, gtm 762 (by decide +kernel) (by decide +kernel)⟩
  · cases h; exact ⟨RX8, TX8, 28, rfl, by decide, inGX8, gtm 763 (by decide +kernel) (by decide +kernel)⟩
  · cases h; exact ⟨RX8, TX8, 28, rfl, by decide, inGX8, gtm 764 (by decide +kernel) (by decide +kernel)⟩
  · cases h; exact gtm 737 (by decide +kernel) (by decide +kernel)
  · cases h; exact ⟨RX8, TX8, 28, tyX8, rfl, by decide, inGX8, gtm 742 (by decide +kernel) (by decide +kernel), tyX8_ok, nmX8, rfl, by decide +kernel⟩
  · cases h; exact gtm 839 (by decide +kernel) (by decide +kernel)
  · cases h; exact gtm 834 (by decide +kernel) (by decide +kernel)
  · cases h; exact ⟨RX8, TX8, 28, tyX8, rfl, by decide, inGX8, gtm 744 (by decide +kernel) (by decide +kernel), tyX8_ok, nmX8, rfl, by decide +kernel⟩
  · cases h; exact gtm 871 (by decide +kernel) (by decide +kernel)
  · cases h; exact ⟨RX8, TX8, 28, tyX8, rfl, by decide, inGX8, gtm 747 (by decide +kernel) (by decide +kernel), tyX8_ok, nmX8, rfl, by decide +kernel⟩
  · cases h; exact ⟨RX8, TX8, 28, tyX8, rfl, by decide, inGX8, gtm 748 (by decide +kernel) (by decide +kernel), tyX8_ok, nmX8, rfl, by decide +kernel⟩
  · cases h; exact ⟨RX8, TX8, 28, tyX8, rfl, by decide, inGX8, gtm 750 (by decide +kernel) (by decide +kernel), tyX8_ok, nmX8, rfl, by decide +kernel⟩
  · cases h; exact ⟨RX8, TX8, 28, tyX8, rfl, by decide, inGX8, gtm 749 (by decide +kernel) (by decide +kernel), tyX8_ok, nmX8, rfl, by decide +kernel⟩
  · cases h; exact ⟨RX8, TX8, 28, tyX8, rfl, by decide, inGX8, gtm 746 (by decide +kernel) (by decide +kernel), tyX8_ok, nmX8, rfl, by decide +kernel⟩
  · cases h; exact ⟨RX8, TX8, 28, tyX8, rfl, by decide, inGX8, gtm 745 (by decide +kernel) (by decide +kernel), tyX8_ok, nmX8, rfl, by decide +kernel⟩
  · cases h; exact gtm 911 (by decide +kernel) (by decide +kernel)
  · cases h; exact ⟨RX8, TX8, 28, tyX8, rfl, by decide, inGX8, gtm 755 (by decide +kernel) (by decide +kernel), tyX8_ok, nmX8, rfl, by decide +kernel⟩
  · cases h; exact gtm 1018 (by decide +kernel) (by decide +kernel)
  · cases h; exact ⟨RX8, TX8, 28, tyX8, rfl, by decide, inGX8, gtm 761 (by decide +kernel) (by decide +kernel), tyX8_ok, nmX8, rfl, by decide +kernel⟩
  · cases h; exact gtm 927 (by decide +kernel) (by decide +kernel)
  · cases h; exact gtm 1080 (by decide +kernel) (by decide +kernel)
  · cases h; exact gtm 1081 (by decide +kernel) (by decide +kernel)
  · cases h; exact gtm 1082 (by decide +kernel) (by decide +kernel)
  · cases h; exact gtm 1083 (by decide +kernel) (by decide +kernel)
  · cases h; exact gtm 1084 (by decide +kernel) (by decide +kernel)
  · cases h; exact ⟨RX8, TX8, 28, tyX8, rfl, by decide, inGX8, gtm 765 (by decide +kernel) (by decide +kernel), tyX8_ok, nmX8, rfl, by decide +kernel⟩
  · cases h
def cpN (i : Nat) : Option CE := match i with
  | _ => none
theorem cpN_ok (own : String) : ∀ i e, cpN i = some e → cpV own i e := by
  intro i e h
  cases h
def mwI (y : MethodName) (bc : ByteArray) (mL : Nat) (rt : Option FieldType) : Prop := Cond.code y bc mL rt ∈ gtb ∧ Cond.initialized y.cls ∈ gtb ∧ (y.cls ≠ "java/lang/invoke/MethodHandle" ∧ y.cls ≠ "java/lang/invoke/VarHandle") ∧ Cond.instanceMethod y ∈ gtb ∧ Cond.selects y.cls y y ∈ gtb
def mwS (y : MethodName) (bc : ByteArray) (mL : Nat) (rt : Option FieldType) : Prop := Cond.code y bc mL rt ∈ gtb ∧ Cond.initialized y.cls ∈ gtb ∧ (y.cls ≠ "java/lang/invoke/MethodHandle" ∧ y.cls ≠ "java/lang/invoke/VarHandle") ∧ Cond.static y ∈ gtb
theorem mw_X7_row : mwI yX7_row cX7_row 4 (some .int) := ⟨gtm 273 (by decide +kernel) (by decide +kernel), gtm 1 (by decide +kernel) (by decide +kernel), ⟨by decide +kernel, by decide +kernel⟩, gtm 271 (by decide +kernel) (by decide +kernel), gtm 272 (by decide +kernel) (by decide +kernel)⟩
theorem mw_X5_isRow : mwS yX5_isRow cX5_isRow 1 (some .boolean) := ⟨gtm 276 (by decide +kernel) (by decide +kernel), gtm 2 (by decide +kernel) (by decide +kernel), ⟨by decide +kernel, by decide +kernel⟩, gtm 275 (by decide +kernel) (by decide +kernel)⟩
theorem mw_X7_found : mwI yX7_found cX7_found 2 (some .int) := ⟨gtm 281 (by decide +kernel) (by decide +kernel), gtm 1 (by decide +kernel) (by decide +kernel), ⟨by decide +kernel, by decide +kernel⟩, gtm 280 (by decide +kernel) (by decide +kernel), gts 0 (by decide +kernel) (by decide +kernel)⟩
theorem mw_X5_make : mwI yX5_make cX5_make 5 none := ⟨gtm 286 (by decide +kernel) (by decide +kernel), gtm 2 (by decide +kernel) (by decide +kernel), ⟨by decide +kernel, by decide +kernel⟩, gtm 284 (by decide +kernel) (by decide +kernel), gtm 285 (by decide +kernel) (by decide +kernel)⟩
theorem mw_X7_fine : mwI yX7_fine cX7_fine 2 (some .int) := ⟨gtm 290 (by decide +kernel) (by decide +kernel), gtm 1 (by decide +kernel) (by decide +kernel), ⟨by decide +kernel, by decide +kernel⟩, gtm 289 (by decide +kernel) (by decide +kernel), gts 1 (by decide +kernel) (by decide +kernel)⟩
theorem mw_X7_set : mwI yX7_set cX7_set 4 (some .int) := ⟨gtm 294 (by decide +kernel) (by decide +kernel), gtm 1 (by decide +kernel) (by decide +kernel), ⟨by decide +kernel, by decide +kernel⟩, gtm 292 (by decide +kernel) (by decide +kernel), gtm 293 (by decide +kernel) (by decide +kernel)⟩
theorem mw_X5_isMissing : mwI yX5_isMissing cX5_isMissing 2 (some .boolean) := ⟨gtm 298 (by decide +kernel) (by decide +kernel), gtm 2 (by decide +kernel) (by decide +kernel), ⟨by decide +kernel, by decide +kernel⟩, gtm 296 (by decide +kernel) (by decide +kernel), gtm 297 (by decide +kernel) (by decide +kernel)⟩
theorem mw_X5_holds : mwI yX5_holds cX5_holds 4 (some .boolean) := ⟨gtm 302 (by decide +kernel) (by decide +kernel), gtm 2 (by decide +kernel) (by decide +kernel), ⟨by decide +kernel, by decide +kernel⟩, gtm 300 (by decide +kernel) (by decide +kernel), gtm 301 (by decide +kernel) (by decide +kernel)⟩
theorem mw_X5_put : mwI yX5_put cX5_put 5 (some .int) := ⟨gtm 306 (by decide +kernel) (by decide +kernel), gtm 2 (by decide +kernel) (by decide +kernel), ⟨by decide +kernel, by decide +kernel⟩, gtm 304 (by decide +kernel) (by decide +kernel), gtm 305 (by decide +kernel) (by decide +kernel)⟩
theorem mw_X7_copy : mwI yX7_copy cX7_copy 6 (some .int) := ⟨gtm 310 (by decide +kernel) (by decide +kernel), gtm 1 (by decide +kernel) (by decide +kernel), ⟨by decide +kernel, by decide +kernel⟩, gtm 308 (by decide +kernel) (by decide +kernel), gtm 309 (by decide +kernel) (by decide +kernel)⟩
theorem mw_X5_ofOneLane : mwI yX5_ofOneLane cX5_ofOneLane 3 (some .boolean) := ⟨gtm 314 (by decide +kernel) (by decide +kernel), gtm 2 (by decide +kernel) (by decide +kernel), ⟨by decide +kernel, by decide +kernel⟩, gtm 312 (by decide +kernel) (by decide +kernel), gtm 313 (by decide +kernel) (by decide +kernel)⟩
theorem mw_X5_carry : mwI yX5_carry cX5_carry 6 none := ⟨gtm 318 (by decide +kernel) (by decide +kernel), gtm 2 (by decide +kernel) (by decide +kernel), ⟨by decide +kernel, by decide +kernel⟩, gtm 316 (by decide +kernel) (by decide +kernel), gtm 317 (by decide +kernel) (by decide +kernel)⟩
theorem mw_X7_drop : mwI yX7_drop cX7_drop 2 (some .int) := ⟨gtm 325 (by decide +kernel) (by decide +kernel), gtm 1 (by decide +kernel) (by decide +kernel), ⟨by decide +kernel, by decide +kernel⟩, gtm 323 (by decide +kernel) (by decide +kernel), gtm 324 (by decide +kernel) (by decide +kernel)⟩
theorem mw_X5_lose : mwI yX5_lose cX5_lose 3 (some .int) := ⟨gtm 329 (by decide +kernel) (by decide +kernel), gtm 2 (by decide +kernel) (by decide +kernel), ⟨by decide +kernel, by decide +kernel⟩, gtm 327 (by decide +kernel) (by decide +kernel), gtm 328 (by decide +kernel) (by decide +kernel)⟩
theorem mw_X7_feed : mwI yX7_feed cX7_feed 2 (some .int) := ⟨gtm 333 (by decide +kernel) (by decide +kernel), gtm 1 (by decide +kernel) (by decide +kernel), ⟨by decide +kernel, by decide +kernel⟩, gtm 331 (by decide +kernel) (by decide +kernel), gtm 332 (by decide +kernel) (by decide +kernel)⟩
theorem mw_X6_put : mwI yX6_put cX6_put 2 none := ⟨gtm 338 (by decide +kernel) (by decide +kernel), gtm 3 (by decide +kernel) (by decide +kernel), ⟨by decide +kernel, by decide +kernel⟩, gtm 336 (by decide +kernel) (by decide +kernel), gtm 337 (by decide +kernel) (by decide +kernel)⟩
theorem mw_X7_piece : mwI yX7_piece cX7_piece 2 (some .int) := ⟨gtm 342 (by decide +kernel) (by decide +kernel), gtm 1 (by decide +kernel) (by decide +kernel), ⟨by decide +kernel, by decide +kernel⟩, gtm 340 (by decide +kernel) (by decide +kernel), gtm 341 (by decide +kernel) (by decide +kernel)⟩
theorem mw_X6_readInto : mwI yX6_readInto cX6_readInto 4 (some .int) := ⟨gtm 346 (by decide +kernel) (by decide +kernel), gtm 3 (by decide +kernel) (by decide +kernel), ⟨by decide +kernel, by decide +kernel⟩, gtm 344 (by decide +kernel) (by decide +kernel), gtm 345 (by decide +kernel) (by decide +kernel)⟩
theorem mw_X4_clear : mwI yX4_clear cX4_clear 1 none := ⟨gtm 350 (by decide +kernel) (by decide +kernel), gtm 4 (by decide +kernel) (by decide +kernel), ⟨by decide +kernel, by decide +kernel⟩, gtm 348 (by decide +kernel) (by decide +kernel), gtm 349 (by decide +kernel) (by decide +kernel)⟩
theorem mw_X6_takeToken : mwI yX6_takeToken cX6_takeToken 3 none := ⟨gtm 354 (by decide +kernel) (by decide +kernel), gtm 3 (by decide +kernel) (by decide +kernel), ⟨by decide +kernel, by decide +kernel⟩, gtm 353 (by decide +kernel) (by decide +kernel), gts 2 (by decide +kernel) (by decide +kernel)⟩
theorem mw_X6_isFigure : mwI yX6_isFigure cX6_isFigure 2 (some .boolean) := ⟨gtm 358 (by decide +kernel) (by decide +kernel), gtm 3 (by decide +kernel) (by decide +kernel), ⟨by decide +kernel, by decide +kernel⟩, gtm 357 (by decide +kernel) (by decide +kernel), gts 3 (by decide +kernel) (by decide +kernel)⟩
theorem mw_X6_takeNumber : mwI yX6_takeNumber cX6_takeNumber 1 none := ⟨gtm 362 (by decide +kernel) (by decide +kernel), gtm 3 (by decide +kernel) (by decide +kernel), ⟨by decide +kernel, by decide +kernel⟩, gtm 361 (by decide +kernel) (by decide +kernel), gts 4 (by decide +kernel) (by decide +kernel)⟩
theorem mw_X6_step : mwI yX6_step cX6_step 2 (some .int) := ⟨gtm 366 (by decide +kernel) (by decide +kernel), gtm 3 (by decide +kernel) (by decide +kernel), ⟨by decide +kernel, by decide +kernel⟩, gtm 365 (by decide +kernel) (by decide +kernel), gts 5 (by decide +kernel) (by decide +kernel)⟩
theorem mw_X6_want : mwI yX6_want cX6_want 3 (some .int) := ⟨gtm 370 (by decide +kernel) (by decide +kernel), gtm 3 (by decide +kernel) (by decide +kernel), ⟨by decide +kernel, by decide +kernel⟩, gtm 369 (by decide +kernel) (by decide +kernel), gts 6 (by decide +kernel) (by decide +kernel)⟩
theorem mw_X6_takeSignature : mwI yX6_takeSignature cX6_takeSignature 2 (some .int) := ⟨gtm 374 (by decide +kernel) (by decide +kernel), gtm 3 (by decide +kernel) (by decide +kernel), ⟨by decide +kernel, by decide +kernel⟩, gtm 373 (by decide +kernel) (by decide +kernel), gts 7 (by decide +kernel) (by decide +kernel)⟩
theorem mw_X7_isSignature : mwS yX7_isSignature cX7_isSignature 1 (some .boolean) := ⟨gtm 377 (by decide +kernel) (by decide +kernel), gtm 1 (by decide +kernel) (by decide +kernel), ⟨by decide +kernel, by decide +kernel⟩, gtm 376 (by decide +kernel) (by decide +kernel)⟩
theorem mw_X6_takeKey : mwI yX6_takeKey cX6_takeKey 2 (some .int) := ⟨gtm 381 (by decide +kernel) (by decide +kernel), gtm 3 (by decide +kernel) (by decide +kernel), ⟨by decide +kernel, by decide +kernel⟩, gtm 380 (by decide +kernel) (by decide +kernel), gts 8 (by decide +kernel) (by decide +kernel)⟩
theorem mw_X7_isKey : mwS yX7_isKey cX7_isKey 1 (some .boolean) := ⟨gtm 384 (by decide +kernel) (by decide +kernel), gtm 1 (by decide +kernel) (by decide +kernel), ⟨by decide +kernel, by decide +kernel⟩, gtm 383 (by decide +kernel) (by decide +kernel)⟩
theorem mw_X4_addKey : mwI yX4_addKey cX4_addKey 2 none := ⟨gtm 388 (by decide +kernel) (by decide +kernel), gtm 4 (by decide +kernel) (by decide +kernel), ⟨by decide +kernel, by decide +kernel⟩, gtm 386 (by decide +kernel) (by decide +kernel), gtm 387 (by decide +kernel) (by decide +kernel)⟩
theorem mw_X6_endKey : mwI yX6_endKey cX6_endKey 3 (some .int) := ⟨gtm 392 (by decide +kernel) (by decide +kernel), gtm 3 (by decide +kernel) (by decide +kernel), ⟨by decide +kernel, by decide +kernel⟩, gtm 391 (by decide +kernel) (by decide +kernel), gts 9 (by decide +kernel) (by decide +kernel)⟩
theorem mw_X4_sizeOf : mwI yX4_sizeOf cX4_sizeOf 2 (some .int) := ⟨gtm 396 (by decide +kernel) (by decide +kernel), gtm 4 (by decide +kernel) (by decide +kernel), ⟨by decide +kernel, by decide +kernel⟩, gtm 394 (by decide +kernel) (by decide +kernel), gtm 395 (by decide +kernel) (by decide +kernel)⟩
theorem mw_X6_takeLetter : mwI yX6_takeLetter cX6_takeLetter 2 (some .int) := ⟨gtm 400 (by decide +kernel) (by decide +kernel), gtm 3 (by decide +kernel) (by decide +kernel), ⟨by decide +kernel, by decide +kernel⟩, gtm 399 (by decide +kernel) (by decide +kernel), gts 10 (by decide +kernel) (by decide +kernel)⟩
theorem mw_X6_takeSort : mwI yX6_takeSort cX6_takeSort 3 (some .int) := ⟨gtm 404 (by decide +kernel) (by decide +kernel), gtm 3 (by decide +kernel) (by decide +kernel), ⟨by decide +kernel, by decide +kernel⟩, gtm 403 (by decide +kernel) (by decide +kernel), gts 11 (by decide +kernel) (by decide +kernel)⟩
theorem mw_X6_kindOfSort : mwS yX6_kindOfSort cX6_kindOfSort 1 (some .int) := ⟨gtm 407 (by decide +kernel) (by decide +kernel), gtm 3 (by decide +kernel) (by decide +kernel), ⟨by decide +kernel, by decide +kernel⟩, gtm 406 (by decide +kernel) (by decide +kernel)⟩
theorem mw_X4_addChord : mwI yX4_addChord cX4_addChord 4 none := ⟨gtm 411 (by decide +kernel) (by decide +kernel), gtm 4 (by decide +kernel) (by decide +kernel), ⟨by decide +kernel, by decide +kernel⟩, gtm 409 (by decide +kernel) (by decide +kernel), gtm 410 (by decide +kernel) (by decide +kernel)⟩
theorem mw_X4_becomeLike : mwI yX4_becomeLike cX4_becomeLike 2 none := ⟨gtm 416 (by decide +kernel) (by decide +kernel), gtm 4 (by decide +kernel) (by decide +kernel), ⟨by decide +kernel, by decide +kernel⟩, gtm 414 (by decide +kernel) (by decide +kernel), gtm 415 (by decide +kernel) (by decide +kernel)⟩
theorem mw_X0_forgetAll : mwI yX0_forgetAll cX0_forgetAll 1 none := ⟨gtm 421 (by decide +kernel) (by decide +kernel), gtm 6 (by decide +kernel) (by decide +kernel), ⟨by decide +kernel, by decide +kernel⟩, gtm 419 (by decide +kernel) (by decide +kernel), gtm 420 (by decide +kernel) (by decide +kernel)⟩
theorem mw_X7_changed : mwI yX7_changed cX7_changed 1 none := ⟨gtm 425 (by decide +kernel) (by decide +kernel), gtm 1 (by decide +kernel) (by decide +kernel), ⟨by decide +kernel, by decide +kernel⟩, gtm 424 (by decide +kernel) (by decide +kernel), gts 12 (by decide +kernel) (by decide +kernel)⟩
theorem mw_X7_fault : mwI yX7_fault cX7_fault 1 (some .int) := ⟨gtm 429 (by decide +kernel) (by decide +kernel), gtm 1 (by decide +kernel) (by decide +kernel), ⟨by decide +kernel, by decide +kernel⟩, gtm 427 (by decide +kernel) (by decide +kernel), gtm 428 (by decide +kernel) (by decide +kernel)⟩
theorem mw_X7_key : mwI yX7_key cX7_key 4 (some .int) := ⟨gtm 433 (by decide +kernel) (by decide +kernel), gtm 1 (by decide +kernel) (by decide +kernel), ⟨by decide +kernel, by decide +kernel⟩, gtm 431 (by decide +kernel) (by decide +kernel), gtm 432 (by decide +kernel) (by decide +kernel)⟩
theorem mw_X7_isNote : mwI yX7_isNote cX7_isNote 2 (some .boolean) := ⟨gtm 437 (by decide +kernel) (by decide +kernel), gtm 1 (by decide +kernel) (by decide +kernel), ⟨by decide +kernel, by decide +kernel⟩, gtm 436 (by decide +kernel) (by decide +kernel), gts 13 (by decide +kernel) (by decide +kernel)⟩
theorem mw_X7_acted : mwI yX7_acted cX7_acted 4 none := ⟨gtm 443 (by decide +kernel) (by decide +kernel), gtm 1 (by decide +kernel) (by decide +kernel), ⟨by decide +kernel, by decide +kernel⟩, gtm 442 (by decide +kernel) (by decide +kernel), gts 14 (by decide +kernel) (by decide +kernel)⟩
theorem mw_X0_keep : mwI yX0_keep cX0_keep 4 none := ⟨gtm 447 (by decide +kernel) (by decide +kernel), gtm 6 (by decide +kernel) (by decide +kernel), ⟨by decide +kernel, by decide +kernel⟩, gtm 445 (by decide +kernel) (by decide +kernel), gtm 446 (by decide +kernel) (by decide +kernel)⟩
theorem mw_X0_forgetOldest : mwI yX0_forgetOldest cX0_forgetOldest 1 none := ⟨gtm 451 (by decide +kernel) (by decide +kernel), gtm 6 (by decide +kernel) (by decide +kernel), ⟨by decide +kernel, by decide +kernel⟩, gtm 450 (by decide +kernel) (by decide +kernel), gts 15 (by decide +kernel) (by decide +kernel)⟩
theorem mw_X7_become : mwI yX7_become cX7_become 4 (some .int) := ⟨gtm 456 (by decide +kernel) (by decide +kernel), gtm 1 (by decide +kernel) (by decide +kernel), ⟨by decide +kernel, by decide +kernel⟩, gtm 454 (by decide +kernel) (by decide +kernel), gtm 455 (by decide +kernel) (by decide +kernel)⟩
theorem mw_X7_isChord : mwI yX7_isChord cX7_isChord 2 (some .boolean) := ⟨gtm 460 (by decide +kernel) (by decide +kernel), gtm 1 (by decide +kernel) (by decide +kernel), ⟨by decide +kernel, by decide +kernel⟩, gtm 459 (by decide +kernel) (by decide +kernel), gts 16 (by decide +kernel) (by decide +kernel)⟩
theorem mw_X7_sign : mwI yX7_sign cX7_sign 3 (some .int) := ⟨gtm 464 (by decide +kernel) (by decide +kernel), gtm 1 (by decide +kernel) (by decide +kernel), ⟨by decide +kernel, by decide +kernel⟩, gtm 462 (by decide +kernel) (by decide +kernel), gtm 463 (by decide +kernel) (by decide +kernel)⟩
theorem mw_X7_isNoPiece : mwI yX7_isNoPiece cX7_isNoPiece 1 (some .boolean) := ⟨gtm 468 (by decide +kernel) (by decide +kernel), gtm 1 (by decide +kernel) (by decide +kernel), ⟨by decide +kernel, by decide +kernel⟩, gtm 467 (by decide +kernel) (by decide +kernel), gts 17 (by decide +kernel) (by decide +kernel)⟩
theorem mw_X7_shift : mwI yX7_shift cX7_shift 2 (some .int) := ⟨gtm 473 (by decide +kernel) (by decide +kernel), gtm 1 (by decide +kernel) (by decide +kernel), ⟨by decide +kernel, by decide +kernel⟩, gtm 471 (by decide +kernel) (by decide +kernel), gtm 472 (by decide +kernel) (by decide +kernel)⟩
theorem mw_X4_moveBy : mwI yX4_moveBy cX4_moveBy 3 none := ⟨gtm 477 (by decide +kernel) (by decide +kernel), gtm 4 (by decide +kernel) (by decide +kernel), ⟨by decide +kernel, by decide +kernel⟩, gtm 475 (by decide +kernel) (by decide +kernel), gtm 476 (by decide +kernel) (by decide +kernel)⟩
theorem mw_J9_floorMod_7cf53 : mwS yJ9_floorMod_7cf53 cJ9_floorMod_7cf53 3 (some .int) := ⟨gtm 480 (by decide +kernel) (by decide +kernel), gtm 10 (by decide +kernel) (by decide +kernel), ⟨by decide +kernel, by decide +kernel⟩, gtm 479 (by decide +kernel) (by decide +kernel)⟩
theorem mw_X7_undo : mwI yX7_undo cX7_undo 1 (some .int) := ⟨gtm 484 (by decide +kernel) (by decide +kernel), gtm 1 (by decide +kernel) (by decide +kernel), ⟨by decide +kernel, by decide +kernel⟩, gtm 482 (by decide +kernel) (by decide +kernel), gtm 483 (by decide +kernel) (by decide +kernel)⟩
theorem mw_X0_takeBack : mwI yX0_takeBack cX0_takeBack 4 none := ⟨gtm 488 (by decide +kernel) (by decide +kernel), gtm 6 (by decide +kernel) (by decide +kernel), ⟨by decide +kernel, by decide +kernel⟩, gtm 486 (by decide +kernel) (by decide +kernel), gtm 487 (by decide +kernel) (by decide +kernel)⟩
theorem mw_X7_place : mwI yX7_place cX7_place 3 (some .int) := ⟨gtm 493 (by decide +kernel) (by decide +kernel), gtm 1 (by decide +kernel) (by decide +kernel), ⟨by decide +kernel, by decide +kernel⟩, gtm 491 (by decide +kernel) (by decide +kernel), gtm 492 (by decide +kernel) (by decide +kernel)⟩
theorem mw_X3_letterOf : mwS yX3_letterOf cX3_letterOf 1 (some .int) := ⟨gtm 496 (by decide +kernel) (by decide +kernel), gtm 11 (by decide +kernel) (by decide +kernel), ⟨by decide +kernel, by decide +kernel⟩, gtm 495 (by decide +kernel) (by decide +kernel)⟩
theorem mw_X3_alterOf : mwS yX3_alterOf cX3_alterOf 1 (some .int) := ⟨gtm 500 (by decide +kernel) (by decide +kernel), gtm 11 (by decide +kernel) (by decide +kernel), ⟨by decide +kernel, by decide +kernel⟩, gtm 499 (by decide +kernel) (by decide +kernel)⟩
theorem mw_J9_floorDiv_7cf53 : mwS yJ9_floorDiv_7cf53 cJ9_floorDiv_7cf53 3 (some .int) := ⟨gtm 503 (by decide +kernel) (by decide +kernel), gtm 10 (by decide +kernel) (by decide +kernel), ⟨by decide +kernel, by decide +kernel⟩, gtm 502 (by decide +kernel) (by decide +kernel)⟩
theorem mw_X3_keyOf : mwS yX3_keyOf cX3_keyOf 1 (some .int) := ⟨gtm 506 (by decide +kernel) (by decide +kernel), gtm 11 (by decide +kernel) (by decide +kernel), ⟨by decide +kernel, by decide +kernel⟩, gtm 505 (by decide +kernel) (by decide +kernel)⟩
theorem mw_X7_inWindow : mwI yX7_inWindow cX7_inWindow 3 (some .int) := ⟨gtm 510 (by decide +kernel) (by decide +kernel), gtm 1 (by decide +kernel) (by decide +kernel), ⟨by decide +kernel, by decide +kernel⟩, gtm 508 (by decide +kernel) (by decide +kernel), gtm 509 (by decide +kernel) (by decide +kernel)⟩
theorem mw_X7_isWindow : mwS yX7_isWindow cX7_isWindow 1 (some .boolean) := ⟨gtm 513 (by decide +kernel) (by decide +kernel), gtm 1 (by decide +kernel) (by decide +kernel), ⟨by decide +kernel, by decide +kernel⟩, gtm 512 (by decide +kernel) (by decide +kernel)⟩
theorem mw_X3_placeIn : mwS yX3_placeIn cX3_placeIn 2 (some .int) := ⟨gtm 516 (by decide +kernel) (by decide +kernel), gtm 11 (by decide +kernel) (by decide +kernel), ⟨by decide +kernel, by decide +kernel⟩, gtm 515 (by decide +kernel) (by decide +kernel)⟩
theorem mw_X7_head : mwI yX7_head cX7_head 2 (some .int) := ⟨gtm 520 (by decide +kernel) (by decide +kernel), gtm 1 (by decide +kernel) (by decide +kernel), ⟨by decide +kernel, by decide +kernel⟩, gtm 518 (by decide +kernel) (by decide +kernel), gtm 519 (by decide +kernel) (by decide +kernel)⟩
theorem mw_X3_headOf : mwS yX3_headOf cX3_headOf 2 (some .int) := ⟨gtm 523 (by decide +kernel) (by decide +kernel), gtm 11 (by decide +kernel) (by decide +kernel), ⟨by decide +kernel, by decide +kernel⟩, gtm 522 (by decide +kernel) (by decide +kernel)⟩
theorem mw_X7_note : mwI yX7_note cX7_note 3 (some .int) := ⟨gtm 527 (by decide +kernel) (by decide +kernel), gtm 1 (by decide +kernel) (by decide +kernel), ⟨by decide +kernel, by decide +kernel⟩, gtm 525 (by decide +kernel) (by decide +kernel), gtm 526 (by decide +kernel) (by decide +kernel)⟩
theorem mw_X7_settled : mwI yX7_settled cX7_settled 1 (some (.object "SpelledTones$Best")) := ⟨gtm 531 (by decide +kernel) (by decide +kernel), gtm 1 (by decide +kernel) (by decide +kernel), ⟨by decide +kernel, by decide +kernel⟩, gtm 530 (by decide +kernel) (by decide +kernel), gts 18 (by decide +kernel) (by decide +kernel)⟩
theorem mw_X2_solve : mwI yX2_solve cX2_solve 5 none := ⟨gtm 535 (by decide +kernel) (by decide +kernel), gtm 5 (by decide +kernel) (by decide +kernel), ⟨by decide +kernel, by decide +kernel⟩, gtm 533 (by decide +kernel) (by decide +kernel), gtm 534 (by decide +kernel) (by decide +kernel)⟩
theorem mw_X2_goOn : mwI yX2_goOn cX2_goOn 5 none := ⟨gtm 539 (by decide +kernel) (by decide +kernel), gtm 5 (by decide +kernel) (by decide +kernel), ⟨by decide +kernel, by decide +kernel⟩, gtm 538 (by decide +kernel) (by decide +kernel), gts 19 (by decide +kernel) (by decide +kernel)⟩
theorem mw_X4_staysWithin : mwI yX4_staysWithin cX4_staysWithin 2 (some .boolean) := ⟨gtm 543 (by decide +kernel) (by decide +kernel), gtm 4 (by decide +kernel) (by decide +kernel), ⟨by decide +kernel, by decide +kernel⟩, gtm 541 (by decide +kernel) (by decide +kernel), gtm 542 (by decide +kernel) (by decide +kernel)⟩
theorem mw_X2_choose : mwI yX2_choose cX2_choose 12 none := ⟨gtm 547 (by decide +kernel) (by decide +kernel), gtm 5 (by decide +kernel) (by decide +kernel), ⟨by decide +kernel, by decide +kernel⟩, gtm 546 (by decide +kernel) (by decide +kernel), gts 20 (by decide +kernel) (by decide +kernel)⟩
theorem mw_X4_priceBy : mwI yX4_priceBy cX4_priceBy 9 (some .int) := ⟨gtm 552 (by decide +kernel) (by decide +kernel), gtm 4 (by decide +kernel) (by decide +kernel), ⟨by decide +kernel, by decide +kernel⟩, gtm 550 (by decide +kernel) (by decide +kernel), gtm 551 (by decide +kernel) (by decide +kernel)⟩
theorem mw_X4_priceOfName : mwS yX4_priceOfName cX4_priceOfName 5 (some .int) := ⟨gtm 559 (by decide +kernel) (by decide +kernel), gtm 4 (by decide +kernel) (by decide +kernel), ⟨by decide +kernel, by decide +kernel⟩, gtm 558 (by decide +kernel) (by decide +kernel)⟩
theorem mw_J9_abs_0f7a4 : mwS yJ9_abs_0f7a4 cJ9_abs_0f7a4 1 (some .int) := ⟨gtm 562 (by decide +kernel) (by decide +kernel), gtm 10 (by decide +kernel) (by decide +kernel), ⟨by decide +kernel, by decide +kernel⟩, gtm 561 (by decide +kernel) (by decide +kernel)⟩
theorem mw_X2_pick : mwI yX2_pick cX2_pick 7 none := ⟨gtm 566 (by decide +kernel) (by decide +kernel), gtm 5 (by decide +kernel) (by decide +kernel), ⟨by decide +kernel, by decide +kernel⟩, gtm 565 (by decide +kernel) (by decide +kernel), gts 21 (by decide +kernel) (by decide +kernel)⟩
theorem mw_J9_min_f86c9 : mwS yJ9_min_f86c9 cJ9_min_f86c9 4 (some .long) := ⟨gtm 570 (by decide +kernel) (by decide +kernel), gtm 10 (by decide +kernel) (by decide +kernel), ⟨by decide +kernel, by decide +kernel⟩, gtm 569 (by decide +kernel) (by decide +kernel)⟩
theorem mw_X2_spell : mwI yX2_spell cX2_spell 4 none := ⟨gtm 574 (by decide +kernel) (by decide +kernel), gtm 5 (by decide +kernel) (by decide +kernel), ⟨by decide +kernel, by decide +kernel⟩, gtm 572 (by decide +kernel) (by decide +kernel), gtm 573 (by decide +kernel) (by decide +kernel)⟩
theorem mw_X2_beginBar : mwI yX2_beginBar cX2_beginBar 3 none := ⟨gtm 578 (by decide +kernel) (by decide +kernel), gtm 5 (by decide +kernel) (by decide +kernel), ⟨by decide +kernel, by decide +kernel⟩, gtm 577 (by decide +kernel) (by decide +kernel), gts 22 (by decide +kernel) (by decide +kernel)⟩
theorem mw_X2_print : mwI yX2_print cX2_print 4 none := ⟨gtm 584 (by decide +kernel) (by decide +kernel), gtm 5 (by decide +kernel) (by decide +kernel), ⟨by decide +kernel, by decide +kernel⟩, gtm 583 (by decide +kernel) (by decide +kernel), gts 23 (by decide +kernel) (by decide +kernel)⟩
theorem mw_X7_chord : mwI yX7_chord cX7_chord 3 (some .int) := ⟨gtm 591 (by decide +kernel) (by decide +kernel), gtm 1 (by decide +kernel) (by decide +kernel), ⟨by decide +kernel, by decide +kernel⟩, gtm 589 (by decide +kernel) (by decide +kernel), gtm 590 (by decide +kernel) (by decide +kernel)⟩
theorem mw_X7_whole : mwI yX7_whole cX7_whole 2 (some .int) := ⟨gtm 597 (by decide +kernel) (by decide +kernel), gtm 1 (by decide +kernel) (by decide +kernel), ⟨by decide +kernel, by decide +kernel⟩, gtm 595 (by decide +kernel) (by decide +kernel), gtm 596 (by decide +kernel) (by decide +kernel)⟩
theorem mw_X7_signatureOfHeads : mwI yX7_signatureOfHeads cX7_signatureOfHeads 1 (some .int) := ⟨gtm 601 (by decide +kernel) (by decide +kernel), gtm 1 (by decide +kernel) (by decide +kernel), ⟨by decide +kernel, by decide +kernel⟩, gtm 600 (by decide +kernel) (by decide +kernel), gts 24 (by decide +kernel) (by decide +kernel)⟩
theorem mw_X7_findHeads : mwI yX7_findHeads cX7_findHeads 2 none := ⟨gtm 605 (by decide +kernel) (by decide +kernel), gtm 1 (by decide +kernel) (by decide +kernel), ⟨by decide +kernel, by decide +kernel⟩, gtm 604 (by decide +kernel) (by decide +kernel), gts 25 (by decide +kernel) (by decide +kernel)⟩
theorem mw_X7_costOfHeads : mwI yX7_costOfHeads cX7_costOfHeads 1 (some .int) := ⟨gtm 610 (by decide +kernel) (by decide +kernel), gtm 1 (by decide +kernel) (by decide +kernel), ⟨by decide +kernel, by decide +kernel⟩, gtm 609 (by decide +kernel) (by decide +kernel), gts 26 (by decide +kernel) (by decide +kernel)⟩
theorem mw_X7_cheapestOne : mwI yX7_cheapestOne cX7_cheapestOne 5 (some .int) := ⟨gtm 614 (by decide +kernel) (by decide +kernel), gtm 1 (by decide +kernel) (by decide +kernel), ⟨by decide +kernel, by decide +kernel⟩, gtm 613 (by decide +kernel) (by decide +kernel), gts 27 (by decide +kernel) (by decide +kernel)⟩
theorem mw_X7_costOfOne : mwI yX7_costOfOne cX7_costOfOne 4 (some .int) := ⟨gtm 618 (by decide +kernel) (by decide +kernel), gtm 1 (by decide +kernel) (by decide +kernel), ⟨by decide +kernel, by decide +kernel⟩, gtm 617 (by decide +kernel) (by decide +kernel), gts 28 (by decide +kernel) (by decide +kernel)⟩
theorem mw_X7_price : mwI yX7_price cX7_price 3 (some .int) := ⟨gtm 622 (by decide +kernel) (by decide +kernel), gtm 1 (by decide +kernel) (by decide +kernel), ⟨by decide +kernel, by decide +kernel⟩, gtm 620 (by decide +kernel) (by decide +kernel), gtm 621 (by decide +kernel) (by decide +kernel)⟩
theorem mw_X7_cost : mwI yX7_cost cX7_cost 3 (some .int) := ⟨gtm 626 (by decide +kernel) (by decide +kernel), gtm 1 (by decide +kernel) (by decide +kernel), ⟨by decide +kernel, by decide +kernel⟩, gtm 624 (by decide +kernel) (by decide +kernel), gtm 625 (by decide +kernel) (by decide +kernel)⟩
theorem mw_X7_costOfItems : mwI yX7_costOfItems cX7_costOfItems 7 (some .int) := ⟨gtm 630 (by decide +kernel) (by decide +kernel), gtm 1 (by decide +kernel) (by decide +kernel), ⟨by decide +kernel, by decide +kernel⟩, gtm 629 (by decide +kernel) (by decide +kernel), gts 29 (by decide +kernel) (by decide +kernel)⟩
theorem mw_X5_itemOf : mwI yX5_itemOf cX5_itemOf 3 (some .int) := ⟨gtm 634 (by decide +kernel) (by decide +kernel), gtm 2 (by decide +kernel) (by decide +kernel), ⟨by decide +kernel, by decide +kernel⟩, gtm 632 (by decide +kernel) (by decide +kernel), gtm 633 (by decide +kernel) (by decide +kernel)⟩
theorem mw_X4_priceOfStep : mwI yX4_priceOfStep cX4_priceOfStep 5 (some .int) := ⟨gtm 640 (by decide +kernel) (by decide +kernel), gtm 4 (by decide +kernel) (by decide +kernel), ⟨by decide +kernel, by decide +kernel⟩, gtm 638 (by decide +kernel) (by decide +kernel), gtm 639 (by decide +kernel) (by decide +kernel)⟩
theorem mw_X7_fits : mwI yX7_fits cX7_fits 5 (some .int) := ⟨gtm 644 (by decide +kernel) (by decide +kernel), gtm 1 (by decide +kernel) (by decide +kernel), ⟨by decide +kernel, by decide +kernel⟩, gtm 642 (by decide +kernel) (by decide +kernel), gtm 643 (by decide +kernel) (by decide +kernel)⟩
theorem mw_X7_fittingSignatures : mwI yX7_fittingSignatures cX7_fittingSignatures 5 (some .int) := ⟨gtm 648 (by decide +kernel) (by decide +kernel), gtm 1 (by decide +kernel) (by decide +kernel), ⟨by decide +kernel, by decide +kernel⟩, gtm 647 (by decide +kernel) (by decide +kernel), gts 30 (by decide +kernel) (by decide +kernel)⟩
theorem mw_X7_bitIfLettersFit : mwI yX7_bitIfLettersFit cX7_bitIfLettersFit 5 (some .int) := ⟨gtm 652 (by decide +kernel) (by decide +kernel), gtm 1 (by decide +kernel) (by decide +kernel), ⟨by decide +kernel, by decide +kernel⟩, gtm 651 (by decide +kernel) (by decide +kernel), gts 31 (by decide +kernel) (by decide +kernel)⟩
theorem mw_X7_fittingKinds : mwI yX7_fittingKinds cX7_fittingKinds 6 (some .int) := ⟨gtm 656 (by decide +kernel) (by decide +kernel), gtm 1 (by decide +kernel) (by decide +kernel), ⟨by decide +kernel, by decide +kernel⟩, gtm 655 (by decide +kernel) (by decide +kernel), gts 32 (by decide +kernel) (by decide +kernel)⟩
theorem mw_X7_fittingKeys : mwI yX7_fittingKeys cX7_fittingKeys 6 (some .int) := ⟨gtm 660 (by decide +kernel) (by decide +kernel), gtm 1 (by decide +kernel) (by decide +kernel), ⟨by decide +kernel, by decide +kernel⟩, gtm 659 (by decide +kernel) (by decide +kernel), gts 33 (by decide +kernel) (by decide +kernel)⟩
theorem mw_X7_drawn : mwI yX7_drawn cX7_drawn 5 (some .int) := ⟨gtm 664 (by decide +kernel) (by decide +kernel), gtm 1 (by decide +kernel) (by decide +kernel), ⟨by decide +kernel, by decide +kernel⟩, gtm 662 (by decide +kernel) (by decide +kernel), gtm 663 (by decide +kernel) (by decide +kernel)⟩
theorem mw_X7_drawOnTrial : mwI yX7_drawOnTrial cX7_drawOnTrial 7 (some .int) := ⟨gtm 669 (by decide +kernel) (by decide +kernel), gtm 1 (by decide +kernel) (by decide +kernel), ⟨by decide +kernel, by decide +kernel⟩, gtm 668 (by decide +kernel) (by decide +kernel), gts 34 (by decide +kernel) (by decide +kernel)⟩
theorem mw_X7_image : mwI yX7_image cX7_image 2 (some .int) := ⟨gtm 677 (by decide +kernel) (by decide +kernel), gtm 1 (by decide +kernel) (by decide +kernel), ⟨by decide +kernel, by decide +kernel⟩, gtm 675 (by decide +kernel) (by decide +kernel), gtm 676 (by decide +kernel) (by decide +kernel)⟩
theorem mw_X7_restore : mwI yX7_restore cX7_restore 2 (some .int) := ⟨gtm 681 (by decide +kernel) (by decide +kernel), gtm 1 (by decide +kernel) (by decide +kernel), ⟨by decide +kernel, by decide +kernel⟩, gtm 679 (by decide +kernel) (by decide +kernel), gtm 680 (by decide +kernel) (by decide +kernel)⟩
theorem mw_X7_kind : mwI yX7_kind cX7_kind 2 (some .int) := ⟨gtm 685 (by decide +kernel) (by decide +kernel), gtm 1 (by decide +kernel) (by decide +kernel), ⟨by decide +kernel, by decide +kernel⟩, gtm 683 (by decide +kernel) (by decide +kernel), gtm 684 (by decide +kernel) (by decide +kernel)⟩
theorem mw_X7_as : mwI yX7_as cX7_as 3 (some .int) := ⟨gtm 689 (by decide +kernel) (by decide +kernel), gtm 1 (by decide +kernel) (by decide +kernel), ⟨by decide +kernel, by decide +kernel⟩, gtm 687 (by decide +kernel) (by decide +kernel), gtm 688 (by decide +kernel) (by decide +kernel)⟩
theorem mw_X1_isOne : mwS yX1_isOne cX1_isOne 2 (some .boolean) := ⟨gtm 692 (by decide +kernel) (by decide +kernel), gtm 7 (by decide +kernel) (by decide +kernel), ⟨by decide +kernel, by decide +kernel⟩, gtm 691 (by decide +kernel) (by decide +kernel)⟩
theorem mw_X7_ask : mwI yX7_ask cX7_ask 3 (some .int) := ⟨gtm 698 (by decide +kernel) (by decide +kernel), gtm 1 (by decide +kernel) (by decide +kernel), ⟨by decide +kernel, by decide +kernel⟩, gtm 696 (by decide +kernel) (by decide +kernel), gtm 697 (by decide +kernel) (by decide +kernel)⟩
theorem mw_X1_begin : mwI yX1_begin cX1_begin 6 (some .int) := ⟨gtm 702 (by decide +kernel) (by decide +kernel), gtm 7 (by decide +kernel) (by decide +kernel), ⟨by decide +kernel, by decide +kernel⟩, gtm 700 (by decide +kernel) (by decide +kernel), gtm 701 (by decide +kernel) (by decide +kernel)⟩
theorem mw_X1_run : mwI yX1_run cX1_run 4 (some .int) := ⟨gtm 710 (by decide +kernel) (by decide +kernel), gtm 7 (by decide +kernel) (by decide +kernel), ⟨by decide +kernel, by decide +kernel⟩, gtm 709 (by decide +kernel) (by decide +kernel), gts 35 (by decide +kernel) (by decide +kernel)⟩
theorem mw_X1_leave : mwI yX1_leave cX1_leave 2 none := ⟨gtm 714 (by decide +kernel) (by decide +kernel), gtm 7 (by decide +kernel) (by decide +kernel), ⟨by decide +kernel, by decide +kernel⟩, gtm 713 (by decide +kernel) (by decide +kernel), gts 36 (by decide +kernel) (by decide +kernel)⟩
theorem mw_X7_trace : mwI yX7_trace cX7_trace 2 (some .int) := ⟨gtm 718 (by decide +kernel) (by decide +kernel), gtm 1 (by decide +kernel) (by decide +kernel), ⟨by decide +kernel, by decide +kernel⟩, gtm 716 (by decide +kernel) (by decide +kernel), gtm 717 (by decide +kernel) (by decide +kernel)⟩
theorem mw_X7_count : mwI yX7_count cX7_count 2 (some .int) := ⟨gtm 722 (by decide +kernel) (by decide +kernel), gtm 1 (by decide +kernel) (by decide +kernel), ⟨by decide +kernel, by decide +kernel⟩, gtm 720 (by decide +kernel) (by decide +kernel), gtm 721 (by decide +kernel) (by decide +kernel)⟩
theorem mw_X5_howMany : mwI yX5_howMany cX5_howMany 3 (some .int) := ⟨gtm 726 (by decide +kernel) (by decide +kernel), gtm 2 (by decide +kernel) (by decide +kernel), ⟨by decide +kernel, by decide +kernel⟩, gtm 724 (by decide +kernel) (by decide +kernel), gtm 725 (by decide +kernel) (by decide +kernel)⟩
theorem mw_X7_status : mwI yX7_status cX7_status 1 (some .int) := ⟨gtm 730 (by decide +kernel) (by decide +kernel), gtm 1 (by decide +kernel) (by decide +kernel), ⟨by decide +kernel, by decide +kernel⟩, gtm 728 (by decide +kernel) (by decide +kernel), gtm 729 (by decide +kernel) (by decide +kernel)⟩
theorem mw_X8_row : mwI yX8_row cX8_row 5 (some .int) := ⟨gtm 827 (by decide +kernel) (by decide +kernel), gtm 8 (by decide +kernel) (by decide +kernel), ⟨by decide +kernel, by decide +kernel⟩, gtm 825 (by decide +kernel) (by decide +kernel), gtm 826 (by decide +kernel) (by decide +kernel)⟩
theorem mw_X8_isRow : mwS yX8_isRow cX8_isRow 1 (some .boolean) := ⟨gtm 830 (by decide +kernel) (by decide +kernel), gtm 8 (by decide +kernel) (by decide +kernel), ⟨by decide +kernel, by decide +kernel⟩, gtm 829 (by decide +kernel) (by decide +kernel)⟩
theorem mw_X8_in : mwS yX8_in cX8_in 3 (some .boolean) := ⟨gtm 833 (by decide +kernel) (by decide +kernel), gtm 8 (by decide +kernel) (by decide +kernel), ⟨by decide +kernel, by decide +kernel⟩, gtm 832 (by decide +kernel) (by decide +kernel)⟩
theorem mw_X8_found : mwI yX8_found cX8_found 2 (some .int) := ⟨gtm 838 (by decide +kernel) (by decide +kernel), gtm 8 (by decide +kernel) (by decide +kernel), ⟨by decide +kernel, by decide +kernel⟩, gtm 837 (by decide +kernel) (by decide +kernel), gts 37 (by decide +kernel) (by decide +kernel)⟩
theorem mw_X8_well : mwI yX8_well cX8_well 2 (some .int) := ⟨gtm 843 (by decide +kernel) (by decide +kernel), gtm 8 (by decide +kernel) (by decide +kernel), ⟨by decide +kernel, by decide +kernel⟩, gtm 842 (by decide +kernel) (by decide +kernel), gts 38 (by decide +kernel) (by decide +kernel)⟩
theorem mw_X8_set : mwI yX8_set cX8_set 4 (some .int) := ⟨gtm 847 (by decide +kernel) (by decide +kernel), gtm 8 (by decide +kernel) (by decide +kernel), ⟨by decide +kernel, by decide +kernel⟩, gtm 845 (by decide +kernel) (by decide +kernel), gtm 846 (by decide +kernel) (by decide +kernel)⟩
theorem mw_X8_isMissing : mwI yX8_isMissing cX8_isMissing 2 (some .boolean) := ⟨gtm 851 (by decide +kernel) (by decide +kernel), gtm 8 (by decide +kernel) (by decide +kernel), ⟨by decide +kernel, by decide +kernel⟩, gtm 850 (by decide +kernel) (by decide +kernel), gts 39 (by decide +kernel) (by decide +kernel)⟩
theorem mw_X8_lowest : mwS yX8_lowest cX8_lowest 2 (some .int) := ⟨gtm 854 (by decide +kernel) (by decide +kernel), gtm 8 (by decide +kernel) (by decide +kernel), ⟨by decide +kernel, by decide +kernel⟩, gtm 853 (by decide +kernel) (by decide +kernel)⟩
theorem mw_X8_copy : mwI yX8_copy cX8_copy 7 (some .int) := ⟨gtm 858 (by decide +kernel) (by decide +kernel), gtm 8 (by decide +kernel) (by decide +kernel), ⟨by decide +kernel, by decide +kernel⟩, gtm 856 (by decide +kernel) (by decide +kernel), gtm 857 (by decide +kernel) (by decide +kernel)⟩
theorem mw_X8_isPart : mwI yX8_isPart cX8_isPart 4 (some .boolean) := ⟨gtm 862 (by decide +kernel) (by decide +kernel), gtm 8 (by decide +kernel) (by decide +kernel), ⟨by decide +kernel, by decide +kernel⟩, gtm 861 (by decide +kernel) (by decide +kernel), gts 40 (by decide +kernel) (by decide +kernel)⟩
theorem mw_X8_drop : mwI yX8_drop cX8_drop 2 (some .int) := ⟨gtm 866 (by decide +kernel) (by decide +kernel), gtm 8 (by decide +kernel) (by decide +kernel), ⟨by decide +kernel, by decide +kernel⟩, gtm 864 (by decide +kernel) (by decide +kernel), gtm 865 (by decide +kernel) (by decide +kernel)⟩
theorem mw_X8_feed : mwI yX8_feed cX8_feed 2 (some .int) := ⟨gtm 870 (by decide +kernel) (by decide +kernel), gtm 8 (by decide +kernel) (by decide +kernel), ⟨by decide +kernel, by decide +kernel⟩, gtm 868 (by decide +kernel) (by decide +kernel), gtm 869 (by decide +kernel) (by decide +kernel)⟩
theorem mw_X8_piece : mwI yX8_piece cX8_piece 4 (some .int) := ⟨gtm 875 (by decide +kernel) (by decide +kernel), gtm 8 (by decide +kernel) (by decide +kernel), ⟨by decide +kernel, by decide +kernel⟩, gtm 873 (by decide +kernel) (by decide +kernel), gtm 874 (by decide +kernel) (by decide +kernel)⟩
theorem mw_X8_advances : mwI yX8_advances cX8_advances 2 none := ⟨gtm 879 (by decide +kernel) (by decide +kernel), gtm 8 (by decide +kernel) (by decide +kernel), ⟨by decide +kernel, by decide +kernel⟩, gtm 878 (by decide +kernel) (by decide +kernel), gts 41 (by decide +kernel) (by decide +kernel)⟩
theorem mw_X8_byteAt : mwI yX8_byteAt cX8_byteAt 2 (some .int) := ⟨gtm 883 (by decide +kernel) (by decide +kernel), gtm 8 (by decide +kernel) (by decide +kernel), ⟨by decide +kernel, by decide +kernel⟩, gtm 882 (by decide +kernel) (by decide +kernel), gts 42 (by decide +kernel) (by decide +kernel)⟩
theorem mw_X8_takes : mwI yX8_takes cX8_takes 4 (some .int) := ⟨gtm 887 (by decide +kernel) (by decide +kernel), gtm 8 (by decide +kernel) (by decide +kernel), ⟨by decide +kernel, by decide +kernel⟩, gtm 886 (by decide +kernel) (by decide +kernel), gts 43 (by decide +kernel) (by decide +kernel)⟩
theorem mw_X8_isWell : mwI yX8_isWell cX8_isWell 1 (some .boolean) := ⟨gtm 891 (by decide +kernel) (by decide +kernel), gtm 8 (by decide +kernel) (by decide +kernel), ⟨by decide +kernel, by decide +kernel⟩, gtm 890 (by decide +kernel) (by decide +kernel), gts 44 (by decide +kernel) (by decide +kernel)⟩
theorem mw_X8_figure : mwI yX8_figure cX8_figure 3 (some .int) := ⟨gtm 895 (by decide +kernel) (by decide +kernel), gtm 8 (by decide +kernel) (by decide +kernel), ⟨by decide +kernel, by decide +kernel⟩, gtm 894 (by decide +kernel) (by decide +kernel), gts 45 (by decide +kernel) (by decide +kernel)⟩
theorem mw_X8_readsChord : mwI yX8_readsChord cX8_readsChord 8 none := ⟨gtm 899 (by decide +kernel) (by decide +kernel), gtm 8 (by decide +kernel) (by decide +kernel), ⟨by decide +kernel, by decide +kernel⟩, gtm 898 (by decide +kernel) (by decide +kernel), gts 46 (by decide +kernel) (by decide +kernel)⟩
theorem mw_X8_kindOf : mwS yX8_kindOf cX8_kindOf 1 (some .int) := ⟨gtm 902 (by decide +kernel) (by decide +kernel), gtm 8 (by decide +kernel) (by decide +kernel), ⟨by decide +kernel, by decide +kernel⟩, gtm 901 (by decide +kernel) (by decide +kernel)⟩
theorem mw_X8_marks : mwI yX8_marks cX8_marks 3 (some .boolean) := ⟨gtm 906 (by decide +kernel) (by decide +kernel), gtm 8 (by decide +kernel) (by decide +kernel), ⟨by decide +kernel, by decide +kernel⟩, gtm 905 (by decide +kernel) (by decide +kernel), gts 47 (by decide +kernel) (by decide +kernel)⟩
theorem mw_X8_isLetter : mwI yX8_isLetter cX8_isLetter 2 (some .boolean) := ⟨gtm 910 (by decide +kernel) (by decide +kernel), gtm 8 (by decide +kernel) (by decide +kernel), ⟨by decide +kernel, by decide +kernel⟩, gtm 909 (by decide +kernel) (by decide +kernel), gts 48 (by decide +kernel) (by decide +kernel)⟩
theorem mw_X8_copies : mwS yX8_copies cX8_copies 5 none := ⟨gtm 914 (by decide +kernel) (by decide +kernel), gtm 8 (by decide +kernel) (by decide +kernel), ⟨by decide +kernel, by decide +kernel⟩, gtm 913 (by decide +kernel) (by decide +kernel)⟩
theorem mw_X8_fault : mwI yX8_fault cX8_fault 1 (some .int) := ⟨gtm 918 (by decide +kernel) (by decide +kernel), gtm 8 (by decide +kernel) (by decide +kernel), ⟨by decide +kernel, by decide +kernel⟩, gtm 916 (by decide +kernel) (by decide +kernel), gtm 917 (by decide +kernel) (by decide +kernel)⟩
theorem mw_X8_key : mwI yX8_key cX8_key 4 (some .int) := ⟨gtm 922 (by decide +kernel) (by decide +kernel), gtm 8 (by decide +kernel) (by decide +kernel), ⟨by decide +kernel, by decide +kernel⟩, gtm 920 (by decide +kernel) (by decide +kernel), gtm 921 (by decide +kernel) (by decide +kernel)⟩
theorem mw_X8_isNote : mwI yX8_isNote cX8_isNote 2 (some .boolean) := ⟨gtm 926 (by decide +kernel) (by decide +kernel), gtm 8 (by decide +kernel) (by decide +kernel), ⟨by decide +kernel, by decide +kernel⟩, gtm 925 (by decide +kernel) (by decide +kernel), gts 49 (by decide +kernel) (by decide +kernel)⟩
theorem mw_X8_notes : mwI yX8_notes cX8_notes 2 none := ⟨gtm 931 (by decide +kernel) (by decide +kernel), gtm 8 (by decide +kernel) (by decide +kernel), ⟨by decide +kernel, by decide +kernel⟩, gtm 930 (by decide +kernel) (by decide +kernel), gts 50 (by decide +kernel) (by decide +kernel)⟩
theorem mw_X8_become : mwI yX8_become cX8_become 4 (some .int) := ⟨gtm 935 (by decide +kernel) (by decide +kernel), gtm 8 (by decide +kernel) (by decide +kernel), ⟨by decide +kernel, by decide +kernel⟩, gtm 933 (by decide +kernel) (by decide +kernel), gtm 934 (by decide +kernel) (by decide +kernel)⟩
theorem mw_X8_isChord : mwI yX8_isChord cX8_isChord 2 (some .boolean) := ⟨gtm 939 (by decide +kernel) (by decide +kernel), gtm 8 (by decide +kernel) (by decide +kernel), ⟨by decide +kernel, by decide +kernel⟩, gtm 938 (by decide +kernel) (by decide +kernel), gts 51 (by decide +kernel) (by decide +kernel)⟩
theorem mw_X8_sign : mwI yX8_sign cX8_sign 3 (some .int) := ⟨gtm 943 (by decide +kernel) (by decide +kernel), gtm 8 (by decide +kernel) (by decide +kernel), ⟨by decide +kernel, by decide +kernel⟩, gtm 941 (by decide +kernel) (by decide +kernel), gtm 942 (by decide +kernel) (by decide +kernel)⟩
theorem mw_X8_isPiece : mwI yX8_isPiece cX8_isPiece 1 (some .boolean) := ⟨gtm 947 (by decide +kernel) (by decide +kernel), gtm 8 (by decide +kernel) (by decide +kernel), ⟨by decide +kernel, by decide +kernel⟩, gtm 946 (by decide +kernel) (by decide +kernel), gts 52 (by decide +kernel) (by decide +kernel)⟩
theorem mw_X8_shift : mwI yX8_shift cX8_shift 3 (some .int) := ⟨gtm 951 (by decide +kernel) (by decide +kernel), gtm 8 (by decide +kernel) (by decide +kernel), ⟨by decide +kernel, by decide +kernel⟩, gtm 949 (by decide +kernel) (by decide +kernel), gtm 950 (by decide +kernel) (by decide +kernel)⟩
theorem mw_X8_over : mwS yX8_over cX8_over 3 (some .int) := ⟨gtm 954 (by decide +kernel) (by decide +kernel), gtm 8 (by decide +kernel) (by decide +kernel), ⟨by decide +kernel, by decide +kernel⟩, gtm 953 (by decide +kernel) (by decide +kernel)⟩
theorem mw_X8_undo : mwI yX8_undo cX8_undo 1 (some .int) := ⟨gtm 958 (by decide +kernel) (by decide +kernel), gtm 8 (by decide +kernel) (by decide +kernel), ⟨by decide +kernel, by decide +kernel⟩, gtm 956 (by decide +kernel) (by decide +kernel), gtm 957 (by decide +kernel) (by decide +kernel)⟩
theorem mw_X8_place : mwI yX8_place cX8_place 3 (some .int) := ⟨gtm 962 (by decide +kernel) (by decide +kernel), gtm 8 (by decide +kernel) (by decide +kernel), ⟨by decide +kernel, by decide +kernel⟩, gtm 960 (by decide +kernel) (by decide +kernel), gtm 961 (by decide +kernel) (by decide +kernel)⟩
theorem mw_X8_letterOf : mwS yX8_letterOf cX8_letterOf 1 (some .int) := ⟨gtm 965 (by decide +kernel) (by decide +kernel), gtm 8 (by decide +kernel) (by decide +kernel), ⟨by decide +kernel, by decide +kernel⟩, gtm 964 (by decide +kernel) (by decide +kernel)⟩
theorem mw_X8_alterOf : mwS yX8_alterOf cX8_alterOf 1 (some .int) := ⟨gtm 968 (by decide +kernel) (by decide +kernel), gtm 8 (by decide +kernel) (by decide +kernel), ⟨by decide +kernel, by decide +kernel⟩, gtm 967 (by decide +kernel) (by decide +kernel)⟩
theorem mw_X8_keyOf : mwS yX8_keyOf cX8_keyOf 1 (some .int) := ⟨gtm 971 (by decide +kernel) (by decide +kernel), gtm 8 (by decide +kernel) (by decide +kernel), ⟨by decide +kernel, by decide +kernel⟩, gtm 970 (by decide +kernel) (by decide +kernel)⟩
theorem mw_X8_inWindow : mwI yX8_inWindow cX8_inWindow 3 (some .int) := ⟨gtm 975 (by decide +kernel) (by decide +kernel), gtm 8 (by decide +kernel) (by decide +kernel), ⟨by decide +kernel, by decide +kernel⟩, gtm 973 (by decide +kernel) (by decide +kernel), gtm 974 (by decide +kernel) (by decide +kernel)⟩
theorem mw_X8_isWindow : mwS yX8_isWindow cX8_isWindow 1 (some .boolean) := ⟨gtm 978 (by decide +kernel) (by decide +kernel), gtm 8 (by decide +kernel) (by decide +kernel), ⟨by decide +kernel, by decide +kernel⟩, gtm 977 (by decide +kernel) (by decide +kernel)⟩
theorem mw_X8_nameOf : mwS yX8_nameOf cX8_nameOf 3 (some .int) := ⟨gtm 981 (by decide +kernel) (by decide +kernel), gtm 8 (by decide +kernel) (by decide +kernel), ⟨by decide +kernel, by decide +kernel⟩, gtm 980 (by decide +kernel) (by decide +kernel)⟩
theorem mw_X8_head : mwI yX8_head cX8_head 2 (some .int) := ⟨gtm 985 (by decide +kernel) (by decide +kernel), gtm 8 (by decide +kernel) (by decide +kernel), ⟨by decide +kernel, by decide +kernel⟩, gtm 983 (by decide +kernel) (by decide +kernel), gtm 984 (by decide +kernel) (by decide +kernel)⟩
theorem mw_X8_headOf : mwS yX8_headOf cX8_headOf 3 (some .int) := ⟨gtm 988 (by decide +kernel) (by decide +kernel), gtm 8 (by decide +kernel) (by decide +kernel), ⟨by decide +kernel, by decide +kernel⟩, gtm 987 (by decide +kernel) (by decide +kernel)⟩
theorem mw_X8_note : mwI yX8_note cX8_note 5 (some .int) := ⟨gtm 992 (by decide +kernel) (by decide +kernel), gtm 8 (by decide +kernel) (by decide +kernel), ⟨by decide +kernel, by decide +kernel⟩, gtm 990 (by decide +kernel) (by decide +kernel), gtm 991 (by decide +kernel) (by decide +kernel)⟩
theorem mw_X8_chordOf : mwI yX8_chordOf cX8_chordOf 3 (some .int) := ⟨gtm 996 (by decide +kernel) (by decide +kernel), gtm 8 (by decide +kernel) (by decide +kernel), ⟨by decide +kernel, by decide +kernel⟩, gtm 995 (by decide +kernel) (by decide +kernel), gts 53 (by decide +kernel) (by decide +kernel)⟩
theorem mw_X8_prints : mwI yX8_prints cX8_prints 8 (some .int) := ⟨gtm 1000 (by decide +kernel) (by decide +kernel), gtm 8 (by decide +kernel) (by decide +kernel), ⟨by decide +kernel, by decide +kernel⟩, gtm 999 (by decide +kernel) (by decide +kernel), gts 54 (by decide +kernel) (by decide +kernel)⟩
theorem mw_X8_finds : mwI yX8_finds cX8_finds 6 none := ⟨gtm 1004 (by decide +kernel) (by decide +kernel), gtm 8 (by decide +kernel) (by decide +kernel), ⟨by decide +kernel, by decide +kernel⟩, gtm 1003 (by decide +kernel) (by decide +kernel), gts 55 (by decide +kernel) (by decide +kernel)⟩
theorem mw_X8_reckons : mwI yX8_reckons cX8_reckons 9 none := ⟨gtm 1008 (by decide +kernel) (by decide +kernel), gtm 8 (by decide +kernel) (by decide +kernel), ⟨by decide +kernel, by decide +kernel⟩, gtm 1007 (by decide +kernel) (by decide +kernel), gts 56 (by decide +kernel) (by decide +kernel)⟩
theorem mw_X8_moveTo : mwS yX8_moveTo cX8_moveTo 5 (some .int) := ⟨gtm 1011 (by decide +kernel) (by decide +kernel), gtm 8 (by decide +kernel) (by decide +kernel), ⟨by decide +kernel, by decide +kernel⟩, gtm 1010 (by decide +kernel) (by decide +kernel)⟩
theorem mw_X8_size : mwS yX8_size cX8_size 1 (some .int) := ⟨gtm 1014 (by decide +kernel) (by decide +kernel), gtm 8 (by decide +kernel) (by decide +kernel), ⟨by decide +kernel, by decide +kernel⟩, gtm 1013 (by decide +kernel) (by decide +kernel)⟩
theorem mw_X8_isHeld : mwS yX8_isHeld cX8_isHeld 2 (some .boolean) := ⟨gtm 1017 (by decide +kernel) (by decide +kernel), gtm 8 (by decide +kernel) (by decide +kernel), ⟨by decide +kernel, by decide +kernel⟩, gtm 1016 (by decide +kernel) (by decide +kernel)⟩
theorem mw_X8_priceOf : mwS yX8_priceOf cX8_priceOf 8 (some .int) := ⟨gtm 1021 (by decide +kernel) (by decide +kernel), gtm 8 (by decide +kernel) (by decide +kernel), ⟨by decide +kernel, by decide +kernel⟩, gtm 1020 (by decide +kernel) (by decide +kernel)⟩
theorem mw_X8_nameIn : mwS yX8_nameIn cX8_nameIn 4 (some .int) := ⟨gtm 1024 (by decide +kernel) (by decide +kernel), gtm 8 (by decide +kernel) (by decide +kernel), ⟨by decide +kernel, by decide +kernel⟩, gtm 1023 (by decide +kernel) (by decide +kernel)⟩
theorem mw_X8_priceOfName : mwS yX8_priceOfName cX8_priceOfName 7 (some .int) := ⟨gtm 1027 (by decide +kernel) (by decide +kernel), gtm 8 (by decide +kernel) (by decide +kernel), ⟨by decide +kernel, by decide +kernel⟩, gtm 1026 (by decide +kernel) (by decide +kernel)⟩
theorem mw_X8_chord : mwI yX8_chord cX8_chord 3 (some .int) := ⟨gtm 1031 (by decide +kernel) (by decide +kernel), gtm 8 (by decide +kernel) (by decide +kernel), ⟨by decide +kernel, by decide +kernel⟩, gtm 1029 (by decide +kernel) (by decide +kernel), gtm 1030 (by decide +kernel) (by decide +kernel)⟩
theorem mw_X8_windowOf : mwI yX8_windowOf cX8_windowOf 2 (some .int) := ⟨gtm 1035 (by decide +kernel) (by decide +kernel), gtm 8 (by decide +kernel) (by decide +kernel), ⟨by decide +kernel, by decide +kernel⟩, gtm 1034 (by decide +kernel) (by decide +kernel), gts 57 (by decide +kernel) (by decide +kernel)⟩
theorem mw_X8_whole : mwI yX8_whole cX8_whole 2 (some .int) := ⟨gtm 1039 (by decide +kernel) (by decide +kernel), gtm 8 (by decide +kernel) (by decide +kernel), ⟨by decide +kernel, by decide +kernel⟩, gtm 1037 (by decide +kernel) (by decide +kernel), gtm 1038 (by decide +kernel) (by decide +kernel)⟩
theorem mw_X8_allWays : mwI yX8_allWays cX8_allWays 3 (some .int) := ⟨gtm 1043 (by decide +kernel) (by decide +kernel), gtm 8 (by decide +kernel) (by decide +kernel), ⟨by decide +kernel, by decide +kernel⟩, gtm 1042 (by decide +kernel) (by decide +kernel), gts 58 (by decide +kernel) (by decide +kernel)⟩
theorem mw_X8_bestHeads : mwI yX8_bestHeads cX8_bestHeads 5 (some .int) := ⟨gtm 1047 (by decide +kernel) (by decide +kernel), gtm 8 (by decide +kernel) (by decide +kernel), ⟨by decide +kernel, by decide +kernel⟩, gtm 1046 (by decide +kernel) (by decide +kernel), gts 59 (by decide +kernel) (by decide +kernel)⟩
theorem mw_X8_costBy : mwI yX8_costBy cX8_costBy 2 (some .int) := ⟨gtm 1051 (by decide +kernel) (by decide +kernel), gtm 8 (by decide +kernel) (by decide +kernel), ⟨by decide +kernel, by decide +kernel⟩, gtm 1050 (by decide +kernel) (by decide +kernel), gts 60 (by decide +kernel) (by decide +kernel)⟩
theorem mw_X8_plainWindow : mwI yX8_plainWindow cX8_plainWindow 3 (some .int) := ⟨gtm 1055 (by decide +kernel) (by decide +kernel), gtm 8 (by decide +kernel) (by decide +kernel), ⟨by decide +kernel, by decide +kernel⟩, gtm 1054 (by decide +kernel) (by decide +kernel), gts 61 (by decide +kernel) (by decide +kernel)⟩
theorem mw_X8_plainCost : mwI yX8_plainCost cX8_plainCost 4 (some .int) := ⟨gtm 1059 (by decide +kernel) (by decide +kernel), gtm 8 (by decide +kernel) (by decide +kernel), ⟨by decide +kernel, by decide +kernel⟩, gtm 1058 (by decide +kernel) (by decide +kernel), gts 62 (by decide +kernel) (by decide +kernel)⟩
theorem mw_X8_price : mwI yX8_price cX8_price 3 (some .int) := ⟨gtm 1063 (by decide +kernel) (by decide +kernel), gtm 8 (by decide +kernel) (by decide +kernel), ⟨by decide +kernel, by decide +kernel⟩, gtm 1061 (by decide +kernel) (by decide +kernel), gtm 1062 (by decide +kernel) (by decide +kernel)⟩
theorem mw_X8_cost : mwI yX8_cost cX8_cost 8 (some .int) := ⟨gtm 1067 (by decide +kernel) (by decide +kernel), gtm 8 (by decide +kernel) (by decide +kernel), ⟨by decide +kernel, by decide +kernel⟩, gtm 1065 (by decide +kernel) (by decide +kernel), gtm 1066 (by decide +kernel) (by decide +kernel)⟩
theorem mw_X8_fits : mwI yX8_fits cX8_fits 8 (some .int) := ⟨gtm 1071 (by decide +kernel) (by decide +kernel), gtm 8 (by decide +kernel) (by decide +kernel), ⟨by decide +kernel, by decide +kernel⟩, gtm 1069 (by decide +kernel) (by decide +kernel), gtm 1070 (by decide +kernel) (by decide +kernel)⟩
theorem mw_X8_isRead : mwI yX8_isRead cX8_isRead 7 (some .boolean) := ⟨gtm 1075 (by decide +kernel) (by decide +kernel), gtm 8 (by decide +kernel) (by decide +kernel), ⟨by decide +kernel, by decide +kernel⟩, gtm 1074 (by decide +kernel) (by decide +kernel), gts 63 (by decide +kernel) (by decide +kernel)⟩
theorem mw_X8_drawn : mwI yX8_drawn cX8_drawn 8 (some .int) := ⟨gtm 1079 (by decide +kernel) (by decide +kernel), gtm 8 (by decide +kernel) (by decide +kernel), ⟨by decide +kernel, by decide +kernel⟩, gtm 1077 (by decide +kernel) (by decide +kernel), gtm 1078 (by decide +kernel) (by decide +kernel)⟩
theorem mw_X8_image : mwI yX8_image cX8_image 2 (some .int) := ⟨gtm 1088 (by decide +kernel) (by decide +kernel), gtm 8 (by decide +kernel) (by decide +kernel), ⟨by decide +kernel, by decide +kernel⟩, gtm 1086 (by decide +kernel) (by decide +kernel), gtm 1087 (by decide +kernel) (by decide +kernel)⟩
theorem mw_X8_restore : mwI yX8_restore cX8_restore 2 (some .int) := ⟨gtm 1092 (by decide +kernel) (by decide +kernel), gtm 8 (by decide +kernel) (by decide +kernel), ⟨by decide +kernel, by decide +kernel⟩, gtm 1090 (by decide +kernel) (by decide +kernel), gtm 1091 (by decide +kernel) (by decide +kernel)⟩
theorem mw_X8_kind : mwI yX8_kind cX8_kind 2 (some .int) := ⟨gtm 1096 (by decide +kernel) (by decide +kernel), gtm 8 (by decide +kernel) (by decide +kernel), ⟨by decide +kernel, by decide +kernel⟩, gtm 1094 (by decide +kernel) (by decide +kernel), gtm 1095 (by decide +kernel) (by decide +kernel)⟩
theorem mw_X8_kindIn : mwI yX8_kindIn cX8_kindIn 2 (some .int) := ⟨gtm 1100 (by decide +kernel) (by decide +kernel), gtm 8 (by decide +kernel) (by decide +kernel), ⟨by decide +kernel, by decide +kernel⟩, gtm 1099 (by decide +kernel) (by decide +kernel), gts 64 (by decide +kernel) (by decide +kernel)⟩
theorem mw_X8_as : mwI yX8_as cX8_as 5 (some .int) := ⟨gtm 1104 (by decide +kernel) (by decide +kernel), gtm 8 (by decide +kernel) (by decide +kernel), ⟨by decide +kernel, by decide +kernel⟩, gtm 1102 (by decide +kernel) (by decide +kernel), gtm 1103 (by decide +kernel) (by decide +kernel)⟩
theorem mw_X8_ask : mwI yX8_ask cX8_ask 4 (some .int) := ⟨gtm 1108 (by decide +kernel) (by decide +kernel), gtm 8 (by decide +kernel) (by decide +kernel), ⟨by decide +kernel, by decide +kernel⟩, gtm 1106 (by decide +kernel) (by decide +kernel), gtm 1107 (by decide +kernel) (by decide +kernel)⟩
theorem mw_X8_heldSize : mwI yX8_heldSize cX8_heldSize 4 (some .int) := ⟨gtm 1112 (by decide +kernel) (by decide +kernel), gtm 8 (by decide +kernel) (by decide +kernel), ⟨by decide +kernel, by decide +kernel⟩, gtm 1111 (by decide +kernel) (by decide +kernel), gts 65 (by decide +kernel) (by decide +kernel)⟩
theorem mw_X8_begins : mwI yX8_begins cX8_begins 2 none := ⟨gtm 1116 (by decide +kernel) (by decide +kernel), gtm 8 (by decide +kernel) (by decide +kernel), ⟨by decide +kernel, by decide +kernel⟩, gtm 1115 (by decide +kernel) (by decide +kernel), gts 66 (by decide +kernel) (by decide +kernel)⟩
theorem mw_X8_plainSize : mwI yX8_plainSize cX8_plainSize 4 (some .int) := ⟨gtm 1120 (by decide +kernel) (by decide +kernel), gtm 8 (by decide +kernel) (by decide +kernel), ⟨by decide +kernel, by decide +kernel⟩, gtm 1119 (by decide +kernel) (by decide +kernel), gts 67 (by decide +kernel) (by decide +kernel)⟩
theorem mw_X8_plainMark : mwI yX8_plainMark cX8_plainMark 4 (some .int) := ⟨gtm 1124 (by decide +kernel) (by decide +kernel), gtm 8 (by decide +kernel) (by decide +kernel), ⟨by decide +kernel, by decide +kernel⟩, gtm 1123 (by decide +kernel) (by decide +kernel), gts 68 (by decide +kernel) (by decide +kernel)⟩
theorem mw_X8_heldMark : mwI yX8_heldMark cX8_heldMark 2 (some .int) := ⟨gtm 1128 (by decide +kernel) (by decide +kernel), gtm 8 (by decide +kernel) (by decide +kernel), ⟨by decide +kernel, by decide +kernel⟩, gtm 1127 (by decide +kernel) (by decide +kernel), gts 69 (by decide +kernel) (by decide +kernel)⟩
theorem mw_X8_trace : mwI yX8_trace cX8_trace 2 (some .int) := ⟨gtm 1132 (by decide +kernel) (by decide +kernel), gtm 8 (by decide +kernel) (by decide +kernel), ⟨by decide +kernel, by decide +kernel⟩, gtm 1130 (by decide +kernel) (by decide +kernel), gtm 1131 (by decide +kernel) (by decide +kernel)⟩
theorem mw_X8_count : mwI yX8_count cX8_count 4 (some .int) := ⟨gtm 1136 (by decide +kernel) (by decide +kernel), gtm 8 (by decide +kernel) (by decide +kernel), ⟨by decide +kernel, by decide +kernel⟩, gtm 1134 (by decide +kernel) (by decide +kernel), gtm 1135 (by decide +kernel) (by decide +kernel)⟩
theorem mw_X8_status : mwI yX8_status cX8_status 1 (some .int) := ⟨gtm 1140 (by decide +kernel) (by decide +kernel), gtm 8 (by decide +kernel) (by decide +kernel), ⟨by decide +kernel, by decide +kernel⟩, gtm 1138 (by decide +kernel) (by decide +kernel), gtm 1139 (by decide +kernel) (by decide +kernel)⟩
theorem mvS {l : Launch} {n : Nat} {own : String} {i na lv : Nat} {S : MSpec} {y : MethodName} {bc : ByteArray} {mL : Nat} {rt : Option FieldType} (hw : mwS y bc mL rt) (hn : lv + 1 ≤ n) (hm : mL ≤ 41) (hp : (parseMethodDescriptor y.desc).map (fun d => d.parameters.length) = some na) (hl : Cond.methodLink own i y ∈ gtb ∨ (own = RX6 ∧ ((i = 76 ∧ y = yX7_isSignature) ∨ (i = 99 ∧ y = yX7_isKey)))) (ok : ∀ l n, lv ≤ n → ∀ a σ Q, S a σ Q → AM l n y bc mL rt a σ Q) : mV l (rmOf n) own i (na, false, S) := by
  obtain ⟨w1, w2, w3, w4⟩ := hw
  refine ⟨n - 1, y, bc, mL, rt, ?_, ?_, w1, w2, w3, Or.inr ⟨rfl, hp, w4, hl, fun a σ Q h => ok l (n - 1) (by omega) a σ Q h⟩⟩
  · show n - 1 + 1 + 1 ≤ n + 1
    omega
  · show 8 + (mL + 11) + 60 * (n - 1 + 1) ≤ 60 * (n + 1)
    omega
theorem mvI {l : Launch} {n : Nat} {own : String} {i na lv ci : Nat} {T : u_T} {N : Nat} {S : MSpec} {y : MethodName} {bc : ByteArray} {mL : Nat} {rt : Option FieldType} (hw : mwI y bc mL rt) (hc : vwCl[ci]? = some (y.cls, T, N)) (hn : lv + 1 ≤ n) (hm : mL ≤ 41) (hp : (parseMethodDescriptor y.desc).map (fun d => d.parameters.length + 1) = some na) (hl : Cond.methodLink own i y ∈ gtb) (hr : ∀ a σ Q, S a σ Q → ∃ (p : Nat) (r : List AV), a = .inr (.inl p) :: r ∧ p < 76 ∧ (SH p).1 = 4 ∧ (SH p).2.1 = ci) (ok : ∀ l n, lv ≤ n → ∀ a σ Q, S a σ Q → AM l n y bc mL rt a σ Q) : mV l (rmOf n) own i (na, true, S) := by
  obtain ⟨w1, w2, w3, w4, w5⟩ := hw
  refine ⟨n - 1, y, bc, mL, rt, ?_, ?_, w1, w2, w3, Or.inl ⟨rfl, hp, hl, w4, w5, ci, T, N, hc, fun a σ Q h => ⟨hr a σ Q h, ok l (n - 1) (by omega) a σ Q h⟩⟩⟩
  · show n - 1 + 1 + 1 ≤ n + 1
    omega
  · show 8 + (mL + 11) + 60 * (n - 1 + 1) ≤ 60 * (n + 1)
    omega
