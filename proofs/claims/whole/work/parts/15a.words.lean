/-! the words of the tables that the methods rest on, by their places; fields and methods by pool entries -/
theorem inRX0 : ∀ w ∈ u_ws RX0 TX0 5, w ∈ tw := by
  intro w hw
  obtain ⟨k, hk, rfl⟩ := List.mem_map.mp hw
  have hk := List.mem_range.mp hk
  match k, hk with
  | 0, _ => exact tw_of 132 (by decide +kernel) (by decide +kernel)
  | 1, _ => exact tw_of 134 (by decide +kernel) (by decide +kernel)
  | 2, _ => exact tw_of 136 (by decide +kernel) (by decide +kernel)
  | 3, _ => exact tw_of 138 (by decide +kernel) (by decide +kernel)
  | 4, _ => exact tw_of 140 (by decide +kernel) (by decide +kernel)
  | k + 5, h => exact absurd h (by omega)
theorem clRX0 : jcl 0 RX0 TX0 5 := ⟨rfl, inRX0, ⟨tyX0, tyX0_ok⟩, nmX0⟩
theorem inRX1 : ∀ w ∈ u_ws RX1 TX1 8, w ∈ tw := by
  intro w hw
  obtain ⟨k, hk, rfl⟩ := List.mem_map.mp hw
  have hk := List.mem_range.mp hk
  match k, hk with
  | 0, _ => exact tw_of 236 (by decide +kernel) (by decide +kernel)
  | 1, _ => exact tw_of 238 (by decide +kernel) (by decide +kernel)
  | 2, _ => exact tw_of 240 (by decide +kernel) (by decide +kernel)
  | 3, _ => exact tw_of 242 (by decide +kernel) (by decide +kernel)
  | 4, _ => exact tw_of 244 (by decide +kernel) (by decide +kernel)
  | 5, _ => exact tw_of 246 (by decide +kernel) (by decide +kernel)
  | 6, _ => exact tw_of 248 (by decide +kernel) (by decide +kernel)
  | 7, _ => exact tw_of 250 (by decide +kernel) (by decide +kernel)
  | k + 8, h => exact absurd h (by omega)
theorem clRX1 : jcl 1 RX1 TX1 8 := ⟨rfl, inRX1, ⟨tyX1, tyX1_ok⟩, nmX1⟩
theorem inRX2 : ∀ w ∈ u_ws RX2 TX2 4, w ∈ tw := by
  intro w hw
  obtain ⟨k, hk, rfl⟩ := List.mem_map.mp hw
  have hk := List.mem_range.mp hk
  match k, hk with
  | 0, _ => exact tw_of 268 (by decide +kernel) (by decide +kernel)
  | 1, _ => exact tw_of 270 (by decide +kernel) (by decide +kernel)
  | 2, _ => exact tw_of 272 (by decide +kernel) (by decide +kernel)
  | 3, _ => exact tw_of 274 (by decide +kernel) (by decide +kernel)
  | k + 4, h => exact absurd h (by omega)
theorem clRX2 : jcl 2 RX2 TX2 4 := ⟨rfl, inRX2, ⟨tyX2, tyX2_ok⟩, nmX2⟩
theorem inRX3 : ∀ w ∈ u_ws RX3 TX3 2, w ∈ tw := by
  intro w hw
  obtain ⟨k, hk, rfl⟩ := List.mem_map.mp hw
  have hk := List.mem_range.mp hk
  match k, hk with
  | 0, _ => exact tw_of 179 (by decide +kernel) (by decide +kernel)
  | 1, _ => exact tw_of 181 (by decide +kernel) (by decide +kernel)
  | k + 2, h => exact absurd h (by omega)
theorem clRX3 : jcl 3 RX3 TX3 2 := ⟨rfl, inRX3, ⟨tyX3, tyX3_ok⟩, nmX3⟩
theorem inRX4 : ∀ w ∈ u_ws RX4 TX4 4, w ∈ tw := by
  intro w hw
  obtain ⟨k, hk, rfl⟩ := List.mem_map.mp hw
  have hk := List.mem_range.mp hk
  match k, hk with
  | 0, _ => exact tw_of 294 (by decide +kernel) (by decide +kernel)
  | 1, _ => exact tw_of 296 (by decide +kernel) (by decide +kernel)
  | 2, _ => exact tw_of 298 (by decide +kernel) (by decide +kernel)
  | 3, _ => exact tw_of 300 (by decide +kernel) (by decide +kernel)
  | k + 4, h => exact absurd h (by omega)
theorem clRX4 : jcl 4 RX4 TX4 4 := ⟨rfl, inRX4, ⟨tyX4, tyX4_ok⟩, nmX4⟩
theorem inRX6 : ∀ w ∈ u_ws RX6 TX6 2, w ∈ tw := by
  intro w hw
  obtain ⟨k, hk, rfl⟩ := List.mem_map.mp hw
  have hk := List.mem_range.mp hk
  match k, hk with
  | 0, _ => exact tw_of 113 (by decide +kernel) (by decide +kernel)
  | 1, _ => exact tw_of 115 (by decide +kernel) (by decide +kernel)
  | k + 2, h => exact absurd h (by omega)
theorem clRX6 : jcl 5 RX6 TX6 2 := ⟨rfl, inRX6, ⟨tyX6, tyX6_ok⟩, nmX6⟩
theorem inRX7 : ∀ w ∈ u_ws RX7 TX7 8, w ∈ tw := by
  intro w hw
  obtain ⟨k, hk, rfl⟩ := List.mem_map.mp hw
  have hk := List.mem_range.mp hk
  match k, hk with
  | 0, _ => exact tw_of 195 (by decide +kernel) (by decide +kernel)
  | 1, _ => exact tw_of 197 (by decide +kernel) (by decide +kernel)
  | 2, _ => exact tw_of 199 (by decide +kernel) (by decide +kernel)
  | 3, _ => exact tw_of 201 (by decide +kernel) (by decide +kernel)
  | 4, _ => exact tw_of 203 (by decide +kernel) (by decide +kernel)
  | 5, _ => exact tw_of 205 (by decide +kernel) (by decide +kernel)
  | 6, _ => exact tw_of 207 (by decide +kernel) (by decide +kernel)
  | 7, _ => exact tw_of 209 (by decide +kernel) (by decide +kernel)
  | k + 8, h => exact absurd h (by omega)
theorem clRX7 : jcl 6 RX7 TX7 8 := ⟨rfl, inRX7, ⟨tyX7, tyX7_ok⟩, nmX7⟩
theorem inRX8 : ∀ w ∈ u_ws RX8 TX8 6, w ∈ tw := by
  intro w hw
  obtain ⟨k, hk, rfl⟩ := List.mem_map.mp hw
  have hk := List.mem_range.mp hk
  match k, hk with
  | 0, _ => exact tw_of 155 (by decide +kernel) (by decide +kernel)
  | 1, _ => exact tw_of 157 (by decide +kernel) (by decide +kernel)
  | 2, _ => exact tw_of 159 (by decide +kernel) (by decide +kernel)
  | 3, _ => exact tw_of 161 (by decide +kernel) (by decide +kernel)
  | 4, _ => exact tw_of 163 (by decide +kernel) (by decide +kernel)
  | 5, _ => exact tw_of 165 (by decide +kernel) (by decide +kernel)
  | k + 6, h => exact absurd h (by omega)
theorem clRX8 : jcl 7 RX8 TX8 6 := ⟨rfl, inRX8, ⟨tyX8, tyX8_ok⟩, nmX8⟩
theorem inRX9 : ∀ w ∈ u_ws RX9 TX9 9, w ∈ tw := by
  intro w hw
  obtain ⟨k, hk, rfl⟩ := List.mem_map.mp hw
  have hk := List.mem_range.mp hk
  match k, hk with
  | 0, _ => exact tw_of 312 (by decide +kernel) (by decide +kernel)
  | 1, _ => exact tw_of 314 (by decide +kernel) (by decide +kernel)
  | 2, _ => exact tw_of 316 (by decide +kernel) (by decide +kernel)
  | 3, _ => exact tw_of 318 (by decide +kernel) (by decide +kernel)
  | 4, _ => exact tw_of 320 (by decide +kernel) (by decide +kernel)
  | 5, _ => exact tw_of 322 (by decide +kernel) (by decide +kernel)
  | 6, _ => exact tw_of 324 (by decide +kernel) (by decide +kernel)
  | 7, _ => exact tw_of 326 (by decide +kernel) (by decide +kernel)
  | 8, _ => exact tw_of 328 (by decide +kernel) (by decide +kernel)
  | k + 9, h => exact absurd h (by omega)
theorem clRX9 : jcl 8 RX9 TX9 9 := ⟨rfl, inRX9, ⟨tyX9, tyX9_ok⟩, nmX9⟩
theorem inRX10 : ∀ w ∈ u_ws RX10 TX10 31, w ∈ tw := by
  intro w hw
  obtain ⟨k, hk, rfl⟩ := List.mem_map.mp hw
  have hk := List.mem_range.mp hk
  match k, hk with
  | 0, _ => exact tw_of 895 (by decide +kernel) (by decide +kernel)
  | 1, _ => exact tw_of 897 (by decide +kernel) (by decide +kernel)
  | 2, _ => exact tw_of 899 (by decide +kernel) (by decide +kernel)
  | 3, _ => exact tw_of 901 (by decide +kernel) (by decide +kernel)
  | 4, _ => exact tw_of 903 (by decide +kernel) (by decide +kernel)
  | 5, _ => exact tw_of 905 (by decide +kernel) (by decide +kernel)
  | 6, _ => exact tw_of 907 (by decide +kernel) (by decide +kernel)
  | 7, _ => exact tw_of 909 (by decide +kernel) (by decide +kernel)
  | 8, _ => exact tw_of 911 (by decide +kernel) (by decide +kernel)
  | 9, _ => exact tw_of 913 (by decide +kernel) (by decide +kernel)
  | 10, _ => exact tw_of 915 (by decide +kernel) (by decide +kernel)
  | 11, _ => exact tw_of 917 (by decide +kernel) (by decide +kernel)
  | 12, _ => exact tw_of 919 (by decide +kernel) (by decide +kernel)
  | 13, _ => exact tw_of 921 (by decide +kernel) (by decide +kernel)
  | 14, _ => exact tw_of 923 (by decide +kernel) (by decide +kernel)
  | 15, _ => exact tw_of 925 (by decide +kernel) (by decide +kernel)
  | 16, _ => exact tw_of 927 (by decide +kernel) (by decide +kernel)
  | 17, _ => exact tw_of 929 (by decide +kernel) (by decide +kernel)
  | 18, _ => exact tw_of 931 (by decide +kernel) (by decide +kernel)
  | 19, _ => exact tw_of 933 (by decide +kernel) (by decide +kernel)
  | 20, _ => exact tw_of 935 (by decide +kernel) (by decide +kernel)
  | 21, _ => exact tw_of 937 (by decide +kernel) (by decide +kernel)
  | 22, _ => exact tw_of 939 (by decide +kernel) (by decide +kernel)
  | 23, _ => exact tw_of 941 (by decide +kernel) (by decide +kernel)
  | 24, _ => exact tw_of 943 (by decide +kernel) (by decide +kernel)
  | 25, _ => exact tw_of 945 (by decide +kernel) (by decide +kernel)
  | 26, _ => exact tw_of 947 (by decide +kernel) (by decide +kernel)
  | 27, _ => exact tw_of 949 (by decide +kernel) (by decide +kernel)
  | 28, _ => exact tw_of 951 (by decide +kernel) (by decide +kernel)
  | 29, _ => exact tw_of 953 (by decide +kernel) (by decide +kernel)
  | 30, _ => exact tw_of 955 (by decide +kernel) (by decide +kernel)
  | k + 31, h => exact absurd h (by omega)
theorem clRX10 : jcl 9 RX10 TX10 31 := ⟨rfl, inRX10, ⟨tyX10, tyX10_ok⟩, nmX10⟩
theorem fX6_9 : jfl RX6 9 5 RX6 TX6 2 0 := ⟨Or.inl (tw_of 106 (by decide +kernel) (by decide +kernel)), clRX6, by decide⟩
theorem gX6_9 : Cond.fieldLink RX6 9 (TX6 0).1 (TX6 0).2.1 (TX6 0).2.2.1 ∈ tw ∧ jcl 5 RX6 TX6 2 ∧ 0 < 2 := ⟨tw_of 106 (by decide +kernel) (by decide +kernel), clRX6, by decide⟩
theorem fX8_30 : jfl RX8 30 5 RX6 TX6 2 0 := ⟨Or.inr ⟨"FoldKeeper", List.mem_filter.mpr ⟨List.mem_of_getElem? (i := 107) (by decide +kernel), rfl⟩⟩, clRX6, by decide⟩
theorem fX7_124 : jfl RX7 124 5 RX6 TX6 2 0 := ⟨Or.inr ⟨"FoldKeeper", List.mem_filter.mpr ⟨List.mem_of_getElem? (i := 108) (by decide +kernel), rfl⟩⟩, clRX6, by decide⟩
theorem fX6_15 : jfl RX6 15 5 RX6 TX6 2 1 := ⟨Or.inl (tw_of 109 (by decide +kernel) (by decide +kernel)), clRX6, by decide⟩
theorem gX6_15 : Cond.fieldLink RX6 15 (TX6 1).1 (TX6 1).2.1 (TX6 1).2.2.1 ∈ tw ∧ jcl 5 RX6 TX6 2 ∧ 1 < 2 := ⟨tw_of 109 (by decide +kernel) (by decide +kernel), clRX6, by decide⟩
theorem fX9_58 : jfl RX9 58 5 RX6 TX6 2 1 := ⟨Or.inr ⟨"FoldKeeper", List.mem_filter.mpr ⟨List.mem_of_getElem? (i := 110) (by decide +kernel), rfl⟩⟩, clRX6, by decide⟩
theorem fX7_68 : jfl RX7 68 5 RX6 TX6 2 1 := ⟨Or.inr ⟨"FoldKeeper", List.mem_filter.mpr ⟨List.mem_of_getElem? (i := 111) (by decide +kernel), rfl⟩⟩, clRX6, by decide⟩
theorem fX8_27 : jfl RX8 27 5 RX6 TX6 2 1 := ⟨Or.inr ⟨"FoldKeeper", List.mem_filter.mpr ⟨List.mem_of_getElem? (i := 112) (by decide +kernel), rfl⟩⟩, clRX6, by decide⟩
theorem fX0_9 : jfl RX0 9 0 RX0 TX0 5 0 := ⟨Or.inl (tw_of 125 (by decide +kernel) (by decide +kernel)), clRX0, by decide⟩
theorem gX0_9 : Cond.fieldLink RX0 9 (TX0 0).1 (TX0 0).2.1 (TX0 0).2.2.1 ∈ tw ∧ jcl 0 RX0 TX0 5 ∧ 0 < 5 := ⟨tw_of 125 (by decide +kernel) (by decide +kernel), clRX0, by decide⟩
theorem fX9_95 : jfl RX9 95 0 RX0 TX0 5 0 := ⟨Or.inr ⟨"FoldKeeper", List.mem_filter.mpr ⟨List.mem_of_getElem? (i := 126) (by decide +kernel), rfl⟩⟩, clRX0, by decide⟩
theorem fX0_15 : jfl RX0 15 0 RX0 TX0 5 1 := ⟨Or.inl (tw_of 127 (by decide +kernel) (by decide +kernel)), clRX0, by decide⟩
theorem gX0_15 : Cond.fieldLink RX0 15 (TX0 1).1 (TX0 1).2.1 (TX0 1).2.2.1 ∈ tw ∧ jcl 0 RX0 TX0 5 ∧ 1 < 5 := ⟨tw_of 127 (by decide +kernel) (by decide +kernel), clRX0, by decide⟩
theorem fX9_79 : jfl RX9 79 0 RX0 TX0 5 1 := ⟨Or.inr ⟨"FoldKeeper", List.mem_filter.mpr ⟨List.mem_of_getElem? (i := 128) (by decide +kernel), rfl⟩⟩, clRX0, by decide⟩
theorem fX0_18 : jfl RX0 18 0 RX0 TX0 5 2 := ⟨Or.inl (tw_of 129 (by decide +kernel) (by decide +kernel)), clRX0, by decide⟩
theorem gX0_18 : Cond.fieldLink RX0 18 (TX0 2).1 (TX0 2).2.1 (TX0 2).2.2.1 ∈ tw ∧ jcl 0 RX0 TX0 5 ∧ 2 < 5 := ⟨tw_of 129 (by decide +kernel) (by decide +kernel), clRX0, by decide⟩
theorem fX0_21 : jfl RX0 21 0 RX0 TX0 5 3 := ⟨Or.inl (tw_of 130 (by decide +kernel) (by decide +kernel)), clRX0, by decide⟩
theorem gX0_21 : Cond.fieldLink RX0 21 (TX0 3).1 (TX0 3).2.1 (TX0 3).2.2.1 ∈ tw ∧ jcl 0 RX0 TX0 5 ∧ 3 < 5 := ⟨tw_of 130 (by decide +kernel) (by decide +kernel), clRX0, by decide⟩
theorem fX0_24 : jfl RX0 24 0 RX0 TX0 5 4 := ⟨Or.inl (tw_of 131 (by decide +kernel) (by decide +kernel)), clRX0, by decide⟩
theorem gX0_24 : Cond.fieldLink RX0 24 (TX0 4).1 (TX0 4).2.1 (TX0 4).2.2.1 ∈ tw ∧ jcl 0 RX0 TX0 5 ∧ 4 < 5 := ⟨tw_of 131 (by decide +kernel) (by decide +kernel), clRX0, by decide⟩
theorem fX8_10 : jfl RX8 10 7 RX8 TX8 6 0 := ⟨Or.inl (tw_of 143 (by decide +kernel) (by decide +kernel)), clRX8, by decide⟩
theorem gX8_10 : Cond.fieldLink RX8 10 (TX8 0).1 (TX8 0).2.1 (TX8 0).2.2.1 ∈ tw ∧ jcl 7 RX8 TX8 6 ∧ 0 < 6 := ⟨tw_of 143 (by decide +kernel) (by decide +kernel), clRX8, by decide⟩
theorem fX7_18 : jfl RX7 18 7 RX8 TX8 6 0 := ⟨Or.inr ⟨"FoldKeeper", List.mem_filter.mpr ⟨List.mem_of_getElem? (i := 144) (by decide +kernel), rfl⟩⟩, clRX8, by decide⟩
theorem fX8_19 : jfl RX8 19 7 RX8 TX8 6 1 := ⟨Or.inl (tw_of 145 (by decide +kernel) (by decide +kernel)), clRX8, by decide⟩
theorem gX8_19 : Cond.fieldLink RX8 19 (TX8 1).1 (TX8 1).2.1 (TX8 1).2.2.1 ∈ tw ∧ jcl 7 RX8 TX8 6 ∧ 1 < 6 := ⟨tw_of 145 (by decide +kernel) (by decide +kernel), clRX8, by decide⟩
theorem fX7_23 : jfl RX7 23 7 RX8 TX8 6 1 := ⟨Or.inr ⟨"FoldKeeper", List.mem_filter.mpr ⟨List.mem_of_getElem? (i := 146) (by decide +kernel), rfl⟩⟩, clRX8, by decide⟩
theorem fX7_46 : jfl RX7 46 7 RX8 TX8 6 2 := ⟨Or.inr ⟨"FoldKeeper", List.mem_filter.mpr ⟨List.mem_of_getElem? (i := 147) (by decide +kernel), rfl⟩⟩, clRX8, by decide⟩
theorem fX8_37 : jfl RX8 37 7 RX8 TX8 6 2 := ⟨Or.inl (tw_of 148 (by decide +kernel) (by decide +kernel)), clRX8, by decide⟩
theorem gX8_37 : Cond.fieldLink RX8 37 (TX8 2).1 (TX8 2).2.1 (TX8 2).2.2.1 ∈ tw ∧ jcl 7 RX8 TX8 6 ∧ 2 < 6 := ⟨tw_of 148 (by decide +kernel) (by decide +kernel), clRX8, by decide⟩
theorem fX7_58 : jfl RX7 58 7 RX8 TX8 6 3 := ⟨Or.inr ⟨"FoldKeeper", List.mem_filter.mpr ⟨List.mem_of_getElem? (i := 149) (by decide +kernel), rfl⟩⟩, clRX8, by decide⟩
theorem fX8_34 : jfl RX8 34 7 RX8 TX8 6 3 := ⟨Or.inl (tw_of 150 (by decide +kernel) (by decide +kernel)), clRX8, by decide⟩
theorem gX8_34 : Cond.fieldLink RX8 34 (TX8 3).1 (TX8 3).2.1 (TX8 3).2.2.1 ∈ tw ∧ jcl 7 RX8 TX8 6 ∧ 3 < 6 := ⟨tw_of 150 (by decide +kernel) (by decide +kernel), clRX8, by decide⟩
theorem fX8_23 : jfl RX8 23 7 RX8 TX8 6 4 := ⟨Or.inl (tw_of 151 (by decide +kernel) (by decide +kernel)), clRX8, by decide⟩
theorem gX8_23 : Cond.fieldLink RX8 23 (TX8 4).1 (TX8 4).2.1 (TX8 4).2.2.1 ∈ tw ∧ jcl 7 RX8 TX8 6 ∧ 4 < 6 := ⟨tw_of 151 (by decide +kernel) (by decide +kernel), clRX8, by decide⟩
theorem fX7_114 : jfl RX7 114 7 RX8 TX8 6 4 := ⟨Or.inr ⟨"FoldKeeper", List.mem_filter.mpr ⟨List.mem_of_getElem? (i := 152) (by decide +kernel), rfl⟩⟩, clRX8, by decide⟩
theorem fX8_62 : jfl RX8 62 7 RX8 TX8 6 5 := ⟨Or.inl (tw_of 153 (by decide +kernel) (by decide +kernel)), clRX8, by decide⟩
theorem gX8_62 : Cond.fieldLink RX8 62 (TX8 5).1 (TX8 5).2.1 (TX8 5).2.2.1 ∈ tw ∧ jcl 7 RX8 TX8 6 ∧ 5 < 6 := ⟨tw_of 153 (by decide +kernel) (by decide +kernel), clRX8, by decide⟩
theorem fX7_111 : jfl RX7 111 7 RX8 TX8 6 5 := ⟨Or.inr ⟨"FoldKeeper", List.mem_filter.mpr ⟨List.mem_of_getElem? (i := 154) (by decide +kernel), rfl⟩⟩, clRX8, by decide⟩
theorem fX3_9 : jfl RX3 9 3 RX3 TX3 2 0 := ⟨Or.inl (tw_of 174 (by decide +kernel) (by decide +kernel)), clRX3, by decide⟩
theorem gX3_9 : Cond.fieldLink RX3 9 (TX3 0).1 (TX3 0).2.1 (TX3 0).2.2.1 ∈ tw ∧ jcl 3 RX3 TX3 2 ∧ 0 < 2 := ⟨tw_of 174 (by decide +kernel) (by decide +kernel), clRX3, by decide⟩
theorem fX3_15 : jfl RX3 15 3 RX3 TX3 2 1 := ⟨Or.inl (tw_of 175 (by decide +kernel) (by decide +kernel)), clRX3, by decide⟩
theorem gX3_15 : Cond.fieldLink RX3 15 (TX3 1).1 (TX3 1).2.1 (TX3 1).2.2.1 ∈ tw ∧ jcl 3 RX3 TX3 2 ∧ 1 < 2 := ⟨tw_of 175 (by decide +kernel) (by decide +kernel), clRX3, by decide⟩
theorem fX1_41 : jfl RX1 41 3 RX3 TX3 2 1 := ⟨Or.inr ⟨"FoldKeeper", List.mem_filter.mpr ⟨List.mem_of_getElem? (i := 176) (by decide +kernel), rfl⟩⟩, clRX3, by decide⟩
theorem fX9_102 : jfl RX9 102 3 RX3 TX3 2 1 := ⟨Or.inr ⟨"FoldKeeper", List.mem_filter.mpr ⟨List.mem_of_getElem? (i := 177) (by decide +kernel), rfl⟩⟩, clRX3, by decide⟩
theorem fX7_121 : jfl RX7 121 3 RX3 TX3 2 1 := ⟨Or.inr ⟨"FoldKeeper", List.mem_filter.mpr ⟨List.mem_of_getElem? (i := 178) (by decide +kernel), rfl⟩⟩, clRX3, by decide⟩
theorem fX7_12 : jfl RX7 12 6 RX7 TX7 8 0 := ⟨Or.inl (tw_of 184 (by decide +kernel) (by decide +kernel)), clRX7, by decide⟩
theorem gX7_12 : Cond.fieldLink RX7 12 (TX7 0).1 (TX7 0).2.1 (TX7 0).2.2.1 ∈ tw ∧ jcl 6 RX7 TX7 8 ∧ 0 < 8 := ⟨tw_of 184 (by decide +kernel) (by decide +kernel), clRX7, by decide⟩
theorem fX9_16 : jfl RX9 16 6 RX7 TX7 8 1 := ⟨Or.inr ⟨"FoldKeeper", List.mem_filter.mpr ⟨List.mem_of_getElem? (i := 185) (by decide +kernel), rfl⟩⟩, clRX7, by decide⟩
theorem fX7_22 : jfl RX7 22 6 RX7 TX7 8 1 := ⟨Or.inl (tw_of 186 (by decide +kernel) (by decide +kernel)), clRX7, by decide⟩
theorem gX7_22 : Cond.fieldLink RX7 22 (TX7 1).1 (TX7 1).2.1 (TX7 1).2.2.1 ∈ tw ∧ jcl 6 RX7 TX7 8 ∧ 1 < 8 := ⟨tw_of 186 (by decide +kernel) (by decide +kernel), clRX7, by decide⟩
theorem fX7_27 : jfl RX7 27 6 RX7 TX7 8 2 := ⟨Or.inl (tw_of 187 (by decide +kernel) (by decide +kernel)), clRX7, by decide⟩
theorem gX7_27 : Cond.fieldLink RX7 27 (TX7 2).1 (TX7 2).2.1 (TX7 2).2.2.1 ∈ tw ∧ jcl 6 RX7 TX7 8 ∧ 2 < 8 := ⟨tw_of 187 (by decide +kernel) (by decide +kernel), clRX7, by decide⟩
theorem fX9_75 : jfl RX9 75 6 RX7 TX7 8 2 := ⟨Or.inr ⟨"FoldKeeper", List.mem_filter.mpr ⟨List.mem_of_getElem? (i := 188) (by decide +kernel), rfl⟩⟩, clRX7, by decide⟩
theorem fX7_31 : jfl RX7 31 6 RX7 TX7 8 3 := ⟨Or.inl (tw_of 189 (by decide +kernel) (by decide +kernel)), clRX7, by decide⟩
theorem gX7_31 : Cond.fieldLink RX7 31 (TX7 3).1 (TX7 3).2.1 (TX7 3).2.2.1 ∈ tw ∧ jcl 6 RX7 TX7 8 ∧ 3 < 8 := ⟨tw_of 189 (by decide +kernel) (by decide +kernel), clRX7, by decide⟩
theorem fX9_84 : jfl RX9 84 6 RX7 TX7 8 3 := ⟨Or.inr ⟨"FoldKeeper", List.mem_filter.mpr ⟨List.mem_of_getElem? (i := 190) (by decide +kernel), rfl⟩⟩, clRX7, by decide⟩
theorem fX7_35 : jfl RX7 35 6 RX7 TX7 8 4 := ⟨Or.inl (tw_of 191 (by decide +kernel) (by decide +kernel)), clRX7, by decide⟩
theorem gX7_35 : Cond.fieldLink RX7 35 (TX7 4).1 (TX7 4).2.1 (TX7 4).2.2.1 ∈ tw ∧ jcl 6 RX7 TX7 8 ∧ 4 < 8 := ⟨tw_of 191 (by decide +kernel) (by decide +kernel), clRX7, by decide⟩
theorem fX7_50 : jfl RX7 50 6 RX7 TX7 8 5 := ⟨Or.inl (tw_of 192 (by decide +kernel) (by decide +kernel)), clRX7, by decide⟩
theorem gX7_50 : Cond.fieldLink RX7 50 (TX7 5).1 (TX7 5).2.1 (TX7 5).2.2.1 ∈ tw ∧ jcl 6 RX7 TX7 8 ∧ 5 < 8 := ⟨tw_of 192 (by decide +kernel) (by decide +kernel), clRX7, by decide⟩
theorem fX7_99 : jfl RX7 99 6 RX7 TX7 8 6 := ⟨Or.inl (tw_of 193 (by decide +kernel) (by decide +kernel)), clRX7, by decide⟩
theorem gX7_99 : Cond.fieldLink RX7 99 (TX7 6).1 (TX7 6).2.1 (TX7 6).2.2.1 ∈ tw ∧ jcl 6 RX7 TX7 8 ∧ 6 < 8 := ⟨tw_of 193 (by decide +kernel) (by decide +kernel), clRX7, by decide⟩
theorem fX7_90 : jfl RX7 90 6 RX7 TX7 8 7 := ⟨Or.inl (tw_of 194 (by decide +kernel) (by decide +kernel)), clRX7, by decide⟩
theorem gX7_90 : Cond.fieldLink RX7 90 (TX7 7).1 (TX7 7).2.1 (TX7 7).2.2.1 ∈ tw ∧ jcl 6 RX7 TX7 8 ∧ 7 < 8 := ⟨tw_of 194 (by decide +kernel) (by decide +kernel), clRX7, by decide⟩
theorem fX1_12 : jfl RX1 12 1 RX1 TX1 8 0 := ⟨Or.inl (tw_of 221 (by decide +kernel) (by decide +kernel)), clRX1, by decide⟩
theorem gX1_12 : Cond.fieldLink RX1 12 (TX1 0).1 (TX1 0).2.1 (TX1 0).2.2.1 ∈ tw ∧ jcl 1 RX1 TX1 8 ∧ 0 < 8 := ⟨tw_of 221 (by decide +kernel) (by decide +kernel), clRX1, by decide⟩
theorem fX9_28 : jfl RX9 28 1 RX1 TX1 8 0 := ⟨Or.inr ⟨"FoldKeeper", List.mem_filter.mpr ⟨List.mem_of_getElem? (i := 222) (by decide +kernel), rfl⟩⟩, clRX1, by decide⟩
theorem fX1_18 : jfl RX1 18 1 RX1 TX1 8 1 := ⟨Or.inl (tw_of 223 (by decide +kernel) (by decide +kernel)), clRX1, by decide⟩
theorem gX1_18 : Cond.fieldLink RX1 18 (TX1 1).1 (TX1 1).2.1 (TX1 1).2.2.1 ∈ tw ∧ jcl 1 RX1 TX1 8 ∧ 1 < 8 := ⟨tw_of 223 (by decide +kernel) (by decide +kernel), clRX1, by decide⟩
theorem fX9_134 : jfl RX9 134 1 RX1 TX1 8 1 := ⟨Or.inr ⟨"FoldKeeper", List.mem_filter.mpr ⟨List.mem_of_getElem? (i := 224) (by decide +kernel), rfl⟩⟩, clRX1, by decide⟩
theorem fX1_22 : jfl RX1 22 1 RX1 TX1 8 2 := ⟨Or.inl (tw_of 225 (by decide +kernel) (by decide +kernel)), clRX1, by decide⟩
theorem gX1_22 : Cond.fieldLink RX1 22 (TX1 2).1 (TX1 2).2.1 (TX1 2).2.2.1 ∈ tw ∧ jcl 1 RX1 TX1 8 ∧ 2 < 8 := ⟨tw_of 225 (by decide +kernel) (by decide +kernel), clRX1, by decide⟩
theorem fX9_137 : jfl RX9 137 1 RX1 TX1 8 2 := ⟨Or.inr ⟨"FoldKeeper", List.mem_filter.mpr ⟨List.mem_of_getElem? (i := 226) (by decide +kernel), rfl⟩⟩, clRX1, by decide⟩
theorem fX1_25 : jfl RX1 25 1 RX1 TX1 8 3 := ⟨Or.inl (tw_of 227 (by decide +kernel) (by decide +kernel)), clRX1, by decide⟩
theorem gX1_25 : Cond.fieldLink RX1 25 (TX1 3).1 (TX1 3).2.1 (TX1 3).2.2.1 ∈ tw ∧ jcl 1 RX1 TX1 8 ∧ 3 < 8 := ⟨tw_of 227 (by decide +kernel) (by decide +kernel), clRX1, by decide⟩
theorem fX1_28 : jfl RX1 28 1 RX1 TX1 8 4 := ⟨Or.inl (tw_of 228 (by decide +kernel) (by decide +kernel)), clRX1, by decide⟩
theorem gX1_28 : Cond.fieldLink RX1 28 (TX1 4).1 (TX1 4).2.1 (TX1 4).2.2.1 ∈ tw ∧ jcl 1 RX1 TX1 8 ∧ 4 < 8 := ⟨tw_of 228 (by decide +kernel) (by decide +kernel), clRX1, by decide⟩
theorem fX9_128 : jfl RX9 128 1 RX1 TX1 8 4 := ⟨Or.inr ⟨"FoldKeeper", List.mem_filter.mpr ⟨List.mem_of_getElem? (i := 229) (by decide +kernel), rfl⟩⟩, clRX1, by decide⟩
theorem fX1_31 : jfl RX1 31 1 RX1 TX1 8 5 := ⟨Or.inl (tw_of 230 (by decide +kernel) (by decide +kernel)), clRX1, by decide⟩
theorem gX1_31 : Cond.fieldLink RX1 31 (TX1 5).1 (TX1 5).2.1 (TX1 5).2.2.1 ∈ tw ∧ jcl 1 RX1 TX1 8 ∧ 5 < 8 := ⟨tw_of 230 (by decide +kernel) (by decide +kernel), clRX1, by decide⟩
theorem fX9_105 : jfl RX9 105 1 RX1 TX1 8 5 := ⟨Or.inr ⟨"FoldKeeper", List.mem_filter.mpr ⟨List.mem_of_getElem? (i := 231) (by decide +kernel), rfl⟩⟩, clRX1, by decide⟩
theorem fX1_34 : jfl RX1 34 1 RX1 TX1 8 6 := ⟨Or.inl (tw_of 232 (by decide +kernel) (by decide +kernel)), clRX1, by decide⟩
theorem gX1_34 : Cond.fieldLink RX1 34 (TX1 6).1 (TX1 6).2.1 (TX1 6).2.2.1 ∈ tw ∧ jcl 1 RX1 TX1 8 ∧ 6 < 8 := ⟨tw_of 232 (by decide +kernel) (by decide +kernel), clRX1, by decide⟩
theorem fX9_131 : jfl RX9 131 1 RX1 TX1 8 6 := ⟨Or.inr ⟨"FoldKeeper", List.mem_filter.mpr ⟨List.mem_of_getElem? (i := 233) (by decide +kernel), rfl⟩⟩, clRX1, by decide⟩
theorem fX1_37 : jfl RX1 37 1 RX1 TX1 8 7 := ⟨Or.inl (tw_of 234 (by decide +kernel) (by decide +kernel)), clRX1, by decide⟩
theorem gX1_37 : Cond.fieldLink RX1 37 (TX1 7).1 (TX1 7).2.1 (TX1 7).2.2.1 ∈ tw ∧ jcl 1 RX1 TX1 8 ∧ 7 < 8 := ⟨tw_of 234 (by decide +kernel) (by decide +kernel), clRX1, by decide⟩
theorem fX9_150 : jfl RX9 150 1 RX1 TX1 8 7 := ⟨Or.inr ⟨"FoldKeeper", List.mem_filter.mpr ⟨List.mem_of_getElem? (i := 235) (by decide +kernel), rfl⟩⟩, clRX1, by decide⟩
theorem fX2_13 : jfl RX2 13 2 RX2 TX2 4 0 := ⟨Or.inl (tw_of 262 (by decide +kernel) (by decide +kernel)), clRX2, by decide⟩
theorem gX2_13 : Cond.fieldLink RX2 13 (TX2 0).1 (TX2 0).2.1 (TX2 0).2.2.1 ∈ tw ∧ jcl 2 RX2 TX2 4 ∧ 0 < 4 := ⟨tw_of 262 (by decide +kernel) (by decide +kernel), clRX2, by decide⟩
theorem fX2_25 : jfl RX2 25 2 RX2 TX2 4 1 := ⟨Or.inl (tw_of 263 (by decide +kernel) (by decide +kernel)), clRX2, by decide⟩
theorem gX2_25 : Cond.fieldLink RX2 25 (TX2 1).1 (TX2 1).2.1 (TX2 1).2.2.1 ∈ tw ∧ jcl 2 RX2 TX2 4 ∧ 1 < 4 := ⟨tw_of 263 (by decide +kernel) (by decide +kernel), clRX2, by decide⟩
theorem fX2_22 : jfl RX2 22 2 RX2 TX2 4 2 := ⟨Or.inl (tw_of 264 (by decide +kernel) (by decide +kernel)), clRX2, by decide⟩
theorem gX2_22 : Cond.fieldLink RX2 22 (TX2 2).1 (TX2 2).2.1 (TX2 2).2.2.1 ∈ tw ∧ jcl 2 RX2 TX2 4 ∧ 2 < 4 := ⟨tw_of 264 (by decide +kernel) (by decide +kernel), clRX2, by decide⟩
theorem fX9_112 : jfl RX9 112 2 RX2 TX2 4 2 := ⟨Or.inr ⟨"FoldKeeper", List.mem_filter.mpr ⟨List.mem_of_getElem? (i := 265) (by decide +kernel), rfl⟩⟩, clRX2, by decide⟩
theorem fX2_18 : jfl RX2 18 2 RX2 TX2 4 3 := ⟨Or.inl (tw_of 266 (by decide +kernel) (by decide +kernel)), clRX2, by decide⟩
theorem gX2_18 : Cond.fieldLink RX2 18 (TX2 3).1 (TX2 3).2.1 (TX2 3).2.2.1 ∈ tw ∧ jcl 2 RX2 TX2 4 ∧ 3 < 4 := ⟨tw_of 266 (by decide +kernel) (by decide +kernel), clRX2, by decide⟩
theorem fX9_115 : jfl RX9 115 2 RX2 TX2 4 3 := ⟨Or.inr ⟨"FoldKeeper", List.mem_filter.mpr ⟨List.mem_of_getElem? (i := 267) (by decide +kernel), rfl⟩⟩, clRX2, by decide⟩
theorem fX4_9 : jfl RX4 9 4 RX4 TX4 4 0 := ⟨Or.inl (tw_of 286 (by decide +kernel) (by decide +kernel)), clRX4, by decide⟩
theorem gX4_9 : Cond.fieldLink RX4 9 (TX4 0).1 (TX4 0).2.1 (TX4 0).2.2.1 ∈ tw ∧ jcl 4 RX4 TX4 4 ∧ 0 < 4 := ⟨tw_of 286 (by decide +kernel) (by decide +kernel), clRX4, by decide⟩
theorem fX9_253 : jfl RX9 253 4 RX4 TX4 4 0 := ⟨Or.inr ⟨"FoldKeeper", List.mem_filter.mpr ⟨List.mem_of_getElem? (i := 287) (by decide +kernel), rfl⟩⟩, clRX4, by decide⟩
theorem fX4_15 : jfl RX4 15 4 RX4 TX4 4 1 := ⟨Or.inl (tw_of 288 (by decide +kernel) (by decide +kernel)), clRX4, by decide⟩
theorem gX4_15 : Cond.fieldLink RX4 15 (TX4 1).1 (TX4 1).2.1 (TX4 1).2.2.1 ∈ tw ∧ jcl 4 RX4 TX4 4 ∧ 1 < 4 := ⟨tw_of 288 (by decide +kernel) (by decide +kernel), clRX4, by decide⟩
theorem fX9_259 : jfl RX9 259 4 RX4 TX4 4 1 := ⟨Or.inr ⟨"FoldKeeper", List.mem_filter.mpr ⟨List.mem_of_getElem? (i := 289) (by decide +kernel), rfl⟩⟩, clRX4, by decide⟩
theorem fX4_19 : jfl RX4 19 4 RX4 TX4 4 2 := ⟨Or.inl (tw_of 290 (by decide +kernel) (by decide +kernel)), clRX4, by decide⟩
theorem gX4_19 : Cond.fieldLink RX4 19 (TX4 2).1 (TX4 2).2.1 (TX4 2).2.2.1 ∈ tw ∧ jcl 4 RX4 TX4 4 ∧ 2 < 4 := ⟨tw_of 290 (by decide +kernel) (by decide +kernel), clRX4, by decide⟩
theorem fX9_244 : jfl RX9 244 4 RX4 TX4 4 2 := ⟨Or.inr ⟨"FoldKeeper", List.mem_filter.mpr ⟨List.mem_of_getElem? (i := 291) (by decide +kernel), rfl⟩⟩, clRX4, by decide⟩
theorem fX4_23 : jfl RX4 23 4 RX4 TX4 4 3 := ⟨Or.inl (tw_of 292 (by decide +kernel) (by decide +kernel)), clRX4, by decide⟩
theorem gX4_23 : Cond.fieldLink RX4 23 (TX4 3).1 (TX4 3).2.1 (TX4 3).2.2.1 ∈ tw ∧ jcl 4 RX4 TX4 4 ∧ 3 < 4 := ⟨tw_of 292 (by decide +kernel) (by decide +kernel), clRX4, by decide⟩
theorem fX9_263 : jfl RX9 263 4 RX4 TX4 4 3 := ⟨Or.inr ⟨"FoldKeeper", List.mem_filter.mpr ⟨List.mem_of_getElem? (i := 293) (by decide +kernel), rfl⟩⟩, clRX4, by decide⟩
theorem fX9_10 : jfl RX9 10 8 RX9 TX9 9 0 := ⟨Or.inl (tw_of 303 (by decide +kernel) (by decide +kernel)), clRX9, by decide⟩
theorem gX9_10 : Cond.fieldLink RX9 10 (TX9 0).1 (TX9 0).2.1 (TX9 0).2.2.1 ∈ tw ∧ jcl 8 RX9 TX9 9 ∧ 0 < 9 := ⟨tw_of 303 (by decide +kernel) (by decide +kernel), clRX9, by decide⟩
theorem fX9_20 : jfl RX9 20 8 RX9 TX9 9 1 := ⟨Or.inl (tw_of 304 (by decide +kernel) (by decide +kernel)), clRX9, by decide⟩
theorem gX9_20 : Cond.fieldLink RX9 20 (TX9 1).1 (TX9 1).2.1 (TX9 1).2.2.1 ∈ tw ∧ jcl 8 RX9 TX9 9 ∧ 1 < 9 := ⟨tw_of 304 (by decide +kernel) (by decide +kernel), clRX9, by decide⟩
theorem fX9_24 : jfl RX9 24 8 RX9 TX9 9 2 := ⟨Or.inl (tw_of 305 (by decide +kernel) (by decide +kernel)), clRX9, by decide⟩
theorem gX9_24 : Cond.fieldLink RX9 24 (TX9 2).1 (TX9 2).2.1 (TX9 2).2.2.1 ∈ tw ∧ jcl 8 RX9 TX9 9 ∧ 2 < 9 := ⟨tw_of 305 (by decide +kernel) (by decide +kernel), clRX9, by decide⟩
theorem fX9_32 : jfl RX9 32 8 RX9 TX9 9 3 := ⟨Or.inl (tw_of 306 (by decide +kernel) (by decide +kernel)), clRX9, by decide⟩
theorem gX9_32 : Cond.fieldLink RX9 32 (TX9 3).1 (TX9 3).2.1 (TX9 3).2.2.1 ∈ tw ∧ jcl 8 RX9 TX9 9 ∧ 3 < 9 := ⟨tw_of 306 (by decide +kernel) (by decide +kernel), clRX9, by decide⟩
theorem fX9_36 : jfl RX9 36 8 RX9 TX9 9 4 := ⟨Or.inl (tw_of 307 (by decide +kernel) (by decide +kernel)), clRX9, by decide⟩
theorem gX9_36 : Cond.fieldLink RX9 36 (TX9 4).1 (TX9 4).2.1 (TX9 4).2.2.1 ∈ tw ∧ jcl 8 RX9 TX9 9 ∧ 4 < 9 := ⟨tw_of 307 (by decide +kernel) (by decide +kernel), clRX9, by decide⟩
theorem fX9_42 : jfl RX9 42 8 RX9 TX9 9 5 := ⟨Or.inl (tw_of 308 (by decide +kernel) (by decide +kernel)), clRX9, by decide⟩
theorem gX9_42 : Cond.fieldLink RX9 42 (TX9 5).1 (TX9 5).2.1 (TX9 5).2.2.1 ∈ tw ∧ jcl 8 RX9 TX9 9 ∧ 5 < 9 := ⟨tw_of 308 (by decide +kernel) (by decide +kernel), clRX9, by decide⟩
theorem fX9_47 : jfl RX9 47 8 RX9 TX9 9 6 := ⟨Or.inl (tw_of 309 (by decide +kernel) (by decide +kernel)), clRX9, by decide⟩
theorem gX9_47 : Cond.fieldLink RX9 47 (TX9 6).1 (TX9 6).2.1 (TX9 6).2.2.1 ∈ tw ∧ jcl 8 RX9 TX9 9 ∧ 6 < 9 := ⟨tw_of 309 (by decide +kernel) (by decide +kernel), clRX9, by decide⟩
theorem fX9_53 : jfl RX9 53 8 RX9 TX9 9 7 := ⟨Or.inl (tw_of 310 (by decide +kernel) (by decide +kernel)), clRX9, by decide⟩
theorem gX9_53 : Cond.fieldLink RX9 53 (TX9 7).1 (TX9 7).2.1 (TX9 7).2.2.1 ∈ tw ∧ jcl 8 RX9 TX9 9 ∧ 7 < 9 := ⟨tw_of 310 (by decide +kernel) (by decide +kernel), clRX9, by decide⟩
theorem fX9_256 : jfl RX9 256 8 RX9 TX9 9 8 := ⟨Or.inl (tw_of 311 (by decide +kernel) (by decide +kernel)), clRX9, by decide⟩
theorem gX9_256 : Cond.fieldLink RX9 256 (TX9 8).1 (TX9 8).2.1 (TX9 8).2.2.1 ∈ tw ∧ jcl 8 RX9 TX9 9 ∧ 8 < 9 := ⟨tw_of 311 (by decide +kernel) (by decide +kernel), clRX9, by decide⟩
theorem sJ0_38 : Cond.fieldLink RJ0 38 "java/lang/String" "COMPACT_STRINGS" "Z" ∈ tw := tw_of 459 (by decide +kernel) (by decide +kernel)
theorem sJ0_1053 : Cond.fieldLink RJ0 1053 "jdk/internal/util/Preconditions" "SIOOBE_FORMATTER" "Ljava/util/function/BiFunction;" ∈ tw := tw_of 475 (by decide +kernel) (by decide +kernel)
theorem sJ2_44 : Cond.fieldLink RJ2 44 "java/lang/StringUTF16" "$assertionsDisabled" "Z" ∈ tw := tw_of 493 (by decide +kernel) (by decide +kernel)
theorem sJ2_59 : Cond.fieldLink RJ2 59 "java/lang/StringUTF16" "HI_BYTE_SHIFT" "I" ∈ tw := tw_of 495 (by decide +kernel) (by decide +kernel)
theorem sJ2_63 : Cond.fieldLink RJ2 63 "java/lang/StringUTF16" "LO_BYTE_SHIFT" "I" ∈ tw := tw_of 497 (by decide +kernel) (by decide +kernel)
theorem sX9_221 : Cond.fieldLink RX9 221 "FoldKeeper" "GROWN" "[C" ∈ tw := tw_of 784 (by decide +kernel) (by decide +kernel)
theorem fX10_7 : jfl RX10 7 9 RX10 TX10 31 0 := ⟨Or.inl (tw_of 864 (by decide +kernel) (by decide +kernel)), clRX10, by decide⟩
theorem gX10_7 : Cond.fieldLink RX10 7 (TX10 0).1 (TX10 0).2.1 (TX10 0).2.2.1 ∈ tw ∧ jcl 9 RX10 TX10 31 ∧ 0 < 31 := ⟨tw_of 864 (by decide +kernel) (by decide +kernel), clRX10, by decide⟩
theorem fX10_13 : jfl RX10 13 9 RX10 TX10 31 1 := ⟨Or.inl (tw_of 865 (by decide +kernel) (by decide +kernel)), clRX10, by decide⟩
theorem gX10_13 : Cond.fieldLink RX10 13 (TX10 1).1 (TX10 1).2.1 (TX10 1).2.2.1 ∈ tw ∧ jcl 9 RX10 TX10 31 ∧ 1 < 31 := ⟨tw_of 865 (by decide +kernel) (by decide +kernel), clRX10, by decide⟩
theorem fX10_65 : jfl RX10 65 9 RX10 TX10 31 2 := ⟨Or.inl (tw_of 866 (by decide +kernel) (by decide +kernel)), clRX10, by decide⟩
theorem gX10_65 : Cond.fieldLink RX10 65 (TX10 2).1 (TX10 2).2.1 (TX10 2).2.2.1 ∈ tw ∧ jcl 9 RX10 TX10 31 ∧ 2 < 31 := ⟨tw_of 866 (by decide +kernel) (by decide +kernel), clRX10, by decide⟩
theorem fX10_152 : jfl RX10 152 9 RX10 TX10 31 3 := ⟨Or.inl (tw_of 867 (by decide +kernel) (by decide +kernel)), clRX10, by decide⟩
theorem gX10_152 : Cond.fieldLink RX10 152 (TX10 3).1 (TX10 3).2.1 (TX10 3).2.2.1 ∈ tw ∧ jcl 9 RX10 TX10 31 ∧ 3 < 31 := ⟨tw_of 867 (by decide +kernel) (by decide +kernel), clRX10, by decide⟩
theorem fX10_69 : jfl RX10 69 9 RX10 TX10 31 4 := ⟨Or.inl (tw_of 868 (by decide +kernel) (by decide +kernel)), clRX10, by decide⟩
theorem gX10_69 : Cond.fieldLink RX10 69 (TX10 4).1 (TX10 4).2.1 (TX10 4).2.2.1 ∈ tw ∧ jcl 9 RX10 TX10 31 ∧ 4 < 31 := ⟨tw_of 868 (by decide +kernel) (by decide +kernel), clRX10, by decide⟩
theorem fX10_75 : jfl RX10 75 9 RX10 TX10 31 5 := ⟨Or.inl (tw_of 869 (by decide +kernel) (by decide +kernel)), clRX10, by decide⟩
theorem gX10_75 : Cond.fieldLink RX10 75 (TX10 5).1 (TX10 5).2.1 (TX10 5).2.2.1 ∈ tw ∧ jcl 9 RX10 TX10 31 ∧ 5 < 31 := ⟨tw_of 869 (by decide +kernel) (by decide +kernel), clRX10, by decide⟩
theorem fX10_89 : jfl RX10 89 9 RX10 TX10 31 6 := ⟨Or.inl (tw_of 870 (by decide +kernel) (by decide +kernel)), clRX10, by decide⟩
theorem gX10_89 : Cond.fieldLink RX10 89 (TX10 6).1 (TX10 6).2.1 (TX10 6).2.2.1 ∈ tw ∧ jcl 9 RX10 TX10 31 ∧ 6 < 31 := ⟨tw_of 870 (by decide +kernel) (by decide +kernel), clRX10, by decide⟩
theorem fX10_72 : jfl RX10 72 9 RX10 TX10 31 7 := ⟨Or.inl (tw_of 871 (by decide +kernel) (by decide +kernel)), clRX10, by decide⟩
theorem gX10_72 : Cond.fieldLink RX10 72 (TX10 7).1 (TX10 7).2.1 (TX10 7).2.2.1 ∈ tw ∧ jcl 9 RX10 TX10 31 ∧ 7 < 31 := ⟨tw_of 871 (by decide +kernel) (by decide +kernel), clRX10, by decide⟩
theorem fX10_86 : jfl RX10 86 9 RX10 TX10 31 8 := ⟨Or.inl (tw_of 872 (by decide +kernel) (by decide +kernel)), clRX10, by decide⟩
theorem gX10_86 : Cond.fieldLink RX10 86 (TX10 8).1 (TX10 8).2.1 (TX10 8).2.2.1 ∈ tw ∧ jcl 9 RX10 TX10 31 ∧ 8 < 31 := ⟨tw_of 872 (by decide +kernel) (by decide +kernel), clRX10, by decide⟩
theorem fX10_109 : jfl RX10 109 9 RX10 TX10 31 9 := ⟨Or.inl (tw_of 873 (by decide +kernel) (by decide +kernel)), clRX10, by decide⟩
theorem gX10_109 : Cond.fieldLink RX10 109 (TX10 9).1 (TX10 9).2.1 (TX10 9).2.2.1 ∈ tw ∧ jcl 9 RX10 TX10 31 ∧ 9 < 31 := ⟨tw_of 873 (by decide +kernel) (by decide +kernel), clRX10, by decide⟩
theorem fX10_139 : jfl RX10 139 9 RX10 TX10 31 10 := ⟨Or.inl (tw_of 874 (by decide +kernel) (by decide +kernel)), clRX10, by decide⟩
theorem gX10_139 : Cond.fieldLink RX10 139 (TX10 10).1 (TX10 10).2.1 (TX10 10).2.2.1 ∈ tw ∧ jcl 9 RX10 TX10 31 ∧ 10 < 31 := ⟨tw_of 874 (by decide +kernel) (by decide +kernel), clRX10, by decide⟩
theorem fX10_119 : jfl RX10 119 9 RX10 TX10 31 11 := ⟨Or.inl (tw_of 875 (by decide +kernel) (by decide +kernel)), clRX10, by decide⟩
theorem gX10_119 : Cond.fieldLink RX10 119 (TX10 11).1 (TX10 11).2.1 (TX10 11).2.2.1 ∈ tw ∧ jcl 9 RX10 TX10 31 ∧ 11 < 31 := ⟨tw_of 875 (by decide +kernel) (by decide +kernel), clRX10, by decide⟩
theorem fX10_102 : jfl RX10 102 9 RX10 TX10 31 12 := ⟨Or.inl (tw_of 876 (by decide +kernel) (by decide +kernel)), clRX10, by decide⟩
theorem gX10_102 : Cond.fieldLink RX10 102 (TX10 12).1 (TX10 12).2.1 (TX10 12).2.2.1 ∈ tw ∧ jcl 9 RX10 TX10 31 ∧ 12 < 31 := ⟨tw_of 876 (by decide +kernel) (by decide +kernel), clRX10, by decide⟩
theorem fX10_95 : jfl RX10 95 9 RX10 TX10 31 13 := ⟨Or.inl (tw_of 877 (by decide +kernel) (by decide +kernel)), clRX10, by decide⟩
theorem gX10_95 : Cond.fieldLink RX10 95 (TX10 13).1 (TX10 13).2.1 (TX10 13).2.2.1 ∈ tw ∧ jcl 9 RX10 TX10 31 ∧ 13 < 31 := ⟨tw_of 877 (by decide +kernel) (by decide +kernel), clRX10, by decide⟩
theorem fX10_16 : jfl RX10 16 9 RX10 TX10 31 14 := ⟨Or.inl (tw_of 878 (by decide +kernel) (by decide +kernel)), clRX10, by decide⟩
theorem gX10_16 : Cond.fieldLink RX10 16 (TX10 14).1 (TX10 14).2.1 (TX10 14).2.2.1 ∈ tw ∧ jcl 9 RX10 TX10 31 ∧ 14 < 31 := ⟨tw_of 878 (by decide +kernel) (by decide +kernel), clRX10, by decide⟩
theorem fX10_19 : jfl RX10 19 9 RX10 TX10 31 15 := ⟨Or.inl (tw_of 879 (by decide +kernel) (by decide +kernel)), clRX10, by decide⟩
theorem gX10_19 : Cond.fieldLink RX10 19 (TX10 15).1 (TX10 15).2.1 (TX10 15).2.2.1 ∈ tw ∧ jcl 9 RX10 TX10 31 ∧ 15 < 31 := ⟨tw_of 879 (by decide +kernel) (by decide +kernel), clRX10, by decide⟩
theorem fX10_22 : jfl RX10 22 9 RX10 TX10 31 16 := ⟨Or.inl (tw_of 880 (by decide +kernel) (by decide +kernel)), clRX10, by decide⟩
theorem gX10_22 : Cond.fieldLink RX10 22 (TX10 16).1 (TX10 16).2.1 (TX10 16).2.2.1 ∈ tw ∧ jcl 9 RX10 TX10 31 ∧ 16 < 31 := ⟨tw_of 880 (by decide +kernel) (by decide +kernel), clRX10, by decide⟩
theorem fX10_25 : jfl RX10 25 9 RX10 TX10 31 17 := ⟨Or.inl (tw_of 881 (by decide +kernel) (by decide +kernel)), clRX10, by decide⟩
theorem gX10_25 : Cond.fieldLink RX10 25 (TX10 17).1 (TX10 17).2.1 (TX10 17).2.2.1 ∈ tw ∧ jcl 9 RX10 TX10 31 ∧ 17 < 31 := ⟨tw_of 881 (by decide +kernel) (by decide +kernel), clRX10, by decide⟩
theorem fX10_28 : jfl RX10 28 9 RX10 TX10 31 18 := ⟨Or.inl (tw_of 882 (by decide +kernel) (by decide +kernel)), clRX10, by decide⟩
theorem gX10_28 : Cond.fieldLink RX10 28 (TX10 18).1 (TX10 18).2.1 (TX10 18).2.2.1 ∈ tw ∧ jcl 9 RX10 TX10 31 ∧ 18 < 31 := ⟨tw_of 882 (by decide +kernel) (by decide +kernel), clRX10, by decide⟩
theorem fX10_31 : jfl RX10 31 9 RX10 TX10 31 19 := ⟨Or.inl (tw_of 883 (by decide +kernel) (by decide +kernel)), clRX10, by decide⟩
theorem gX10_31 : Cond.fieldLink RX10 31 (TX10 19).1 (TX10 19).2.1 (TX10 19).2.2.1 ∈ tw ∧ jcl 9 RX10 TX10 31 ∧ 19 < 31 := ⟨tw_of 883 (by decide +kernel) (by decide +kernel), clRX10, by decide⟩
theorem fX10_34 : jfl RX10 34 9 RX10 TX10 31 20 := ⟨Or.inl (tw_of 884 (by decide +kernel) (by decide +kernel)), clRX10, by decide⟩
theorem gX10_34 : Cond.fieldLink RX10 34 (TX10 20).1 (TX10 20).2.1 (TX10 20).2.2.1 ∈ tw ∧ jcl 9 RX10 TX10 31 ∧ 20 < 31 := ⟨tw_of 884 (by decide +kernel) (by decide +kernel), clRX10, by decide⟩
theorem fX10_37 : jfl RX10 37 9 RX10 TX10 31 21 := ⟨Or.inl (tw_of 885 (by decide +kernel) (by decide +kernel)), clRX10, by decide⟩
theorem gX10_37 : Cond.fieldLink RX10 37 (TX10 21).1 (TX10 21).2.1 (TX10 21).2.2.1 ∈ tw ∧ jcl 9 RX10 TX10 31 ∧ 21 < 31 := ⟨tw_of 885 (by decide +kernel) (by decide +kernel), clRX10, by decide⟩
theorem fX10_40 : jfl RX10 40 9 RX10 TX10 31 22 := ⟨Or.inl (tw_of 886 (by decide +kernel) (by decide +kernel)), clRX10, by decide⟩
theorem gX10_40 : Cond.fieldLink RX10 40 (TX10 22).1 (TX10 22).2.1 (TX10 22).2.2.1 ∈ tw ∧ jcl 9 RX10 TX10 31 ∧ 22 < 31 := ⟨tw_of 886 (by decide +kernel) (by decide +kernel), clRX10, by decide⟩
theorem fX10_159 : jfl RX10 159 9 RX10 TX10 31 23 := ⟨Or.inl (tw_of 887 (by decide +kernel) (by decide +kernel)), clRX10, by decide⟩
theorem gX10_159 : Cond.fieldLink RX10 159 (TX10 23).1 (TX10 23).2.1 (TX10 23).2.2.1 ∈ tw ∧ jcl 9 RX10 TX10 31 ∧ 23 < 31 := ⟨tw_of 887 (by decide +kernel) (by decide +kernel), clRX10, by decide⟩
theorem fX10_162 : jfl RX10 162 9 RX10 TX10 31 24 := ⟨Or.inl (tw_of 888 (by decide +kernel) (by decide +kernel)), clRX10, by decide⟩
theorem gX10_162 : Cond.fieldLink RX10 162 (TX10 24).1 (TX10 24).2.1 (TX10 24).2.2.1 ∈ tw ∧ jcl 9 RX10 TX10 31 ∧ 24 < 31 := ⟨tw_of 888 (by decide +kernel) (by decide +kernel), clRX10, by decide⟩
theorem fX10_43 : jfl RX10 43 9 RX10 TX10 31 25 := ⟨Or.inl (tw_of 889 (by decide +kernel) (by decide +kernel)), clRX10, by decide⟩
theorem gX10_43 : Cond.fieldLink RX10 43 (TX10 25).1 (TX10 25).2.1 (TX10 25).2.2.1 ∈ tw ∧ jcl 9 RX10 TX10 31 ∧ 25 < 31 := ⟨tw_of 889 (by decide +kernel) (by decide +kernel), clRX10, by decide⟩
theorem fX10_46 : jfl RX10 46 9 RX10 TX10 31 26 := ⟨Or.inl (tw_of 890 (by decide +kernel) (by decide +kernel)), clRX10, by decide⟩
theorem gX10_46 : Cond.fieldLink RX10 46 (TX10 26).1 (TX10 26).2.1 (TX10 26).2.2.1 ∈ tw ∧ jcl 9 RX10 TX10 31 ∧ 26 < 31 := ⟨tw_of 890 (by decide +kernel) (by decide +kernel), clRX10, by decide⟩
theorem fX10_50 : jfl RX10 50 9 RX10 TX10 31 27 := ⟨Or.inl (tw_of 891 (by decide +kernel) (by decide +kernel)), clRX10, by decide⟩
theorem gX10_50 : Cond.fieldLink RX10 50 (TX10 27).1 (TX10 27).2.1 (TX10 27).2.2.1 ∈ tw ∧ jcl 9 RX10 TX10 31 ∧ 27 < 31 := ⟨tw_of 891 (by decide +kernel) (by decide +kernel), clRX10, by decide⟩
theorem fX10_53 : jfl RX10 53 9 RX10 TX10 31 28 := ⟨Or.inl (tw_of 892 (by decide +kernel) (by decide +kernel)), clRX10, by decide⟩
theorem gX10_53 : Cond.fieldLink RX10 53 (TX10 28).1 (TX10 28).2.1 (TX10 28).2.2.1 ∈ tw ∧ jcl 9 RX10 TX10 31 ∧ 28 < 31 := ⟨tw_of 892 (by decide +kernel) (by decide +kernel), clRX10, by decide⟩
theorem fX10_56 : jfl RX10 56 9 RX10 TX10 31 29 := ⟨Or.inl (tw_of 893 (by decide +kernel) (by decide +kernel)), clRX10, by decide⟩
theorem gX10_56 : Cond.fieldLink RX10 56 (TX10 29).1 (TX10 29).2.1 (TX10 29).2.2.1 ∈ tw ∧ jcl 9 RX10 TX10 31 ∧ 29 < 31 := ⟨tw_of 893 (by decide +kernel) (by decide +kernel), clRX10, by decide⟩
theorem fX10_272 : jfl RX10 272 9 RX10 TX10 31 30 := ⟨Or.inl (tw_of 894 (by decide +kernel) (by decide +kernel)), clRX10, by decide⟩
theorem gX10_272 : Cond.fieldLink RX10 272 (TX10 30).1 (TX10 30).2.1 (TX10 30).2.2.1 ∈ tw ∧ jcl 9 RX10 TX10 31 ∧ 30 < 31 := ⟨tw_of 894 (by decide +kernel) (by decide +kernel), clRX10, by decide⟩
theorem sJ0_9 : Cond.fieldLink RJ0 9 "java/lang/String" "value" "[B" ∈ tw := tw_of 1266 (by decide +kernel) (by decide +kernel)
theorem sJ0_15 : Cond.fieldLink RJ0 15 "java/lang/String" "coder" "B" ∈ tw := tw_of 1267 (by decide +kernel) (by decide +kernel)
theorem B_X9_init : okB yX9_init cX9_init 2 none 0 := ⟨tw_of 84 (by decide +kernel) (by decide +kernel), tw_of 63 (by decide +kernel) (by decide +kernel), by decide +kernel, by decide +kernel, by decide +kernel⟩
theorem mL_9 : okI RL 9 yX9_init cX9_init 2 0 := ⟨B_X9_init, Or.inl (tw_of 82 (by decide +kernel) (by decide +kernel)), tw_of 83 (by decide +kernel) (by decide +kernel), rfl⟩
theorem mX9_1 : Cond.methodLink RX9 1 objectInit ∈ tw := tw_of 85 (by decide +kernel) (by decide +kernel)
theorem B_X7_init : okB yX7_init cX7_init 1 none 0 := ⟨tw_of 92 (by decide +kernel) (by decide +kernel), tw_of 64 (by decide +kernel) (by decide +kernel), by decide +kernel, by decide +kernel, by decide +kernel⟩
theorem mX9_9 : okI RX9 9 yX7_init cX7_init 1 0 := ⟨B_X7_init, Or.inl (tw_of 90 (by decide +kernel) (by decide +kernel)), tw_of 91 (by decide +kernel) (by decide +kernel), rfl⟩
theorem mX7_3 : Cond.methodLink RX7 3 objectInit ∈ tw := tw_of 93 (by decide +kernel) (by decide +kernel)
theorem B_X8_init : okB yX8_init cX8_init 1 none 0 := ⟨tw_of 98 (by decide +kernel) (by decide +kernel), tw_of 65 (by decide +kernel) (by decide +kernel), by decide +kernel, by decide +kernel, by decide +kernel⟩
theorem mX7_11 : okI RX7 11 yX8_init cX8_init 1 0 := ⟨B_X8_init, Or.inl (tw_of 96 (by decide +kernel) (by decide +kernel)), tw_of 97 (by decide +kernel) (by decide +kernel), rfl⟩
theorem mX8_1 : Cond.methodLink RX8 1 objectInit ∈ tw := tw_of 99 (by decide +kernel) (by decide +kernel)
theorem B_X6_init : okB yX6_init cX6_init 1 none 0 := ⟨tw_of 104 (by decide +kernel) (by decide +kernel), tw_of 66 (by decide +kernel) (by decide +kernel), by decide +kernel, by decide +kernel, by decide +kernel⟩
theorem mX8_9 : okI RX8 9 yX6_init cX6_init 1 0 := ⟨B_X6_init, Or.inl (tw_of 102 (by decide +kernel) (by decide +kernel)), tw_of 103 (by decide +kernel) (by decide +kernel), rfl⟩
theorem mX6_3 : Cond.methodLink RX6 3 objectInit ∈ tw := tw_of 105 (by decide +kernel) (by decide +kernel)
theorem B_X0_init : okB yX0_init cX0_init 1 none 0 := ⟨tw_of 123 (by decide +kernel) (by decide +kernel), tw_of 67 (by decide +kernel) (by decide +kernel), by decide +kernel, by decide +kernel, by decide +kernel⟩
theorem mX8_18 : okI RX8 18 yX0_init cX0_init 1 0 := ⟨B_X0_init, Or.inr ⟨"FoldKeeper", List.mem_filter.mpr ⟨List.mem_of_getElem? (i := 121) (by decide +kernel), rfl⟩⟩, tw_of 122 (by decide +kernel) (by decide +kernel), rfl⟩
theorem mX0_3 : Cond.methodLink RX0 3 objectInit ∈ tw := tw_of 124 (by decide +kernel) (by decide +kernel)
theorem B_X3_init : okB yX3_init cX3_init 1 none 0 := ⟨tw_of 172 (by decide +kernel) (by decide +kernel), tw_of 68 (by decide +kernel) (by decide +kernel), by decide +kernel, by decide +kernel, by decide +kernel⟩
theorem mX7_30 : okI RX7 30 yX3_init cX3_init 1 0 := ⟨B_X3_init, Or.inl (tw_of 170 (by decide +kernel) (by decide +kernel)), tw_of 171 (by decide +kernel) (by decide +kernel), rfl⟩
theorem mX3_3 : Cond.methodLink RX3 3 objectInit ∈ tw := tw_of 173 (by decide +kernel) (by decide +kernel)
theorem B_X1_init : okB yX1_init cX1_init 1 none 0 := ⟨tw_of 217 (by decide +kernel) (by decide +kernel), tw_of 69 (by decide +kernel) (by decide +kernel), by decide +kernel, by decide +kernel, by decide +kernel⟩
theorem mX9_23 : okI RX9 23 yX1_init cX1_init 1 0 := ⟨B_X1_init, Or.inl (tw_of 215 (by decide +kernel) (by decide +kernel)), tw_of 216 (by decide +kernel) (by decide +kernel), rfl⟩
theorem mX1_3 : Cond.methodLink RX1 3 objectInit ∈ tw := tw_of 218 (by decide +kernel) (by decide +kernel)
theorem mX1_11 : okI RX1 11 yX3_init cX3_init 1 0 := ⟨B_X3_init, Or.inl (tw_of 220 (by decide +kernel) (by decide +kernel)), tw_of 171 (by decide +kernel) (by decide +kernel), rfl⟩
theorem B_X2_init : okB yX2_init cX2_init 2 none 0 := ⟨tw_of 257 (by decide +kernel) (by decide +kernel), tw_of 70 (by decide +kernel) (by decide +kernel), by decide +kernel, by decide +kernel, by decide +kernel⟩
theorem mX9_35 : okI RX9 35 yX2_init cX2_init 2 0 := ⟨B_X2_init, Or.inl (tw_of 255 (by decide +kernel) (by decide +kernel)), tw_of 256 (by decide +kernel) (by decide +kernel), rfl⟩
theorem mX2_3 : Cond.methodLink RX2 3 objectInit ∈ tw := tw_of 258 (by decide +kernel) (by decide +kernel)
theorem mX2_17 : okI RX2 17 yX3_init cX3_init 1 0 := ⟨B_X3_init, Or.inl (tw_of 261 (by decide +kernel) (by decide +kernel)), tw_of 171 (by decide +kernel) (by decide +kernel), rfl⟩
theorem mX9_46 : okI RX9 46 yX3_init cX3_init 1 0 := ⟨B_X3_init, Or.inl (tw_of 278 (by decide +kernel) (by decide +kernel)), tw_of 171 (by decide +kernel) (by decide +kernel), rfl⟩
theorem B_X4_init : okB yX4_init cX4_init 1 none 0 := ⟨tw_of 284 (by decide +kernel) (by decide +kernel), tw_of 71 (by decide +kernel) (by decide +kernel), by decide +kernel, by decide +kernel, by decide +kernel⟩
theorem mX9_57 : okI RX9 57 yX4_init cX4_init 1 0 := ⟨B_X4_init, Or.inl (tw_of 282 (by decide +kernel) (by decide +kernel)), tw_of 283 (by decide +kernel) (by decide +kernel), rfl⟩
theorem mX4_3 : Cond.methodLink RX4 3 objectInit ∈ tw := tw_of 285 (by decide +kernel) (by decide +kernel)
theorem B_X9_feed : okB yX9_feed cX9_feed 2 (some .int) 1 := ⟨tw_of 334 (by decide +kernel) (by decide +kernel), tw_of 63 (by decide +kernel) (by decide +kernel), by decide +kernel, by decide +kernel, by decide +kernel⟩
theorem mL_13 : okV RL 13 yX9_feed cX9_feed 2 (some .int) 1 := ⟨B_X9_feed, tw_of 331 (by decide +kernel) (by decide +kernel), tw_of 332 (by decide +kernel) (by decide +kernel), tw_of 333 (by decide +kernel) (by decide +kernel)⟩
theorem B_X6_append : okB yX6_append cX6_append 2 none 1 := ⟨tw_of 338 (by decide +kernel) (by decide +kernel), tw_of 66 (by decide +kernel) (by decide +kernel), by decide +kernel, by decide +kernel, by decide +kernel⟩
theorem mX9_64 : okV RX9 64 yX6_append cX6_append 2 none 1 := ⟨B_X6_append, tw_of 335 (by decide +kernel) (by decide +kernel), tw_of 336 (by decide +kernel) (by decide +kernel), tw_of 337 (by decide +kernel) (by decide +kernel)⟩
theorem B_X9_end : okB yX9_end cX9_end 3 (some .int) 1 := ⟨tw_of 342 (by decide +kernel) (by decide +kernel), tw_of 63 (by decide +kernel) (by decide +kernel), by decide +kernel, by decide +kernel, by decide +kernel⟩
theorem mL_18 : okV RL 18 yX9_end cX9_end 3 (some .int) 1 := ⟨B_X9_end, tw_of 339 (by decide +kernel) (by decide +kernel), tw_of 340 (by decide +kernel) (by decide +kernel), tw_of 341 (by decide +kernel) (by decide +kernel)⟩
theorem B_X6_shorten : okB yX6_shorten cX6_shorten 2 none 1 := ⟨tw_of 346 (by decide +kernel) (by decide +kernel), tw_of 66 (by decide +kernel) (by decide +kernel), by decide +kernel, by decide +kernel, by decide +kernel⟩
theorem mX9_68 : okV RX9 68 yX6_shorten cX6_shorten 2 none 1 := ⟨B_X6_shorten, tw_of 343 (by decide +kernel) (by decide +kernel), tw_of 344 (by decide +kernel) (by decide +kernel), tw_of 345 (by decide +kernel) (by decide +kernel)⟩
theorem B_X9_text : okB yX9_text cX9_text 3 (some .int) 0 := ⟨tw_of 350 (by decide +kernel) (by decide +kernel), tw_of 63 (by decide +kernel) (by decide +kernel), by decide +kernel, by decide +kernel, by decide +kernel⟩
theorem mL_22 : okV RL 22 yX9_text cX9_text 3 (some .int) 0 := ⟨B_X9_text, tw_of 347 (by decide +kernel) (by decide +kernel), tw_of 348 (by decide +kernel) (by decide +kernel), tw_of 349 (by decide +kernel) (by decide +kernel)⟩
theorem B_X7_takeText : okB yX7_takeText cX7_takeText 2 (some .boolean) 0 := ⟨tw_of 354 (by decide +kernel) (by decide +kernel), tw_of 64 (by decide +kernel) (by decide +kernel), by decide +kernel, by decide +kernel, by decide +kernel⟩
theorem mX9_71 : okV RX9 71 yX7_takeText cX7_takeText 2 (some .boolean) 0 := ⟨B_X7_takeText, tw_of 351 (by decide +kernel) (by decide +kernel), tw_of 352 (by decide +kernel) (by decide +kernel), tw_of 353 (by decide +kernel) (by decide +kernel)⟩
theorem B_X7_restart : okB yX7_restart cX7_restart 2 none 0 := ⟨tw_of 358 (by decide +kernel) (by decide +kernel), tw_of 64 (by decide +kernel) (by decide +kernel), by decide +kernel, by decide +kernel, by decide +kernel⟩
theorem mX7_39 : okV RX7 39 yX7_restart cX7_restart 2 none 0 := ⟨B_X7_restart, tw_of 355 (by decide +kernel) (by decide +kernel), tw_of 357 (by decide +kernel) (by decide +kernel), tw_of 0 (by decide +kernel) (by decide +kernel)⟩
theorem B_X0_restart : okB yX0_restart cX0_restart 1 none 0 := ⟨tw_of 362 (by decide +kernel) (by decide +kernel), tw_of 67 (by decide +kernel) (by decide +kernel), by decide +kernel, by decide +kernel, by decide +kernel⟩
theorem mX7_73 : okV RX7 73 yX0_restart cX0_restart 1 none 0 := ⟨B_X0_restart, tw_of 359 (by decide +kernel) (by decide +kernel), tw_of 360 (by decide +kernel) (by decide +kernel), tw_of 361 (by decide +kernel) (by decide +kernel)⟩
theorem B_X8_restart : okB yX8_restart cX8_restart 1 none 0 := ⟨tw_of 366 (by decide +kernel) (by decide +kernel), tw_of 65 (by decide +kernel) (by decide +kernel), by decide +kernel, by decide +kernel, by decide +kernel⟩
theorem mX7_74 : okV RX7 74 yX8_restart cX8_restart 1 none 0 := ⟨B_X8_restart, tw_of 363 (by decide +kernel) (by decide +kernel), tw_of 364 (by decide +kernel) (by decide +kernel), tw_of 365 (by decide +kernel) (by decide +kernel)⟩
theorem B_X3_clear : okB yX3_clear cX3_clear 1 none 0 := ⟨tw_of 370 (by decide +kernel) (by decide +kernel), tw_of 68 (by decide +kernel) (by decide +kernel), by decide +kernel, by decide +kernel, by decide +kernel⟩
theorem mX7_75 : okV RX7 75 yX3_clear cX3_clear 1 none 0 := ⟨B_X3_clear, tw_of 367 (by decide +kernel) (by decide +kernel), tw_of 368 (by decide +kernel) (by decide +kernel), tw_of 369 (by decide +kernel) (by decide +kernel)⟩
theorem B_X8_advance : okB yX8_advance cX8_advance 2 (some .boolean) 0 := ⟨tw_of 374 (by decide +kernel) (by decide +kernel), tw_of 65 (by decide +kernel) (by decide +kernel), by decide +kernel, by decide +kernel, by decide +kernel⟩
theorem mX7_42 : okV RX7 42 yX8_advance cX8_advance 2 (some .boolean) 0 := ⟨B_X8_advance, tw_of 371 (by decide +kernel) (by decide +kernel), tw_of 372 (by decide +kernel) (by decide +kernel), tw_of 373 (by decide +kernel) (by decide +kernel)⟩
theorem B_X5_isLetter : okB yX5_isLetter cX5_isLetter 1 (some .boolean) 1 := ⟨tw_of 377 (by decide +kernel) (by decide +kernel), tw_of 73 (by decide +kernel) (by decide +kernel), by decide +kernel, by decide +kernel, by decide +kernel⟩
theorem mX8_40 : okS RX8 40 yX5_isLetter cX5_isLetter 1 (some .boolean) 1 := ⟨B_X5_isLetter, Or.inl (tw_of 375 (by decide +kernel) (by decide +kernel)), tw_of 376 (by decide +kernel) (by decide +kernel)⟩
theorem B_X8_passName : okB yX8_passName cX8_passName 1 (some .boolean) 0 := ⟨tw_of 381 (by decide +kernel) (by decide +kernel), tw_of 65 (by decide +kernel) (by decide +kernel), by decide +kernel, by decide +kernel, by decide +kernel⟩
theorem mX8_46 : okV RX8 46 yX8_passName cX8_passName 1 (some .boolean) 0 := ⟨B_X8_passName, tw_of 378 (by decide +kernel) (by decide +kernel), tw_of 380 (by decide +kernel) (by decide +kernel), tw_of 1 (by decide +kernel) (by decide +kernel)⟩
theorem B_X8_isFigure : okB yX8_isFigure cX8_isFigure 1 (some .boolean) 1 := ⟨tw_of 384 (by decide +kernel) (by decide +kernel), tw_of 65 (by decide +kernel) (by decide +kernel), by decide +kernel, by decide +kernel, by decide +kernel⟩
theorem mX8_50 : okS RX8 50 yX8_isFigure cX8_isFigure 1 (some .boolean) 1 := ⟨B_X8_isFigure, Or.inl (tw_of 382 (by decide +kernel) (by decide +kernel)), tw_of 383 (by decide +kernel) (by decide +kernel)⟩
theorem B_X8_passNumber : okB yX8_passNumber cX8_passNumber 1 (some .boolean) 0 := ⟨tw_of 388 (by decide +kernel) (by decide +kernel), tw_of 65 (by decide +kernel) (by decide +kernel), by decide +kernel, by decide +kernel, by decide +kernel⟩
theorem mX8_53 : okV RX8 53 yX8_passNumber cX8_passNumber 1 (some .boolean) 0 := ⟨B_X8_passNumber, tw_of 385 (by decide +kernel) (by decide +kernel), tw_of 387 (by decide +kernel) (by decide +kernel), tw_of 2 (by decide +kernel) (by decide +kernel)⟩
theorem B_X0_stopAt : okB yX0_stopAt cX0_stopAt 3 (some .boolean) 2 := ⟨tw_of 392 (by decide +kernel) (by decide +kernel), tw_of 67 (by decide +kernel) (by decide +kernel), by decide +kernel, by decide +kernel, by decide +kernel⟩
theorem mX8_65 : okV RX8 65 yX0_stopAt cX0_stopAt 3 (some .boolean) 2 := ⟨B_X0_stopAt, tw_of 389 (by decide +kernel) (by decide +kernel), tw_of 390 (by decide +kernel) (by decide +kernel), tw_of 391 (by decide +kernel) (by decide +kernel)⟩
theorem B_X8_passQuote : okB yX8_passQuote cX8_passQuote 2 (some .boolean) 0 := ⟨tw_of 396 (by decide +kernel) (by decide +kernel), tw_of 65 (by decide +kernel) (by decide +kernel), by decide +kernel, by decide +kernel, by decide +kernel⟩
theorem mX8_56 : okV RX8 56 yX8_passQuote cX8_passQuote 2 (some .boolean) 0 := ⟨B_X8_passQuote, tw_of 393 (by decide +kernel) (by decide +kernel), tw_of 395 (by decide +kernel) (by decide +kernel), tw_of 3 (by decide +kernel) (by decide +kernel)⟩
theorem B_X5_isSign : okB yX5_isSign cX5_isSign 1 (some .boolean) 1 := ⟨tw_of 399 (by decide +kernel) (by decide +kernel), tw_of 73 (by decide +kernel) (by decide +kernel), by decide +kernel, by decide +kernel, by decide +kernel⟩
theorem mX8_69 : okS RX8 69 yX5_isSign cX5_isSign 1 (some .boolean) 1 := ⟨B_X5_isSign, Or.inl (tw_of 397 (by decide +kernel) (by decide +kernel)), tw_of 398 (by decide +kernel) (by decide +kernel)⟩
theorem B_X5_isBracket : okB yX5_isBracket cX5_isBracket 1 (some .boolean) 1 := ⟨tw_of 402 (by decide +kernel) (by decide +kernel), tw_of 73 (by decide +kernel) (by decide +kernel), by decide +kernel, by decide +kernel, by decide +kernel⟩
theorem mX5_9 : okS RX5 9 yX5_isBracket cX5_isBracket 1 (some .boolean) 1 := ⟨B_X5_isBracket, Or.inl (tw_of 400 (by decide +kernel) (by decide +kernel)), tw_of 401 (by decide +kernel) (by decide +kernel)⟩
theorem B_X5_opens : okB yX5_opens cX5_opens 1 (some .boolean) 1 := ⟨tw_of 405 (by decide +kernel) (by decide +kernel), tw_of 73 (by decide +kernel) (by decide +kernel), by decide +kernel, by decide +kernel, by decide +kernel⟩
theorem mX5_18 : okS RX5 18 yX5_opens cX5_opens 1 (some .boolean) 1 := ⟨B_X5_opens, Or.inl (tw_of 403 (by decide +kernel) (by decide +kernel)), tw_of 404 (by decide +kernel) (by decide +kernel)⟩
theorem B_X5_closes : okB yX5_closes cX5_closes 1 (some .boolean) 1 := ⟨tw_of 408 (by decide +kernel) (by decide +kernel), tw_of 73 (by decide +kernel) (by decide +kernel), by decide +kernel, by decide +kernel, by decide +kernel⟩
theorem mX5_21 : okS RX5 21 yX5_closes cX5_closes 1 (some .boolean) 1 := ⟨B_X5_closes, Or.inl (tw_of 406 (by decide +kernel) (by decide +kernel)), tw_of 407 (by decide +kernel) (by decide +kernel)⟩
theorem mX5_15 : okS RX5 15 yX5_isLetter cX5_isLetter 1 (some .boolean) 1 := ⟨B_X5_isLetter, Or.inl (tw_of 409 (by decide +kernel) (by decide +kernel)), tw_of 376 (by decide +kernel) (by decide +kernel)⟩
theorem B_X0_stopInQuote : okB yX0_stopInQuote cX0_stopInQuote 4 (some .boolean) 3 := ⟨tw_of 413 (by decide +kernel) (by decide +kernel), tw_of 67 (by decide +kernel) (by decide +kernel), by decide +kernel, by decide +kernel, by decide +kernel⟩
theorem mX8_72 : okV RX8 72 yX0_stopInQuote cX0_stopInQuote 4 (some .boolean) 3 := ⟨B_X0_stopInQuote, tw_of 410 (by decide +kernel) (by decide +kernel), tw_of 411 (by decide +kernel) (by decide +kernel), tw_of 412 (by decide +kernel) (by decide +kernel)⟩
theorem mX0_27 : okV RX0 27 yX0_stopAt cX0_stopAt 3 (some .boolean) 2 := ⟨B_X0_stopAt, tw_of 414 (by decide +kernel) (by decide +kernel), tw_of 390 (by decide +kernel) (by decide +kernel), tw_of 391 (by decide +kernel) (by decide +kernel)⟩
theorem B_X8_passSemicolon : okB yX8_passSemicolon cX8_passSemicolon 2 (some .boolean) 1 := ⟨tw_of 418 (by decide +kernel) (by decide +kernel), tw_of 65 (by decide +kernel) (by decide +kernel), by decide +kernel, by decide +kernel, by decide +kernel⟩
theorem mX8_59 : okV RX8 59 yX8_passSemicolon cX8_passSemicolon 2 (some .boolean) 1 := ⟨B_X8_passSemicolon, tw_of 415 (by decide +kernel) (by decide +kernel), tw_of 417 (by decide +kernel) (by decide +kernel), tw_of 4 (by decide +kernel) (by decide +kernel)⟩
theorem B_X7_takeMarks : okB yX7_takeMarks cX7_takeMarks 2 (some .boolean) 0 := ⟨tw_of 422 (by decide +kernel) (by decide +kernel), tw_of 64 (by decide +kernel) (by decide +kernel), by decide +kernel, by decide +kernel, by decide +kernel⟩
theorem mX7_53 : okV RX7 53 yX7_takeMarks cX7_takeMarks 2 (some .boolean) 0 := ⟨B_X7_takeMarks, tw_of 419 (by decide +kernel) (by decide +kernel), tw_of 421 (by decide +kernel) (by decide +kernel), tw_of 5 (by decide +kernel) (by decide +kernel)⟩
theorem B_X3_hasSign : okB yX3_hasSign cX3_hasSign 2 (some .boolean) 1 := ⟨tw_of 426 (by decide +kernel) (by decide +kernel), tw_of 68 (by decide +kernel) (by decide +kernel), by decide +kernel, by decide +kernel, by decide +kernel⟩
theorem mX7_135 : okV RX7 135 yX3_hasSign cX3_hasSign 2 (some .boolean) 1 := ⟨B_X3_hasSign, tw_of 423 (by decide +kernel) (by decide +kernel), tw_of 424 (by decide +kernel) (by decide +kernel), tw_of 425 (by decide +kernel) (by decide +kernel)⟩
theorem B_X3_byteAt : okB yX3_byteAt cX3_byteAt 2 (some .int) 1 := ⟨tw_of 430 (by decide +kernel) (by decide +kernel), tw_of 68 (by decide +kernel) (by decide +kernel), by decide +kernel, by decide +kernel, by decide +kernel⟩
theorem mX7_138 : okV RX7 138 yX3_byteAt cX3_byteAt 2 (some .int) 1 := ⟨B_X3_byteAt, tw_of 427 (by decide +kernel) (by decide +kernel), tw_of 428 (by decide +kernel) (by decide +kernel), tw_of 429 (by decide +kernel) (by decide +kernel)⟩
theorem mX7_142 : okS RX7 142 yX5_opens cX5_opens 1 (some .boolean) 1 := ⟨B_X5_opens, Or.inl (tw_of 431 (by decide +kernel) (by decide +kernel)), tw_of 404 (by decide +kernel) (by decide +kernel)⟩
theorem mX7_61 : okV RX7 61 yX0_stopAt cX0_stopAt 3 (some .boolean) 2 := ⟨B_X0_stopAt, tw_of 432 (by decide +kernel) (by decide +kernel), tw_of 390 (by decide +kernel) (by decide +kernel), tw_of 391 (by decide +kernel) (by decide +kernel)⟩
theorem B_X3_setMark : okB yX3_setMark cX3_setMark 3 none 2 := ⟨tw_of 436 (by decide +kernel) (by decide +kernel), tw_of 68 (by decide +kernel) (by decide +kernel), by decide +kernel, by decide +kernel, by decide +kernel⟩
theorem mX7_147 : okV RX7 147 yX3_setMark cX3_setMark 3 none 2 := ⟨B_X3_setMark, tw_of 433 (by decide +kernel) (by decide +kernel), tw_of 434 (by decide +kernel) (by decide +kernel), tw_of 435 (by decide +kernel) (by decide +kernel)⟩
theorem mX3_23 : okV RX3 23 yX3_byteAt cX3_byteAt 2 (some .int) 1 := ⟨B_X3_byteAt, tw_of 437 (by decide +kernel) (by decide +kernel), tw_of 428 (by decide +kernel) (by decide +kernel), tw_of 429 (by decide +kernel) (by decide +kernel)⟩
theorem B_X7_takeToken : okB yX7_takeToken cX7_takeToken 1 (some .boolean) 0 := ⟨tw_of 441 (by decide +kernel) (by decide +kernel), tw_of 64 (by decide +kernel) (by decide +kernel), by decide +kernel, by decide +kernel, by decide +kernel⟩
theorem mX7_65 : okV RX7 65 yX7_takeToken cX7_takeToken 1 (some .boolean) 0 := ⟨B_X7_takeToken, tw_of 438 (by decide +kernel) (by decide +kernel), tw_of 440 (by decide +kernel) (by decide +kernel), tw_of 6 (by decide +kernel) (by decide +kernel)⟩
theorem B_X7_takeName : okB yX7_takeName cX7_takeName 1 (some .boolean) 0 := ⟨tw_of 445 (by decide +kernel) (by decide +kernel), tw_of 64 (by decide +kernel) (by decide +kernel), by decide +kernel, by decide +kernel, by decide +kernel⟩
theorem mX7_78 : okV RX7 78 yX7_takeName cX7_takeName 1 (some .boolean) 0 := ⟨B_X7_takeName, tw_of 442 (by decide +kernel) (by decide +kernel), tw_of 444 (by decide +kernel) (by decide +kernel), tw_of 7 (by decide +kernel) (by decide +kernel)⟩
theorem B_X8_isName : okB yX8_isName cX8_isName 3 (some .boolean) 1 := ⟨tw_of 450 (by decide +kernel) (by decide +kernel), tw_of 65 (by decide +kernel) (by decide +kernel), by decide +kernel, by decide +kernel, by decide +kernel⟩
theorem mX7_95 : okV RX7 95 yX8_isName cX8_isName 3 (some .boolean) 1 := ⟨B_X8_isName, tw_of 447 (by decide +kernel) (by decide +kernel), tw_of 448 (by decide +kernel) (by decide +kernel), tw_of 449 (by decide +kernel) (by decide +kernel)⟩
theorem B_J0_length_8abf5 : okB yJ0_length_8abf5 cJ0_length_8abf5 1 (some .int) 0 := ⟨tw_of 454 (by decide +kernel) (by decide +kernel), tw_of 74 (by decide +kernel) (by decide +kernel), by decide +kernel, by decide +kernel, by decide +kernel⟩
theorem mX8_76 : okV RX8 76 yJ0_length_8abf5 cJ0_length_8abf5 1 (some .int) 0 := ⟨B_J0_length_8abf5, tw_of 451 (by decide +kernel) (by decide +kernel), tw_of 452 (by decide +kernel) (by decide +kernel), tw_of 453 (by decide +kernel) (by decide +kernel)⟩
theorem B_J0_coder_7d493 : okB yJ0_coder_7d493 cJ0_coder_7d493 1 (some .byte) 0 := ⟨tw_of 458 (by decide +kernel) (by decide +kernel), tw_of 74 (by decide +kernel) (by decide +kernel), by decide +kernel, by decide +kernel, by decide +kernel⟩
