/-! ===== the law: links of its wrappers ===== -/
abbrev hhL_number : List (Nat × Nat × Nat × Nat) := [(0, 12, 15, 13)]
theorem lwL_60 : aLkSW RL 60 yL_number cL_number 6 5 (some .int) hhL_number := ⟨aT_mem 233 (by decide +kernel) rfl, aT_mem 234 (by decide +kernel) rfl, aT_mem 71 (by decide +kernel) rfl, aT_mem 235 (by decide +kernel) rfl, by decide, by decide, by decide +kernel⟩
theorem cthL_number : aCth RL hhL_number 7 "java/lang/NegativeArraySizeException" 15 := ⟨[], ⟨0, 12, 15, 13⟩, [], rfl, fun z hz => absurd hz (List.not_mem_nil), by decide, by decide, aT_mem 236 (by decide +kernel) rfl, by decide +kernel, rfl⟩
abbrev hhL_octet : List (Nat × Nat × Nat × Nat) := [(0, 7, 10, 19)]
theorem lwL_70 : aLkSW RL 70 yL_octet cL_octet 5 4 (some .int) hhL_octet := ⟨aT_mem 350 (by decide +kernel) rfl, aT_mem 351 (by decide +kernel) rfl, aT_mem 71 (by decide +kernel) rfl, aT_mem 352 (by decide +kernel) rfl, by decide, by decide, by decide +kernel⟩
theorem cthL_octet : aCth RL hhL_octet 4 "java/lang/ArrayIndexOutOfBoundsException" 10 := ⟨[], ⟨0, 7, 10, 19⟩, [], rfl, fun z hz => absurd hz (List.not_mem_nil), by decide, by decide, aT_mem 353 (by decide +kernel) rfl, by decide +kernel, rfl⟩
abbrev hhL_at : List (Nat × Nat × Nat × Nat) := [(0, 10, 13, 19)]
theorem lwL_74 : aLkSW RL 74 yL_at cL_at 5 4 (some .int) hhL_at := ⟨aT_mem 392 (by decide +kernel) rfl, aT_mem 393 (by decide +kernel) rfl, aT_mem 71 (by decide +kernel) rfl, aT_mem 394 (by decide +kernel) rfl, by decide, by decide, by decide +kernel⟩
theorem cthL_at : aCth RL hhL_at 5 "java/lang/ArrayIndexOutOfBoundsException" 13 := ⟨[], ⟨0, 10, 13, 19⟩, [], rfl, fun z hz => absurd hz (List.not_mem_nil), by decide, by decide, aT_mem 353 (by decide +kernel) rfl, by decide +kernel, rfl⟩
abbrev hhL_size : List (Nat × Nat × Nat × Nat) := [(0, 9, 12, 19)]
theorem lwL_78 : aLkSW RL 78 yL_size cL_size 4 3 (some .int) hhL_size := ⟨aT_mem 403 (by decide +kernel) rfl, aT_mem 404 (by decide +kernel) rfl, aT_mem 71 (by decide +kernel) rfl, aT_mem 405 (by decide +kernel) rfl, by decide, by decide, by decide +kernel⟩
theorem cthL_size : aCth RL hhL_size 4 "java/lang/ArrayIndexOutOfBoundsException" 12 := ⟨[], ⟨0, 9, 12, 19⟩, [], rfl, fun z hz => absurd hz (List.not_mem_nil), by decide, by decide, aT_mem 353 (by decide +kernel) rfl, by decide +kernel, rfl⟩
abbrev hhL_apply : List (Nat × Nat × Nat × Nat) := [(0, 14, 17, 19), (0, 14, 21, 33)]
theorem lwL_82 : aLkSW RL 82 yL_apply cL_apply 7 6 (some .int) hhL_apply := ⟨aT_mem 410 (by decide +kernel) rfl, aT_mem 411 (by decide +kernel) rfl, aT_mem 71 (by decide +kernel) rfl, aT_mem 412 (by decide +kernel) rfl, by decide, by decide, by decide +kernel⟩
theorem cthL_apply : aCth RL hhL_apply 9 "java/lang/ArrayIndexOutOfBoundsException" 17 := ⟨[], ⟨0, 14, 17, 19⟩, [⟨0, 14, 21, 33⟩], rfl, fun z hz => absurd hz (List.not_mem_nil), by decide, by decide, aT_mem 353 (by decide +kernel) rfl, by decide +kernel, rfl⟩
theorem cthL_apply2 : aCth RL hhL_apply 9 "java/lang/ArithmeticException" 21 := ⟨[⟨0, 14, 17, 19⟩], ⟨0, 14, 21, 33⟩, [], rfl, fun z hz => by rw [List.mem_singleton.mp hz]; exact Or.inr ⟨by decide, "java/lang/ArrayIndexOutOfBoundsException", aT_mem 353 (by decide +kernel) rfl, rfl, rfl⟩, by decide, by decide, aT_mem 413 (by decide +kernel) rfl, by decide +kernel, rfl⟩
abbrev hhL_compare : List (Nat × Nat × Nat × Nat) := [(0, 10, 13, 19)]
theorem lwL_86 : aLkSW RL 86 yL_compare cL_compare 5 4 (some .int) hhL_compare := ⟨aT_mem 775 (by decide +kernel) rfl, aT_mem 776 (by decide +kernel) rfl, aT_mem 71 (by decide +kernel) rfl, aT_mem 777 (by decide +kernel) rfl, by decide, by decide, by decide +kernel⟩
theorem cthL_compare : aCth RL hhL_compare 5 "java/lang/ArrayIndexOutOfBoundsException" 13 := ⟨[], ⟨0, 10, 13, 19⟩, [], rfl, fun z hz => absurd hz (List.not_mem_nil), by decide, by decide, aT_mem 353 (by decide +kernel) rfl, by decide +kernel, rfl⟩
abbrev hhL_valid : List (Nat × Nat × Nat × Nat) := [(0, 16, 19, 19)]
theorem lwL_89 : aLkSW RL 89 yL_valid cL_valid 4 3 (some .int) hhL_valid := ⟨aT_mem 786 (by decide +kernel) rfl, aT_mem 787 (by decide +kernel) rfl, aT_mem 71 (by decide +kernel) rfl, aT_mem 788 (by decide +kernel) rfl, by decide, by decide, by decide +kernel⟩
theorem cthL_valid : aCth RL hhL_valid 4 "java/lang/ArrayIndexOutOfBoundsException" 19 := ⟨[], ⟨0, 16, 19, 19⟩, [], rfl, fun z hz => absurd hz (List.not_mem_nil), by decide, by decide, aT_mem 353 (by decide +kernel) rfl, by decide +kernel, rfl⟩
abbrev hhL_convert : List (Nat × Nat × Nat × Nat) := [(0, 10, 13, 19)]
theorem lwL_92 : aLkSW RL 92 yL_convert cL_convert 5 4 (some .int) hhL_convert := ⟨aT_mem 793 (by decide +kernel) rfl, aT_mem 794 (by decide +kernel) rfl, aT_mem 71 (by decide +kernel) rfl, aT_mem 795 (by decide +kernel) rfl, by decide, by decide, by decide +kernel⟩
theorem cthL_convert : aCth RL hhL_convert 5 "java/lang/ArrayIndexOutOfBoundsException" 13 := ⟨[], ⟨0, 10, 13, 19⟩, [], rfl, fun z hz => absurd hz (List.not_mem_nil), by decide, by decide, aT_mem 353 (by decide +kernel) rfl, by decide +kernel, rfl⟩
abbrev hhL_digit : List (Nat × Nat × Nat × Nat) := [(0, 10, 13, 19)]
theorem lwL_95 : aLkSW RL 95 yL_digit cL_digit 5 4 (some .int) hhL_digit := ⟨aT_mem 812 (by decide +kernel) rfl, aT_mem 813 (by decide +kernel) rfl, aT_mem 71 (by decide +kernel) rfl, aT_mem 814 (by decide +kernel) rfl, by decide, by decide, by decide +kernel⟩
theorem cthL_digit : aCth RL hhL_digit 5 "java/lang/ArrayIndexOutOfBoundsException" 13 := ⟨[], ⟨0, 10, 13, 19⟩, [], rfl, fun z hz => absurd hz (List.not_mem_nil), by decide, by decide, aT_mem 353 (by decide +kernel) rfl, by decide +kernel, rfl⟩
abbrev hhL_round : List (Nat × Nat × Nat × Nat) := [(0, 10, 13, 19)]
theorem lwL_98 : aLkSW RL 98 yL_round cL_round 5 4 (some .int) hhL_round := ⟨aT_mem 821 (by decide +kernel) rfl, aT_mem 822 (by decide +kernel) rfl, aT_mem 71 (by decide +kernel) rfl, aT_mem 823 (by decide +kernel) rfl, by decide, by decide, by decide +kernel⟩
theorem cthL_round : aCth RL hhL_round 5 "java/lang/ArrayIndexOutOfBoundsException" 13 := ⟨[], ⟨0, 10, 13, 19⟩, [], rfl, fun z hz => absurd hz (List.not_mem_nil), by decide, by decide, aT_mem 353 (by decide +kernel) rfl, by decide +kernel, rfl⟩
abbrev hhL_half : List (Nat × Nat × Nat × Nat) := [(0, 9, 12, 19)]
theorem lwL_101 : aLkSW RL 101 yL_half cL_half 4 3 (some .int) hhL_half := ⟨aT_mem 828 (by decide +kernel) rfl, aT_mem 829 (by decide +kernel) rfl, aT_mem 71 (by decide +kernel) rfl, aT_mem 830 (by decide +kernel) rfl, by decide, by decide, by decide +kernel⟩
theorem cthL_half : aCth RL hhL_half 4 "java/lang/ArrayIndexOutOfBoundsException" 12 := ⟨[], ⟨0, 9, 12, 19⟩, [], rfl, fun z hz => absurd hz (List.not_mem_nil), by decide, by decide, aT_mem 353 (by decide +kernel) rfl, by decide +kernel, rfl⟩
