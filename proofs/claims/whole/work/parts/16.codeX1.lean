/-! code of PackedDecimals$Floating (printed by gen.py) -/
def blX1_precision_0 : List aIn := [(.aload_n 0, 0, 0, 0, []), (.getfield 9, 5, 0, 0, []), (.bipush 9, 9, 0, 0, []), (.if_icmp .ne 8, 14, 0, 0, [])]
def blX1_precision_9 : List aIn := [(.bipush 24, 24, 0, 0, []), (.goto 5, 16, 0, 0, [])]
def blX1_precision_14 : List aIn := [(.bipush 53, 53, 0, 0, [])]
def blX1_precision_16 : List aIn := [(.ireturn, 0, 0, 0, [])]
def bkX1_precision : List (Nat × List aIn) := [(0, blX1_precision_0), (9, blX1_precision_9), (14, blX1_precision_14), (16, blX1_precision_16)]
theorem bqX1_precision_0 : aLook bkX1_precision 0 = some blX1_precision_0 := rfl
theorem bqX1_precision_9 : aLook bkX1_precision 9 = some blX1_precision_9 := rfl
theorem bqX1_precision_14 : aLook bkX1_precision 14 = some blX1_precision_14 := rfl
theorem bqX1_precision_16 : aLook bkX1_precision 16 = some blX1_precision_16 := rfl
theorem boX1_precision : ∀ pc is, aLook bkX1_precision pc = some is → aBlk RX1 cX1_precision 1 false pc is := aBks_ok (lk := lkX1) lkX1_ok (by decide +kernel)
def blX1_bias_0 : List aIn := [(.aload_n 0, 0, 0, 0, []), (.getfield 9, 5, 0, 0, []), (.bipush 9, 9, 0, 0, []), (.if_icmp .ne 8, 14, 0, 0, [])]
def blX1_bias_9 : List aIn := [(.bipush 127, 127, 0, 0, []), (.goto 6, 17, 0, 0, [])]
def blX1_bias_14 : List aIn := [(.sipush 1023, 1023, 0, 0, [])]
def blX1_bias_17 : List aIn := [(.ireturn, 0, 0, 0, [])]
def bkX1_bias : List (Nat × List aIn) := [(0, blX1_bias_0), (9, blX1_bias_9), (14, blX1_bias_14), (17, blX1_bias_17)]
theorem bqX1_bias_0 : aLook bkX1_bias 0 = some blX1_bias_0 := rfl
theorem bqX1_bias_9 : aLook bkX1_bias 9 = some blX1_bias_9 := rfl
theorem bqX1_bias_14 : aLook bkX1_bias 14 = some blX1_bias_14 := rfl
theorem bqX1_bias_17 : aLook bkX1_bias 17 = some blX1_bias_17 := rfl
theorem boX1_bias : ∀ pc is, aLook bkX1_bias pc = some is → aBlk RX1 cX1_bias 1 false pc is := aBks_ok (lk := lkX1) lkX1_ok (by decide +kernel)
def blX1_tooSmall_0 : List aIn := [(.lload_n 1, 1, 0, 0, []), (.aload_n 0, 0, 0, 0, []), (.getfield 9, 5, 0, 0, []), (.bipush 9, 9, 0, 0, []), (.if_icmp .ne 9, 16, 0, 0, [])]
def blX1_tooSmall_10 : List aIn := [(.ldc2_w 17, 201445044, 0, 0, []), (.goto 6, 19, 0, 0, [])]
def blX1_tooSmall_16 : List aIn := [(.ldc2_w 19, 4143375250170144896, 0, 0, [])]
def blX1_tooSmall_19 : List aIn := [(.lcmp, 0, 0, 0, []), (.ifCond .ge 7, 27, 0, 0, [])]
def blX1_tooSmall_23 : List aIn := [(.iconst 1, 1, 0, 0, []), (.goto 4, 28, 0, 0, [])]
def blX1_tooSmall_27 : List aIn := [(.iconst 0, 0, 0, 0, [])]
def blX1_tooSmall_28 : List aIn := [(.ireturn, 0, 0, 0, [])]
def bkX1_tooSmall : List (Nat × List aIn) := [(0, blX1_tooSmall_0), (10, blX1_tooSmall_10), (16, blX1_tooSmall_16), (19, blX1_tooSmall_19), (23, blX1_tooSmall_23), (27, blX1_tooSmall_27), (28, blX1_tooSmall_28)]
theorem bqX1_tooSmall_0 : aLook bkX1_tooSmall 0 = some blX1_tooSmall_0 := rfl
theorem bqX1_tooSmall_10 : aLook bkX1_tooSmall 10 = some blX1_tooSmall_10 := rfl
theorem bqX1_tooSmall_16 : aLook bkX1_tooSmall 16 = some blX1_tooSmall_16 := rfl
theorem bqX1_tooSmall_19 : aLook bkX1_tooSmall 19 = some blX1_tooSmall_19 := rfl
theorem bqX1_tooSmall_23 : aLook bkX1_tooSmall 23 = some blX1_tooSmall_23 := rfl
theorem bqX1_tooSmall_27 : aLook bkX1_tooSmall 27 = some blX1_tooSmall_27 := rfl
theorem bqX1_tooSmall_28 : aLook bkX1_tooSmall 28 = some blX1_tooSmall_28 := rfl
theorem boX1_tooSmall : ∀ pc is, aLook bkX1_tooSmall pc = some is → aBlk RX1 cX1_tooSmall 3 false pc is := aBks_ok (lk := lkX1) lkX1_ok (by decide +kernel)
def blX1_tooGreat_0 : List aIn := [(.lload_n 1, 1, 0, 0, []), (.aload_n 0, 0, 0, 0, []), (.getfield 9, 5, 0, 0, []), (.bipush 9, 9, 0, 0, []), (.if_icmp .ne 9, 16, 0, 0, [])]
def blX1_tooGreat_10 : List aIn := [(.ldc2_w 21, 1929146237, 0, 0, []), (.goto 6, 19, 0, 0, [])]
def blX1_tooGreat_16 : List aIn := [(.ldc2_w 23, 5070927765361438757, 0, 0, [])]
def blX1_tooGreat_19 : List aIn := [(.lcmp, 0, 0, 0, []), (.ifCond .lt 7, 27, 0, 0, [])]
def blX1_tooGreat_23 : List aIn := [(.iconst 1, 1, 0, 0, []), (.goto 4, 28, 0, 0, [])]
def blX1_tooGreat_27 : List aIn := [(.iconst 0, 0, 0, 0, [])]
def blX1_tooGreat_28 : List aIn := [(.ireturn, 0, 0, 0, [])]
def bkX1_tooGreat : List (Nat × List aIn) := [(0, blX1_tooGreat_0), (10, blX1_tooGreat_10), (16, blX1_tooGreat_16), (19, blX1_tooGreat_19), (23, blX1_tooGreat_23), (27, blX1_tooGreat_27), (28, blX1_tooGreat_28)]
theorem bqX1_tooGreat_0 : aLook bkX1_tooGreat 0 = some blX1_tooGreat_0 := rfl
theorem bqX1_tooGreat_10 : aLook bkX1_tooGreat 10 = some blX1_tooGreat_10 := rfl
theorem bqX1_tooGreat_16 : aLook bkX1_tooGreat 16 = some blX1_tooGreat_16 := rfl
theorem bqX1_tooGreat_19 : aLook bkX1_tooGreat 19 = some blX1_tooGreat_19 := rfl
theorem bqX1_tooGreat_23 : aLook bkX1_tooGreat 23 = some blX1_tooGreat_23 := rfl
theorem bqX1_tooGreat_27 : aLook bkX1_tooGreat 27 = some blX1_tooGreat_27 := rfl
theorem bqX1_tooGreat_28 : aLook bkX1_tooGreat 28 = some blX1_tooGreat_28 := rfl
theorem boX1_tooGreat : ∀ pc is, aLook bkX1_tooGreat pc = some is → aBlk RX1 cX1_tooGreat 3 false pc is := aBks_ok (lk := lkX1) lkX1_ok (by decide +kernel)
