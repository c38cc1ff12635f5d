/-! code of PackedDecimals$Fraction (printed by gen.py) -/
def blX2_init_0 : List aIn := [(.aload_n 0, 0, 0, 0, []), (.invokespecial 1, 1, 0, 0, [])]
def blX2_init_4 : List aIn := [(.aload_n 0, 0, 0, 0, []), (.new 7, 4, 2, 0, [2, 0]), (.dup, 0, 0, 0, []), (.invokespecial 9, 1, 0, 0, [])]
def blX2_init_12 : List aIn := [(.putfield 10, 3, 1, 2, []), (.aload_n 0, 0, 0, 0, []), (.new 7, 4, 2, 0, [2, 0]), (.dup, 0, 0, 0, []), (.invokespecial 9, 1, 0, 0, [])]
def blX2_init_23 : List aIn := [(.putfield 16, 3, 2, 2, []), (.return_, 0, 0, 0, [])]
def bkX2_init : List (Nat × List aIn) := [(0, blX2_init_0), (4, blX2_init_4), (12, blX2_init_12), (23, blX2_init_23)]
theorem bqX2_init_0 : aLook bkX2_init 0 = some blX2_init_0 := rfl
theorem bqX2_init_4 : aLook bkX2_init 4 = some blX2_init_4 := rfl
theorem bqX2_init_12 : aLook bkX2_init 12 = some blX2_init_12 := rfl
theorem bqX2_init_23 : aLook bkX2_init 23 = some blX2_init_23 := rfl
theorem boX2_init : ∀ pc is, aLook bkX2_init pc = some is → aBlk RX2 cX2_init 1 true pc is := aBks_ok (lk := lkX2i) lkX2i_ok (by decide +kernel)
def blX2_sign_0 : List aIn := [(.aload_n 0, 0, 0, 0, []), (.iload_n 1, 1, 0, 0, []), (.ifCond .eq 17, 19, 0, 0, [])]
def blX2_sign_5 : List aIn := [(.aload_n 0, 0, 0, 0, []), (.getfield 10, 3, 1, 2, []), (.invokevirtual 19, 1, 0, 0, [])]
def blX2_sign_12 : List aIn := [(.ifCond .ne 7, 19, 0, 0, [])]
def blX2_sign_15 : List aIn := [(.iconst 1, 1, 0, 0, []), (.goto 4, 20, 0, 0, [])]
def blX2_sign_19 : List aIn := [(.iconst 0, 0, 0, 0, [])]
def blX2_sign_20 : List aIn := [(.putfield 23, 3, 0, 1, []), (.return_, 0, 0, 0, [])]
def bkX2_sign : List (Nat × List aIn) := [(0, blX2_sign_0), (5, blX2_sign_5), (12, blX2_sign_12), (15, blX2_sign_15), (19, blX2_sign_19), (20, blX2_sign_20)]
theorem bqX2_sign_0 : aLook bkX2_sign 0 = some blX2_sign_0 := rfl
theorem bqX2_sign_5 : aLook bkX2_sign 5 = some blX2_sign_5 := rfl
theorem bqX2_sign_12 : aLook bkX2_sign 12 = some blX2_sign_12 := rfl
theorem bqX2_sign_15 : aLook bkX2_sign 15 = some blX2_sign_15 := rfl
theorem bqX2_sign_19 : aLook bkX2_sign 19 = some blX2_sign_19 := rfl
theorem bqX2_sign_20 : aLook bkX2_sign 20 = some blX2_sign_20 := rfl
theorem boX2_sign : ∀ pc is, aLook bkX2_sign pc = some is → aBlk RX2 cX2_sign 2 false pc is := aBks_ok (lk := lkX2) lkX2_ok (by decide +kernel)
def blX2_becomeOver_0 : List aIn := [(.aload_n 0, 0, 0, 0, []), (.getfield 10, 3, 1, 2, []), (.aload_n 1, 1, 0, 0, []), (.invokevirtual 27, 2, 0, 0, [])]
def blX2_becomeOver_8 : List aIn := [(.aload_n 0, 0, 0, 0, []), (.iload_n 2, 2, 0, 0, []), (.invokevirtual 31, 2, 0, 0, [])]
def blX2_becomeOver_13 : List aIn := [(.return_, 0, 0, 0, [])]
def bkX2_becomeOver : List (Nat × List aIn) := [(0, blX2_becomeOver_0), (8, blX2_becomeOver_8), (13, blX2_becomeOver_13)]
theorem bqX2_becomeOver_0 : aLook bkX2_becomeOver 0 = some blX2_becomeOver_0 := rfl
theorem bqX2_becomeOver_8 : aLook bkX2_becomeOver 8 = some blX2_becomeOver_8 := rfl
theorem bqX2_becomeOver_13 : aLook bkX2_becomeOver 13 = some blX2_becomeOver_13 := rfl
theorem boX2_becomeOver : ∀ pc is, aLook bkX2_becomeOver pc = some is → aBlk RX2 cX2_becomeOver 3 false pc is := aBks_ok (lk := lkX2) lkX2_ok (by decide +kernel)
def blX2_becomeWhole_0 : List aIn := [(.aload_n 0, 0, 0, 0, []), (.getfield 10, 3, 1, 2, []), (.lload_n 1, 1, 0, 0, []), (.lconst 0, 0, 0, 0, []), (.lcmp, 0, 0, 0, []), (.ifCond .ge 8, 15, 0, 0, [])]
def blX2_becomeWhole_10 : List aIn := [(.lload_n 1, 1, 0, 0, []), (.lneg, 0, 0, 0, []), (.goto 4, 16, 0, 0, [])]
def blX2_becomeWhole_15 : List aIn := [(.lload_n 1, 1, 0, 0, [])]
def blX2_becomeWhole_16 : List aIn := [(.invokevirtual 35, 2, 0, 0, [])]
def blX2_becomeWhole_19 : List aIn := [(.aload_n 0, 0, 0, 0, []), (.getfield 16, 3, 2, 2, []), (.lconst 1, 1, 0, 0, []), (.invokevirtual 35, 2, 0, 0, [])]
def blX2_becomeWhole_27 : List aIn := [(.aload_n 0, 0, 0, 0, []), (.lload_n 1, 1, 0, 0, []), (.lconst 0, 0, 0, 0, []), (.lcmp, 0, 0, 0, []), (.ifCond .ge 7, 38, 0, 0, [])]
def blX2_becomeWhole_34 : List aIn := [(.iconst 1, 1, 0, 0, []), (.goto 4, 39, 0, 0, [])]
def blX2_becomeWhole_38 : List aIn := [(.iconst 0, 0, 0, 0, [])]
def blX2_becomeWhole_39 : List aIn := [(.invokevirtual 31, 2, 0, 0, [])]
def blX2_becomeWhole_42 : List aIn := [(.return_, 0, 0, 0, [])]
def bkX2_becomeWhole : List (Nat × List aIn) := [(0, blX2_becomeWhole_0), (10, blX2_becomeWhole_10), (15, blX2_becomeWhole_15), (16, blX2_becomeWhole_16), (19, blX2_becomeWhole_19), (27, blX2_becomeWhole_27), (34, blX2_becomeWhole_34), (38, blX2_becomeWhole_38), (39, blX2_becomeWhole_39), (42, blX2_becomeWhole_42)]
theorem bqX2_becomeWhole_0 : aLook bkX2_becomeWhole 0 = some blX2_becomeWhole_0 := rfl
theorem bqX2_becomeWhole_10 : aLook bkX2_becomeWhole 10 = some blX2_becomeWhole_10 := rfl
theorem bqX2_becomeWhole_15 : aLook bkX2_becomeWhole 15 = some blX2_becomeWhole_15 := rfl
theorem bqX2_becomeWhole_16 : aLook bkX2_becomeWhole 16 = some blX2_becomeWhole_16 := rfl
theorem bqX2_becomeWhole_19 : aLook bkX2_becomeWhole 19 = some blX2_becomeWhole_19 := rfl
theorem bqX2_becomeWhole_27 : aLook bkX2_becomeWhole 27 = some blX2_becomeWhole_27 := rfl
theorem bqX2_becomeWhole_34 : aLook bkX2_becomeWhole 34 = some blX2_becomeWhole_34 := rfl
theorem bqX2_becomeWhole_38 : aLook bkX2_becomeWhole 38 = some blX2_becomeWhole_38 := rfl
theorem bqX2_becomeWhole_39 : aLook bkX2_becomeWhole 39 = some blX2_becomeWhole_39 := rfl
theorem bqX2_becomeWhole_42 : aLook bkX2_becomeWhole 42 = some blX2_becomeWhole_42 := rfl
theorem boX2_becomeWhole : ∀ pc is, aLook bkX2_becomeWhole pc = some is → aBlk RX2 cX2_becomeWhole 3 false pc is := aBks_ok (lk := lkX2) lkX2_ok (by decide +kernel)
