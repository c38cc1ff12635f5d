/-! code of java/lang/Math (printed by gen.py) -/
def blJ9_max_7cf53_0 : List aIn := [(.iload_n 0, 0, 0, 0, []), (.iload_n 1, 1, 0, 0, []), (.if_icmp .lt 7, 9, 0, 0, [])]
def blJ9_max_7cf53_5 : List aIn := [(.iload_n 0, 0, 0, 0, []), (.goto 4, 10, 0, 0, [])]
def blJ9_max_7cf53_9 : List aIn := [(.iload_n 1, 1, 0, 0, [])]
def blJ9_max_7cf53_10 : List aIn := [(.ireturn, 0, 0, 0, [])]
def bkJ9_max_7cf53 : List (Nat × List aIn) := [(0, blJ9_max_7cf53_0), (5, blJ9_max_7cf53_5), (9, blJ9_max_7cf53_9), (10, blJ9_max_7cf53_10)]
theorem bqJ9_max_7cf53_0 : aLook bkJ9_max_7cf53 0 = some blJ9_max_7cf53_0 := rfl
theorem bqJ9_max_7cf53_5 : aLook bkJ9_max_7cf53 5 = some blJ9_max_7cf53_5 := rfl
theorem bqJ9_max_7cf53_9 : aLook bkJ9_max_7cf53 9 = some blJ9_max_7cf53_9 := rfl
theorem bqJ9_max_7cf53_10 : aLook bkJ9_max_7cf53 10 = some blJ9_max_7cf53_10 := rfl
theorem boJ9_max_7cf53 : ∀ pc is, aLook bkJ9_max_7cf53 pc = some is → aBlk RJ9 cJ9_max_7cf53 2 false pc is := aBks_ok (lk := []) (fun _ h => absurd h List.not_mem_nil) (by decide +kernel)
def blJ9_min_7cf53_0 : List aIn := [(.iload_n 0, 0, 0, 0, []), (.iload_n 1, 1, 0, 0, []), (.if_icmp .gt 7, 9, 0, 0, [])]
def blJ9_min_7cf53_5 : List aIn := [(.iload_n 0, 0, 0, 0, []), (.goto 4, 10, 0, 0, [])]
def blJ9_min_7cf53_9 : List aIn := [(.iload_n 1, 1, 0, 0, [])]
def blJ9_min_7cf53_10 : List aIn := [(.ireturn, 0, 0, 0, [])]
def bkJ9_min_7cf53 : List (Nat × List aIn) := [(0, blJ9_min_7cf53_0), (5, blJ9_min_7cf53_5), (9, blJ9_min_7cf53_9), (10, blJ9_min_7cf53_10)]
theorem bqJ9_min_7cf53_0 : aLook bkJ9_min_7cf53 0 = some blJ9_min_7cf53_0 := rfl
theorem bqJ9_min_7cf53_5 : aLook bkJ9_min_7cf53 5 = some blJ9_min_7cf53_5 := rfl
theorem bqJ9_min_7cf53_9 : aLook bkJ9_min_7cf53 9 = some blJ9_min_7cf53_9 := rfl
theorem bqJ9_min_7cf53_10 : aLook bkJ9_min_7cf53 10 = some blJ9_min_7cf53_10 := rfl
theorem boJ9_min_7cf53 : ∀ pc is, aLook bkJ9_min_7cf53 pc = some is → aBlk RJ9 cJ9_min_7cf53 2 false pc is := aBks_ok (lk := []) (fun _ h => absurd h List.not_mem_nil) (by decide +kernel)
