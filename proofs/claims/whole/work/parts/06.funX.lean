def f_X6_status (x : XS) : XR :=
  some ((x.1 1), x)
def f_X6_isBetween (x : XS) (p1 : Int) (p2 : Int) (p3 : Int) : XR :=
  x_lt p1 p2 (some (0, x)) (x_lt p3 p1 (some (0, x)) (some (1, x)))
def f_X6_areWaits (x : XS) (p1 : Int) (p2 : Int) : XR :=
  x_call (f_X6_isBetween x p1 0 200) (fun r1 x2 => x_eq r1 0 (some (0, x2)) (x_jp (fun (x4 : XS) => some (1, x4)) (fun jp3 => x_eq p2 (-1) (jp3 x2) (x_call (f_X6_isBetween x2 p2 p1 5000) (fun r5 x6 => x_eq r5 0 (some (0, x6)) (jp3 x6))))))
def f_X6_refuse (x : XS) (p1 : Int) : XR :=
  x_let (xpS x 1 p1) (fun x1 => some ((-1), x1))
def f_X2_set (x : XS) (p1 : Int) (p2 : Int) (p3 : Int) : XR :=
  x_st x 2 24 p1 p2 (fun x1 => x_st x1 3 24 p1 p3 (fun x2 => some (0, x2)))
def f_X2_add (x : XS) (p1 : Int) (p2 : Int) : XR :=
  x_call (f_X2_set x (x.1 2) p1 p2) (fun _ x2 => x_let (xpS x2 2 ((x2.1 2) + 1)) (fun x3 => some (((x3.1 2) - 1), x3)))
def f_X6_answer (x : XS) (p1 : Int) : XR :=
  x_let (xpS x 1 0) (fun x1 => some (p1, x1))
def f_X6_node (x : XS) (p1 : Int) (p2 : Int) : XR :=
  x_call (f_X6_areWaits x p1 p2) (fun r1 x2 => x_eq r1 0 (x_call (f_X6_refuse x2 2) (fun r9 x10 => some (r9, x10))) (x_lt (x2.1 2) 24 (x_call (f_X2_add x2 p1 p2) (fun r3 x4 => x_call (f_X6_answer x4 r3) (fun r5 x6 => some (r5, x6)))) (x_call (f_X6_refuse x2 3) (fun r7 x8 => some (r7, x8)))))
def f_X6_isNode (x : XS) (p1 : Int) : XR :=
  x_call (f_X6_isBetween x p1 0 ((x.1 2) - 1)) (fun r1 x2 => some (r1, x2))
def f_X6_deny (x : XS) (p1 : Int) : XR :=
  x_let (xpS x 1 p1) (fun x1 => some (0, x1))
def f_X6_agree (x : XS) : XR :=
  x_let (xpS x 1 0) (fun x1 => some (1, x1))
def f_X6_waits (x : XS) (p1 : Int) (p2 : Int) (p3 : Int) : XR :=
  x_call (f_X6_isNode x p1) (fun r1 x2 => x_eq r1 0 (x_call (f_X6_deny x2 1) (fun r11 x12 => some (r11, x12))) (x_call (f_X6_areWaits x2 p2 p3) (fun r3 x4 => x_eq r3 0 (x_call (f_X6_deny x4 2) (fun r9 x10 => some (r9, x10))) (x_call (f_X2_set x4 p1 p2 p3) (fun _ x6 => x_call (f_X6_agree x6) (fun r7 x8 => some (r7, x8)))))))
def f_X6_areEnds (x : XS) (p1 : Int) (p2 : Int) : XR :=
  x_call (f_X6_isNode x p1) (fun r1 x2 => x_eq r1 0 (some (0, x2)) (x_call (f_X6_isNode x2 p2) (fun r3 x4 => x_eq r3 0 (some (0, x4)) (x_eq p1 p2 (some (0, x4)) (some (1, x4))))))
def f_X6_isPlan (x : XS) (p1 : Int) (p2 : Int) (p3 : Int) : XR :=
  x_eq p1 0 (some (1, x)) (x_jp (fun (x2 : XS) => x_call (f_X6_isBetween x2 p2 2 60) (fun r3 x4 => x_eq r3 0 (some (0, x4)) (x_jp (fun (x6 : XS) => some (1, x6)) (fun jp5 => x_eq p1 2 (jp5 x4) (x_call (f_X6_isBetween x4 p3 1 500) (fun r7 x8 => x_eq r7 0 (some (0, x8)) (jp5 x8))))))) (fun jp1 => x_eq p1 1 (jp1 x) (x_eq p1 2 (jp1 x) (some (0, x)))))
def f_X1_isFull (x : XS) : XR :=
  x_lt (x.1 5) 400 (some (0, x)) (some (1, x))
def f_X0_add (x : XS) (p1 : Int) (p2 : Int) (p3 : Int) (p4 : Int) (p5 : Int) (p6 : Int) (p7 : Int) : XR :=
  x_let (x.1 3) (fun v1 => x_st x 4 100 v1 p1 (fun x2 => x_st x2 5 100 v1 p2 (fun x3 => x_st x3 6 100 v1 p3 (fun x4 => x_st x4 7 100 v1 p4 (fun x5 => x_st x5 8 100 v1 p5 (fun x6 => x_st x6 9 100 v1 p6 (fun x7 => x_st x7 10 100 v1 p7 (fun x8 => x_st x8 11 100 v1 (x8.1 4) (fun x9 => x_stb x9 12 100 v1 0 (fun x10 => x_let (xpS x10 3 ((x10.1 3) + 1)) (fun x11 => x_let (xpS x11 4 ((x11.1 4) + p6)) (fun x12 => some (v1, x12)))))))))))))
def f_X1_add (x : XS) (p1 : Int) (p2 : Int) (p3 : Int) (p4 : Int) : XR :=
  x_st x 13 400 (x.1 5) p1 (fun x1 => x_st x1 14 400 (x1.1 5) p2 (fun x2 => x_st x2 15 400 (x2.1 5) p3 (fun x3 => x_st x3 16 400 (x3.1 5) p4 (fun x4 => x_let (xpS x4 5 ((x4.1 5) + 1)) (fun x5 => x_eq p1 3 (x_let (xpS x5 6 ((x5.1 6) + 1)) (fun x6 => some (0, x6))) (some (0, x5)))))))
def f_X6_line (x : XS) (p1 : Int) (p2 : Int) (p3 : Int) (p4 : Int) (p5 : Int) (p6 : Int) (p7 : Int) : XR :=
  x_call (f_X6_areEnds x p1 p2) (fun r1 x2 => x_eq r1 0 (x_call (f_X6_refuse x2 1) (fun r31 x32 => some (r31, x32))) (x_call (f_X6_isBetween x2 p4 0 5000) (fun r3 x4 => x_jp (fun (x6 : XS) => x_call (f_X6_refuse x6 2) (fun r7 x8 => some (r7, x8))) (fun jp5 => x_eq r3 0 (jp5 x4) (x_call (f_X6_isBetween x4 p5 1 500) (fun r9 x10 => x_eq r9 0 (jp5 x10) (x_call (f_X6_isPlan x10 p3 p6 p7) (fun r11 x12 => x_eq r11 0 (jp5 x12) (x_jp (fun (v14 : Int) (x15 : XS) => x_jp (fun (x17 : XS) => x_call (f_X6_refuse x17 3) (fun r18 x19 => some (r18, x19))) (fun jp16 => x_le 100 (x15.1 3) (jp16 x15) (x_lt 1200 ((x15.1 4) + v14) (jp16 x15) (x_call (f_X1_isFull x15) (fun r20 x21 => x_eq r20 0 (x_jp (fun (v23 : Int) (x24 : XS) => x_call (f_X0_add x24 p1 p2 p3 p4 p5 v14 v23) (fun r25 x26 => x_call (f_X1_add x26 0 r25 0 0) (fun _ x28 => x_call (f_X6_answer x28 r25) (fun r29 x30 => some (r29, x30))))) (fun jp22 => x_eq p3 1 (jp22 p7 x21) (jp22 0 x21))) (jp16 x21)))))) (fun jp13 => x_eq p3 0 (jp13 1 x12) (jp13 p6 x12)))))))))))
def f_X6_isLine (x : XS) (p1 : Int) : XR :=
  x_call (f_X6_isBetween x p1 0 ((x.1 3) - 1)) (fun r1 x2 => some (r1, x2))
def f_X6_strike (x : XS) (p1 : Int) : XR :=
  x_call (f_X6_isLine x p1) (fun r1 x2 => x_eq r1 0 (x_call (f_X6_deny x2 1) (fun r15 x16 => some (r15, x16))) (x_call (f_X1_isFull x2) (fun r3 x4 => x_eq r3 0 (x_ld (x4.2 12) 100 p1 (fun v5 => x_eq v5 0 (x_stb x4 12 100 p1 1 (fun x6 => x_call (f_X1_add x6 1 p1 0 0) (fun _ x8 => x_call (f_X6_agree x8) (fun r9 x10 => some (r9, x10))))) (x_call (f_X6_deny x4 4) (fun r11 x12 => some (r11, x12))))) (x_call (f_X6_deny x4 3) (fun r13 x14 => some (r13, x14))))))
def f_X6_delay (x : XS) (p1 : Int) (p2 : Int) (p3 : Int) : XR :=
  x_call (f_X6_isLine x p1) (fun r1 x2 => x_jp (fun (x4 : XS) => x_call (f_X6_deny x4 1) (fun r5 x6 => some (r5, x6))) (fun jp3 => x_eq r1 0 (jp3 x2) (x_ld (x2.2 9) 100 p1 (fun v7 => x_call (f_X6_isBetween x2 p2 0 (v7 - 1)) (fun r8 x9 => x_eq r8 0 (jp3 x9) (x_call (f_X6_isBetween x9 p3 0 500) (fun r10 x11 => x_eq r10 0 (x_call (f_X6_deny x11 2) (fun r24 x25 => some (r24, x25))) (x_call (f_X1_isFull x11) (fun r12 x13 => x_eq r12 0 (x_ld (x13.2 12) 100 p1 (fun v14 => x_eq v14 0 (x_ld (x13.2 11) 100 p1 (fun v15 => x_call (f_X1_add x13 2 (v15 + p2) p3 0) (fun _ x17 => x_call (f_X6_agree x17) (fun r18 x19 => some (r18, x19))))) (x_call (f_X6_deny x13 4) (fun r20 x21 => some (r20, x21))))) (x_call (f_X6_deny x13 3) (fun r22 x23 => some (r22, x23))))))))))))
def f_X6_isTick (x : XS) (p1 : Int) : XR :=
  x_call (f_X6_isBetween x p1 0 5000) (fun r1 x2 => some (r1, x2))
def f_X6_close (x : XS) (p1 : Int) (p2 : Int) (p3 : Int) : XR :=
  x_call (f_X6_isNode x p1) (fun r1 x2 => x_eq r1 0 (x_call (f_X6_deny x2 1) (fun r21 x22 => some (r21, x22))) (x_call (f_X6_isTick x2 p2) (fun r3 x4 => x_jp (fun (x6 : XS) => x_call (f_X6_deny x6 2) (fun r7 x8 => some (r7, x8))) (fun jp5 => x_eq r3 0 (jp5 x4) (x_call (f_X6_isTick x4 p3) (fun r9 x10 => x_eq r9 0 (jp5 x10) (x_le p2 p3 (x_jp (fun (x12 : XS) => x_call (f_X6_deny x12 3) (fun r13 x14 => some (r13, x14))) (fun jp11 => x_le 60 (x10.1 6) (jp11 x10) (x_call (f_X1_isFull x10) (fun r15 x16 => x_eq r15 0 (x_call (f_X1_add x16 3 p1 p2 p3) (fun _ x18 => x_call (f_X6_agree x18) (fun r19 x20 => some (r19, x20)))) (jp11 x16))))) (jp5 x10))))))))
def f_X6_changes (x : XS) : XR :=
  x_call (f_X6_answer x (x.1 5)) (fun r1 x2 => some (r1, x2))
def f_X1_removeLatest (x : XS) : XR :=
  x_le (x.1 5) 0 (some (0, x)) (x_let (xpS x 5 ((x.1 5) - 1)) (fun x1 => x_ld (x1.2 13) 400 (x1.1 5) (fun v2 => x_eq v2 3 (x_let (xpS x1 6 ((x1.1 6) - 1)) (fun x3 => some (0, x3))) (some (0, x1)))))
def f_X0_removeLatest (x : XS) : XR :=
  x_le (x.1 3) 0 (some (0, x)) (x_let (xpS x 3 ((x.1 3) - 1)) (fun x1 => x_ld (x1.2 9) 100 (x1.1 3) (fun v2 => x_let (xpS x1 4 ((x1.1 4) - v2)) (fun x3 => some (0, x3)))))
def f_X5_forget (x : XS) : XR :=
  x_let (xpS x 10 (-1)) (fun x1 => some (0, x1))
def f_X6_undo (x : XS) : XR :=
  x_eq (x.1 5) 0 (x_call (f_X6_deny x 6) (fun r14 x15 => some (r14, x15))) (x_ld (x.2 13) 400 ((x.1 5) - 1) (fun v1 => x_ld (x.2 14) 400 ((x.1 5) - 1) (fun v2 => x_call (f_X1_removeLatest x) (fun _ x4 => x_jp (fun (x6 : XS) => x_call (f_X5_forget x6) (fun _ x8 => x_call (f_X6_agree x8) (fun r9 x10 => some (r9, x10)))) (fun jp5 => x_eq v1 0 (x_call (f_X0_removeLatest x4) (fun _ x13 => jp5 x13)) (x_eq v1 1 (x_stb x4 12 100 v2 0 (fun x11 => jp5 x11)) (jp5 x4)))))))
def f_X0_tell (x : XS) (p1 : Int) (p2 : Int) : XR :=
  x_eq p2 0 (x_ld (x.2 4) 100 p1 (fun v1 => some (v1, x))) (x_eq p2 1 (x_ld (x.2 5) 100 p1 (fun v2 => some (v2, x))) (x_eq p2 2 (x_ld (x.2 6) 100 p1 (fun v3 => some (v3, x))) (x_eq p2 3 (x_ld (x.2 7) 100 p1 (fun v4 => some (v4, x))) (x_eq p2 4 (x_ld (x.2 8) 100 p1 (fun v5 => some (v5, x))) (x_eq p2 5 (x_ld (x.2 9) 100 p1 (fun v6 => some (v6, x))) (x_eq p2 6 (x_ld (x.2 10) 100 p1 (fun v7 => some (v7, x))) (x_ld (x.2 12) 100 p1 (fun v8 => x_eq v8 0 (some (0, x)) (some (1, x))))))))))
def f_X6_told (x : XS) (p1 : Int) (p2 : Int) : XR :=
  x_call (f_X6_isLine x p1) (fun r1 x2 => x_eq r1 0 (x_call (f_X6_refuse x2 1) (fun r11 x12 => some (r11, x12))) (x_call (f_X6_isBetween x2 p2 0 7) (fun r3 x4 => x_eq r3 0 (x_call (f_X6_refuse x4 2) (fun r9 x10 => some (r9, x10))) (x_call (f_X0_tell x4 p1 p2) (fun r5 x6 => x_call (f_X6_answer x6 r5) (fun r7 x8 => some (r7, x8)))))))
def f_X6_isChange (x : XS) (p1 : Int) : XR :=
  x_call (f_X6_isBetween x p1 0 (x.1 5)) (fun r1 x2 => some (r1, x2))
def f_X5_repeat (x : XS) (p1 : Int) : XR :=
  x_ld (x.2 14) 400 p1 (fun v1 => x_ld (x.2 13) 400 p1 (fun v2 => x_eq v2 0 (x_let (xpS x 8 ((x.1 8) + 1)) (fun x3 => some (0, x3))) (x_eq v2 1 (x_stb x 17 100 v1 1 (fun x4 => some (0, x4))) (x_eq v2 2 (x_ld (x.2 15) 400 p1 (fun v5 => x_st x 19 1200 v1 v5 (fun x6 => some (0, x6)))) (x_st x 18 60 (x.1 7) p1 (fun x7 => x_let (xpS x7 7 ((x7.1 7) + 1)) (fun x8 => some (0, x8))))))))
def b_X5_replay_64 (p1 : Int) (kx7 : XS → XR) (g11 : Int → XS → XR) (v9 : Int) (x10 : XS) : XR :=
  x_le p1 v9 (kx7 x10) (x_call (f_X5_repeat x10 v9) (fun _ x13 => x_let (v9 + 1) (fun v14 => g11 v14 x13)))
def b_X5_replay_28 (kx3 : XS → XR) (g17 : Int → XS → XR) (v15 : Int) (x16 : XS) : XR :=
  x_le (x16.1 4) v15 (kx3 x16) (x_st x16 19 1200 v15 0 (fun x18 => x_let (v15 + 1) (fun v19 => g17 v19 x18)))
def b_X5_replay_2 (kx1 : XS → XR) (g22 : Int → XS → XR) (v20 : Int) (x21 : XS) : XR :=
  x_le (x21.1 3) v20 (kx1 x21) (x_stb x21 17 100 v20 0 (fun x23 => x_let (v20 + 1) (fun v24 => g22 v24 x23)))
def f_X5_replay (x : XS) (p1 : Int) : XR :=
  x_jp (fun (x2 : XS) => x_jp (fun (x4 : XS) => x_let (xpS x4 8 0) (fun x5 => x_let (xpS x5 7 0) (fun x6 => x_jp (fun (x8 : XS) => some (0, x8)) (fun kx7 => x_loop1 (b_X5_replay_64 p1 kx7) x_fuel 0 x6)))) (fun kx3 => x_loop1 (b_X5_replay_28 kx3) x_fuel 0 x2)) (fun kx1 => x_loop1 (b_X5_replay_2 kx1) x_fuel 0 x)
def f_X0_plannedLeaving (x : XS) (p1 : Int) (p2 : Int) : XR :=
  x_ld (x.2 6) 100 p1 (fun v1 => x_jp (fun (v3 : Int) (x4 : XS) => x_ld (x4.2 7) 100 p1 (fun v5 => some ((v5 + (p2 * v3)), x4))) (fun jp2 => x_eq v1 2 (jp2 1 x) (x_ld (x.2 10) 100 p1 (fun v6 => jp2 v6 x))))
def f_X1_isClosing (x : XS) (p1 : Int) (p2 : Int) (p3 : Int) : XR :=
  x_ld (x.2 14) 400 p1 (fun v1 => x_eq v1 p2 (x_ld (x.2 15) 400 p1 (fun v2 => x_lt p3 v2 (some (0, x)) (x_ld (x.2 16) 400 p1 (fun v3 => x_lt v3 p3 (some (0, x)) (some (1, x)))))) (some (0, x)))
def b_X5_isClosed_2 (kx1 : XS → XR) (p1 : Int) (p2 : Int) (g5 : Int → XS → XR) (v3 : Int) (x4 : XS) : XR :=
  x_le (x4.1 7) v3 (kx1 x4) (x_ld (x4.2 18) 60 v3 (fun v6 => x_call (f_X1_isClosing x4 v6 p1 p2) (fun r7 x8 => x_eq r7 0 (x_let (v3 + 1) (fun v9 => g5 v9 x8)) (some (1, x8)))))
def f_X5_isClosed (x : XS) (p1 : Int) (p2 : Int) : XR :=
  x_jp (fun (x2 : XS) => some (0, x2)) (fun kx1 => x_loop1 (b_X5_isClosed_2 kx1 p1 p2) x_fuel 0 x)
def f_X5_timeRun (x : XS) (p1 : Int) (p2 : Int) : XR :=
  x_ld (x.2 11) 100 p1 (fun v1 => x_let (v1 + p2) (fun v2 => x_st x 20 1200 v2 p1 (fun x3 => x_call (f_X0_plannedLeaving x3 p1 p2) (fun r4 x5 => x_ld (x5.2 19) 1200 v2 (fun v6 => x_st x5 21 1200 v2 (r4 + v6) (fun x7 => x_ld (x7.2 21) 1200 v2 (fun v8 => x_ld (x7.2 8) 100 p1 (fun v9 => x_st x7 22 1200 v2 (v8 + v9) (fun x10 => x_ld (x10.2 17) 100 p1 (fun v11 => x_jp (fun (v13 : Int) (x14 : XS) => x_stb x14 23 1200 v2 v13 (fun x15 => x_ld (x15.2 23) 1200 v2 (fun v16 => x_eq v16 0 (some (0, x15)) (x_ld (x15.2 5) 100 p1 (fun v17 => x_ld (x15.2 22) 1200 v2 (fun v18 => x_st x15 26 1200 v2 ((v17 * 5001) + v18) (fun x19 => x_st x19 24 1200 (x19.1 9) v2 (fun x20 => x_st x20 25 1200 (x20.1 9) v2 (fun x21 => x_let (xpS x21 9 ((x21.1 9) + 1)) (fun x22 => some (0, x22))))))))))) (fun jp12 => x_jp (fun (x24 : XS) => jp12 0 x24) (fun jp23 => x_eq v11 0 (x_ld (x10.2 22) 1200 v2 (fun v25 => x_lt 5000 v25 (jp23 x10) (x_ld (x10.2 4) 100 p1 (fun v26 => x_ld (x10.2 21) 1200 v2 (fun v27 => x_call (f_X5_isClosed x10 v26 v27) (fun r28 x29 => x_eq r28 0 (x_ld (x29.2 5) 100 p1 (fun v30 => x_ld (x29.2 22) 1200 v2 (fun v31 => x_call (f_X5_isClosed x29 v30 v31) (fun r32 x33 => x_eq r32 0 (jp12 1 x33) (jp23 x33))))) (jp23 x29))))))) (jp23 x10)))))))))))))
def b_X5_timeRuns_17 (v4 : Int) (kx7 : XS → XR) (g12 : Int → XS → XR) (v10 : Int) (x11 : XS) : XR :=
  x_ld (x11.2 9) 100 v4 (fun v13 => x_le v13 v10 (kx7 x11) (x_call (f_X5_timeRun x11 v4 v10) (fun _ x15 => x_let (v10 + 1) (fun v16 => g12 v16 x15))))
def b_X5_timeRuns_7 (kx2 : XS → XR) (g6 : Int → XS → XR) (v4 : Int) (x5 : XS) : XR :=
  x_le (x5.1 8) v4 (kx2 x5) (x_jp (fun (x8 : XS) => x_let (v4 + 1) (fun v9 => g6 v9 x8)) (fun kx7 => x_loop1 (b_X5_timeRuns_17 v4 kx7) x_fuel 0 x5))
def f_X5_timeRuns (x : XS) : XR :=
  x_let (xpS x 9 0) (fun x1 => x_jp (fun (x3 : XS) => some (0, x3)) (fun kx2 => x_loop1 (b_X5_timeRuns_7 kx2) x_fuel 0 x1))
def b_X4_merge_10 (p5 : Int) (kx1 : XS → XR) (j0 : Nat) (p4 : Int) (j1 : Nat) (g7 : Int → Int → Int → XS → XR) (v3 v4 v5 : Int) (x6 : XS) : XR :=
  x_le p5 v5 (kx1 x6) (x_jp (fun (v9 : Int) (x10 : XS) => x_jp (fun (v12 : Int) (v13 : Int) (x14 : XS) => x_let (v5 + 1) (fun v15 => g7 v12 v13 v15 x14)) (fun jp11 => x_eq v9 0 (x_ld (x10.2 j0) 1200 v4 (fun v16 => x_st x10 34 1200 v5 v16 (fun x17 => x_let (v4 + 1) (fun v18 => jp11 v3 v18 x17)))) (x_ld (x10.2 j0) 1200 v3 (fun v19 => x_st x10 34 1200 v5 v19 (fun x20 => x_let (v3 + 1) (fun v21 => jp11 v21 v4 x20)))))) (fun jp8 => x_jp (fun (x23 : XS) => jp8 1 x23) (fun jp22 => x_le p5 v4 (jp22 x6) (x_jp (fun (x25 : XS) => jp8 0 x25) (fun jp24 => x_le p4 v3 (jp24 x6) (x_ld (x6.2 j0) 1200 v3 (fun v26 => x_ld (x6.2 j1) 1200 v26 (fun v27 => x_ld (x6.2 j0) 1200 v4 (fun v28 => x_ld (x6.2 j1) 1200 v28 (fun v29 => x_lt v29 v27 (jp24 x6) (jp22 x6)))))))))))
def f_X4_merge (j0 : Nat) (j1 : Nat) (x : XS) (p3 : Int) (p4 : Int) (p5 : Int) : XR :=
  x_jp (fun (x2 : XS) => some (0, x2)) (fun kx1 => x_loop3 (b_X4_merge_10 p5 kx1 j0 p4 j1) x_fuel p3 p4 p3 x)
def b_X4_sort_63 (p2 : Int) (kx8 : XS → XR) (j0 : Nat) (g13 : Int → XS → XR) (v11 : Int) (x12 : XS) : XR :=
  x_le p2 v11 (kx8 x12) (x_ld (x12.2 34) 1200 v11 (fun v14 => x_st x12 j0 1200 v11 v14 (fun x15 => x_let (v11 + 1) (fun v16 => g13 v16 x15))))
def b_X4_sort_12 (p2 : Int) (kx6 : XS → XR) (v3 : Int) (j0 : Nat) (j2 : Nat) (g19 : Int → XS → XR) (v17 : Int) (x18 : XS) : XR :=
  x_le p2 v17 (kx6 x18) (x_min (v17 + v3) p2 (fun v20 => x_min (v20 + v3) p2 (fun v21 => x_call (f_X4_merge j0 j2 x18 v17 v20 v21) (fun _ x23 => x_let (v17 + (2 * v3)) (fun v24 => g19 v24 x23)))))
def b_X4_sort_3 (p2 : Int) (kx1 : XS → XR) (j0 : Nat) (j2 : Nat) (g5 : Int → XS → XR) (v3 : Int) (x4 : XS) : XR :=
  x_le p2 v3 (kx1 x4) (x_jp (fun (x7 : XS) => x_jp (fun (x9 : XS) => x_let (v3 * 2) (fun v10 => g5 v10 x9)) (fun kx8 => x_loop1 (b_X4_sort_63 p2 kx8 j0) x_fuel 0 x7)) (fun kx6 => x_loop1 (b_X4_sort_12 p2 kx6 v3 j0 j2) x_fuel 0 x4))
def f_X4_sort (j0 : Nat) (j2 : Nat) (x : XS) (p2 : Int) : XR :=
  x_jp (fun (x2 : XS) => some (0, x2)) (fun kx1 => x_loop1 (b_X4_sort_3 p2 kx1 j0 j2) x_fuel 1 x)
def f_X5_goalOf (x : XS) (p1 : Int) : XR :=
  x_ld (x.2 20) 1200 p1 (fun v1 => x_ld (x.2 5) 100 v1 (fun v2 => some (v2, x)))
def b_X5_orderRuns_48 (kx11 : Int → XS → XR) (v8 : Int) (g18 : Int → XS → XR) (v16 : Int) (x17 : XS) : XR :=
  x_le (x17.1 9) v16 (kx11 v16 x17) (x_ld (x17.2 25) 1200 v16 (fun v19 => x_call (f_X5_goalOf x17 v19) (fun r20 x21 => x_eq r20 v8 (x_let (v16 + 1) (fun v22 => g18 v22 x21)) (kx11 v16 x21))))
def b_X5_orderRuns_42 (kx5 : XS → XR) (g10 : Int → Int → XS → XR) (v7 v8 : Int) (x9 : XS) : XR :=
  x_le 24 v8 (kx5 x9) (x_jp (fun (v12 : Int) (x13 : XS) => x_st x13 27 24 v8 v12 (fun x14 => x_let (v8 + 1) (fun v15 => g10 v12 v15 x14))) (fun kx11 => x_loop1 (b_X5_orderRuns_48 kx11 v8) x_fuel v7 x9))
def f_X5_orderRuns (x : XS) : XR :=
  x_call (f_X4_sort 24 21 x (x.1 9)) (fun _ x2 => x_call (f_X4_sort 25 26 x2 (x2.1 9)) (fun _ x4 => x_jp (fun (x6 : XS) => some (0, x6)) (fun kx5 => x_loop2 (b_X5_orderRuns_42 kx5) x_fuel 0 0 x4)))
def f_X5_show (x : XS) (p1 : Int) : XR :=
  x_eq (x.1 10) p1 (some (0, x)) (x_call (f_X5_replay x p1) (fun _ x2 => x_call (f_X5_timeRuns x2) (fun _ x4 => x_call (f_X5_orderRuns x4) (fun _ x6 => x_let (xpS x6 10 p1) (fun x7 => some (0, x7))))))
def f_X5_tell (x : XS) (p1 : Int) (p2 : Int) : XR :=
  x_eq p2 0 (x_ld (x.2 21) 1200 p1 (fun v3 => some (v3, x))) (x_eq p2 1 (x_ld (x.2 22) 1200 p1 (fun v2 => some (v2, x))) (x_ld (x.2 23) 1200 p1 (fun v1 => x_eq v1 0 (some (0, x)) (some (1, x)))))
def f_X6_run (x : XS) (p1 : Int) (p2 : Int) (p3 : Int) (p4 : Int) : XR :=
  x_call (f_X6_isChange x p3) (fun r1 x2 => x_eq r1 0 (x_call (f_X6_refuse x2 6) (fun r23 x24 => some (r23, x24))) (x_call (f_X5_show x2 p3) (fun _ x4 => x_call (f_X6_isBetween x4 p1 0 ((x4.1 8) - 1)) (fun r5 x6 => x_jp (fun (x8 : XS) => x_call (f_X6_refuse x8 1) (fun r9 x10 => some (r9, x10))) (fun jp7 => x_eq r5 0 (jp7 x6) (x_ld (x6.2 9) 100 p1 (fun v11 => x_call (f_X6_isBetween x6 p2 0 (v11 - 1)) (fun r12 x13 => x_eq r12 0 (jp7 x13) (x_call (f_X6_isBetween x13 p4 0 2) (fun r14 x15 => x_eq r14 0 (x_call (f_X6_refuse x15 2) (fun r21 x22 => some (r21, x22))) (x_ld (x15.2 11) 100 p1 (fun v16 => x_call (f_X5_tell x15 (v16 + p2) p4) (fun r17 x18 => x_call (f_X6_answer x18 r17) (fun r19 x20 => some (r19, x20)))))))))))))))
def f_X6_reachFault (x : XS) (p1 : Int) (p2 : Int) (p3 : Int) (p4 : Int) (p5 : Int) : XR :=
  x_call (f_X6_isNode x p1) (fun r1 x2 => x_eq r1 0 (some (1, x2)) (x_call (f_X6_isNode x2 p2) (fun r3 x4 => x_eq r3 0 (some (1, x4)) (x_call (f_X6_isTick x4 p3) (fun r5 x6 => x_eq r5 0 (some (2, x6)) (x_call (f_X6_isTick x6 p4) (fun r7 x8 => x_eq r7 0 (some (2, x8)) (x_call (f_X6_isChange x8 p5) (fun r9 x10 => x_eq r9 0 (some (6, x10)) (some (0, x10)))))))))))
def f_X6_wayFault (x : XS) (p1 : Int) (p2 : Int) (p3 : Int) (p4 : Int) (p5 : Int) : XR :=
  x_call (f_X6_areEnds x p1 p2) (fun r1 x2 => x_eq r1 0 (some (1, x2)) (x_call (f_X6_reachFault x2 p1 p2 p3 p4 p5) (fun r3 x4 => some (r3, x4))))
def f_X5_goalBegin (x : XS) (p1 : Int) : XR :=
  x_eq p1 0 (some (0, x)) (x_ld (x.2 27) 24 (p1 - 1) (fun v1 => some (v1, x)))
def b_X3_emptyQueues_2 (kx1 : XS → XR) (g5 : Int → XS → XR) (v3 : Int) (x4 : XS) : XR :=
  x_le 24 v3 (kx1 x4) (x_call (f_X5_goalBegin x4 v3) (fun r6 x7 => x_st x7 30 24 v3 r6 (fun x8 => x_st x8 31 24 v3 r6 (fun x9 => x_st x9 32 24 v3 r6 (fun x10 => x_let (v3 + 1) (fun v11 => g5 v11 x10))))))
def f_X3_emptyQueues (x : XS) : XR :=
  x_jp (fun (x2 : XS) => some (0, x2)) (fun kx1 => x_loop1 (b_X3_emptyQueues_2 kx1) x_fuel 0 x)
def f_X5_startOf (x : XS) (p1 : Int) : XR :=
  x_ld (x.2 20) 1200 p1 (fun v1 => x_ld (x.2 4) 100 v1 (fun v2 => some (v2, x)))
def f_X2_latestComing (x : XS) (p1 : Int) (p2 : Int) : XR :=
  x_ld (x.2 2) 24 p1 (fun v1 => some ((p2 - v1), x))
def f_X3_isBetter (x : XS) (p1 : Int) (p2 : Int) : XR :=
  x_eq (x.1 11) 0 (x_le p1 p2 (some (0, x)) (some (1, x))) (x_le p2 p1 (some (0, x)) (some (1, x)))
def b_X3_join_7 (p1 : Int) (kx2 : Int → XS → XR) (p2 : Int) (g9 : Int → XS → XR) (v7 : Int) (x8 : XS) : XR :=
  x_ld (x8.2 30) 24 p1 (fun v10 => x_le v7 v10 (kx2 v7 x8) (x_ld (x8.2 29) 1200 (v7 - 1) (fun v11 => x_ld (x8.2 28) 1200 v11 (fun v12 => x_ld (x8.2 28) 1200 p2 (fun v13 => x_call (f_X3_isBetter x8 v12 v13) (fun r14 x15 => x_eq r14 0 (x_let (v7 + (-1)) (fun v16 => g9 v16 x15)) (kx2 v7 x15)))))))
def f_X3_join (x : XS) (p1 : Int) (p2 : Int) : XR :=
  x_ld (x.2 31) 24 p1 (fun v1 => x_jp (fun (v3 : Int) (x4 : XS) => x_st x4 29 1200 v3 p2 (fun x5 => x_st x5 31 24 p1 (v3 + 1) (fun x6 => some (0, x6)))) (fun kx2 => x_loop1 (b_X3_join_7 p1 kx2 p2) x_fuel v1 x))
def b_X3_takeIn_7 (p1 : Int) (kx2 : Int → XS → XR) (p2 : Int) (g8 : Int → XS → XR) (v6 : Int) (x7 : XS) : XR :=
  x_ld (x7.2 27) 24 p1 (fun v9 => x_le v9 v6 (kx2 v6 x7) (x_ld (x7.2 25) 1200 v6 (fun v10 => x_ld (x7.2 22) 1200 v10 (fun v11 => x_lt p2 v11 (kx2 v6 x7) (x_ld (x7.2 25) 1200 v6 (fun v12 => x_ld (x7.2 28) 1200 v12 (fun v13 => x_jp (fun (x15 : XS) => x_let (v6 + 1) (fun v16 => g8 v16 x15)) (fun jp14 => x_eq v13 (-1) (jp14 x7) (x_ld (x7.2 25) 1200 v6 (fun v17 => x_call (f_X3_join x7 p1 v17) (fun _ x19 => jp14 x19)))))))))))
def f_X3_takeIn (x : XS) (p1 : Int) (p2 : Int) : XR :=
  x_ld (x.2 32) 24 p1 (fun v1 => x_jp (fun (v3 : Int) (x4 : XS) => x_st x4 32 24 p1 v3 (fun x5 => some (0, x5))) (fun kx2 => x_loop1 (b_X3_takeIn_7 p1 kx2 p2) x_fuel v1 x))
def f_X2_soonestComing (x : XS) (p1 : Int) (p2 : Int) : XR :=
  x_ld (x.2 3) 24 p1 (fun v1 => x_eq v1 (-1) (some (0, x)) (x_ld (x.2 3) 24 p1 (fun v2 => some ((p2 - v2), x))))
def b_X3_dropOld_7 (p1 : Int) (kx2 : Int → XS → XR) (p2 : Int) (g8 : Int → XS → XR) (v6 : Int) (x7 : XS) : XR :=
  x_ld (x7.2 31) 24 p1 (fun v9 => x_le v9 v6 (kx2 v6 x7) (x_ld (x7.2 29) 1200 v6 (fun v10 => x_ld (x7.2 22) 1200 v10 (fun v11 => x_le p2 v11 (kx2 v6 x7) (x_let (v6 + 1) (fun v12 => g8 v12 x7))))))
def f_X3_dropOld (x : XS) (p1 : Int) (p2 : Int) : XR :=
  x_ld (x.2 30) 24 p1 (fun v1 => x_jp (fun (v3 : Int) (x4 : XS) => x_st x4 30 24 p1 v3 (fun x5 => some (0, x5))) (fun kx2 => x_loop1 (b_X3_dropOld_7 p1 kx2 p2) x_fuel v1 x))
def f_X3_worthBehindOthers (x : XS) (p1 : Int) : XR :=
  x_call (f_X5_startOf x p1) (fun r1 x2 => x_ld (x2.2 21) 1200 p1 (fun v3 => x_call (f_X2_latestComing x2 r1 v3) (fun r4 x5 => x_call (f_X3_takeIn x5 r1 r4) (fun _ x7 => x_call (f_X2_soonestComing x7 r1 v3) (fun r8 x9 => x_call (f_X3_dropOld x9 r1 r8) (fun _ x11 => x_ld (x11.2 30) 24 r1 (fun v12 => x_ld (x11.2 31) 24 r1 (fun v13 => x_lt v12 v13 (x_ld (x11.2 30) 24 r1 (fun v14 => x_ld (x11.2 29) 1200 v14 (fun v15 => x_ld (x11.2 28) 1200 v15 (fun v16 => x_eq (x11.1 11) 0 (some (v16, x11)) (some ((v16 + 1), x11)))))) (some ((-1), x11))))))))))
def b_X3_spread_13 (kx4 : XS → XR) (p3 : Int) (p1 : Int) (p2 : Int) (p4 : Int) (g8 : Int → XS → XR) (v6 : Int) (x7 : XS) : XR :=
  x_le (x7.1 9) v6 (kx4 x7) (x_ld (x7.2 24) 1200 v6 (fun v9 => x_ld (x7.2 20) 1200 v9 (fun v10 => x_jp (fun (x12 : XS) => x_let (v6 + 1) (fun v13 => g8 v13 x12)) (fun jp11 => x_eq v10 p3 (x_st x7 28 1200 v9 (-1) (fun x27 => jp11 x27)) (x_call (f_X5_startOf x7 v9) (fun r14 x15 => x_jp (fun (x17 : XS) => x_call (f_X3_worthBehindOthers x17 v9) (fun r18 x19 => x_st x19 28 1200 v9 r18 (fun x20 => jp11 x20))) (fun jp16 => x_eq r14 p1 (x_ld (x15.2 21) 1200 v9 (fun v21 => x_lt v21 p2 (jp16 x15) (x_jp (fun (v23 : Int) (x24 : XS) => x_st x24 28 1200 v9 v23 (fun x25 => jp11 x25)) (fun jp22 => x_eq p4 0 (x_ld (x15.2 21) 1200 v9 (fun v26 => jp22 v26 x15)) (jp22 1 x15))))) (jp16 x15))))))))
def f_X3_spread (x : XS) (p1 : Int) (p2 : Int) (p3 : Int) (p4 : Int) : XR :=
  x_let (xpS x 11 p4) (fun x1 => x_call (f_X3_emptyQueues x1) (fun _ x3 => x_jp (fun (x5 : XS) => some (0, x5)) (fun kx4 => x_loop1 (b_X3_spread_13 kx4 p3 p1 p2 p4) x_fuel 0 x3)))
def f_X6_explore (x : XS) (p1 : Int) (p2 : Int) (p3 : Int) (p4 : Int) : XR :=
  x_call (f_X5_show x p3) (fun _ x2 => x_call (f_X3_spread x2 p1 p2 (-1) p4) (fun _ x4 => some (0, x4)))
def b_X3_firstComing_9 (p1 : Int) (kx3 : Int → XS → XR) (g10 : Int → XS → XR) (v8 : Int) (x9 : XS) : XR :=
  x_ld (x9.2 27) 24 p1 (fun v11 => x_le v11 v8 (some ((-1), x9)) (x_ld (x9.2 25) 1200 v8 (fun v12 => x_ld (x9.2 28) 1200 v12 (fun v13 => x_eq v13 (-1) (x_let (v8 + 1) (fun v14 => g10 v14 x9)) (kx3 v8 x9)))))
def f_X3_firstComing (x : XS) (p1 : Int) : XR :=
  x_call (f_X5_goalBegin x p1) (fun r1 x2 => x_jp (fun (v4 : Int) (x5 : XS) => x_ld (x5.2 25) 1200 v4 (fun v6 => x_ld (x5.2 22) 1200 v6 (fun v7 => some (v7, x5)))) (fun kx3 => x_loop1 (b_X3_firstComing_9 p1 kx3) x_fuel r1 x2))
def f_X6_answerOfWay (x : XS) (p1 : Int) : XR :=
  x_eq p1 (-1) (x_call (f_X6_refuse x 5) (fun r3 x4 => some (r3, x4))) (x_call (f_X6_answer x p1) (fun r1 x2 => some (r1, x2)))
def f_X6_first (x : XS) (p1 : Int) (p2 : Int) (p3 : Int) (p4 : Int) : XR :=
  x_call (f_X6_wayFault x p1 p2 p3 p3 p4) (fun r1 x2 => x_eq r1 0 (x_call (f_X6_explore x2 p1 p3 p4 0) (fun _ x4 => x_call (f_X3_firstComing x4 p2) (fun r5 x6 => x_call (f_X6_answerOfWay x6 r5) (fun r7 x8 => some (r7, x8))))) (x_call (f_X6_refuse x2 r1) (fun r9 x10 => some (r9, x10))))
def f_X3_isEnd (x : XS) (p1 : Int) (p2 : Int) : XR :=
  x_ld (x.2 28) 1200 p1 (fun v1 => x_eq v1 (-1) (some (0, x)) (x_ld (x.2 22) 1200 p1 (fun v2 => x_lt p2 v2 (some (0, x)) (some (1, x)))))
def b_X3_lastLeaving_12 (p1 : Int) (kx3 : Int → XS → XR) (p2 : Int) (g9 : Int → Int → XS → XR) (v6 v7 : Int) (x8 : XS) : XR :=
  x_ld (x8.2 27) 24 p1 (fun v10 => x_le v10 v7 (kx3 v6 x8) (x_ld (x8.2 25) 1200 v7 (fun v11 => x_call (f_X3_isEnd x8 v11 p2) (fun r12 x13 => x_jp (fun (v15 : Int) (x16 : XS) => x_let (v7 + 1) (fun v17 => g9 v15 v17 x16)) (fun jp14 => x_eq r12 0 (jp14 v6 x13) (x_ld (x13.2 28) 1200 v11 (fun v18 => x_max v6 v18 (fun v19 => jp14 v19 x13))))))))
def f_X3_lastLeaving (x : XS) (p1 : Int) (p2 : Int) : XR :=
  x_call (f_X5_goalBegin x p1) (fun r1 x2 => x_jp (fun (v4 : Int) (x5 : XS) => some (v4, x5)) (fun kx3 => x_loop2 (b_X3_lastLeaving_12 p1 kx3 p2) x_fuel (-1) r1 x2))
def f_X6_last (x : XS) (p1 : Int) (p2 : Int) (p3 : Int) (p4 : Int) : XR :=
  x_call (f_X6_wayFault x p1 p2 p3 p3 p4) (fun r1 x2 => x_eq r1 0 (x_call (f_X6_explore x2 p1 0 p4 0) (fun _ x4 => x_call (f_X3_lastLeaving x4 p2 p3) (fun r5 x6 => x_call (f_X6_answerOfWay x6 r5) (fun r7 x8 => some (r7, x8))))) (x_call (f_X6_refuse x2 r1) (fun r9 x10 => some (r9, x10))))
def b_X3_leastTicks_12 (p1 : Int) (kx3 : Int → XS → XR) (p2 : Int) (g9 : Int → Int → XS → XR) (v6 v7 : Int) (x8 : XS) : XR :=
  x_ld (x8.2 27) 24 p1 (fun v10 => x_le v10 v7 (kx3 v6 x8) (x_ld (x8.2 25) 1200 v7 (fun v11 => x_ld (x8.2 22) 1200 v11 (fun v12 => x_ld (x8.2 28) 1200 v11 (fun v13 => x_let (v12 - v13) (fun v14 => x_call (f_X3_isEnd x8 v11 p2) (fun r15 x16 => x_jp (fun (v18 : Int) (x19 : XS) => x_let (v7 + 1) (fun v20 => g9 v18 v20 x19)) (fun jp17 => x_eq r15 0 (jp17 v6 x16) (x_jp (fun (x22 : XS) => jp17 v14 x22) (fun jp21 => x_eq v6 (-1) (jp21 x16) (x_le v6 v14 (jp17 v6 x16) (jp21 x16))))))))))))
def f_X3_leastTicks (x : XS) (p1 : Int) (p2 : Int) : XR :=
  x_call (f_X5_goalBegin x p1) (fun r1 x2 => x_jp (fun (v4 : Int) (x5 : XS) => some (v4, x5)) (fun kx3 => x_loop2 (b_X3_leastTicks_12 p1 kx3 p2) x_fuel (-1) r1 x2))
def f_X6_quickest (x : XS) (p1 : Int) (p2 : Int) (p3 : Int) (p4 : Int) (p5 : Int) : XR :=
  x_call (f_X6_wayFault x p1 p2 p3 p4 p5) (fun r1 x2 => x_eq r1 0 (x_call (f_X6_explore x2 p1 p3 p5 0) (fun _ x4 => x_call (f_X3_leastTicks x4 p2 p4) (fun r5 x6 => x_call (f_X6_answerOfWay x6 r5) (fun r7 x8 => some (r7, x8))))) (x_call (f_X6_refuse x2 r1) (fun r9 x10 => some (r9, x10))))
def b_X3_leastRuns_12 (p1 : Int) (kx3 : Int → XS → XR) (p2 : Int) (g9 : Int → Int → XS → XR) (v6 v7 : Int) (x8 : XS) : XR :=
  x_ld (x8.2 27) 24 p1 (fun v10 => x_le v10 v7 (kx3 v6 x8) (x_ld (x8.2 25) 1200 v7 (fun v11 => x_call (f_X3_isEnd x8 v11 p2) (fun r12 x13 => x_jp (fun (v15 : Int) (x16 : XS) => x_let (v7 + 1) (fun v17 => g9 v15 v17 x16)) (fun jp14 => x_eq r12 0 (jp14 v6 x13) (x_jp (fun (x19 : XS) => x_ld (x19.2 28) 1200 v11 (fun v20 => jp14 v20 x19)) (fun jp18 => x_eq v6 (-1) (jp18 x13) (x_ld (x13.2 28) 1200 v11 (fun v21 => x_le v6 v21 (jp14 v6 x13) (jp18 x13))))))))))
def f_X3_leastRuns (x : XS) (p1 : Int) (p2 : Int) : XR :=
  x_call (f_X5_goalBegin x p1) (fun r1 x2 => x_jp (fun (v4 : Int) (x5 : XS) => some (v4, x5)) (fun kx3 => x_loop2 (b_X3_leastRuns_12 p1 kx3 p2) x_fuel (-1) r1 x2))
def f_X6_fewest (x : XS) (p1 : Int) (p2 : Int) (p3 : Int) (p4 : Int) (p5 : Int) : XR :=
  x_call (f_X6_wayFault x p1 p2 p3 p4 p5) (fun r1 x2 => x_eq r1 0 (x_call (f_X6_explore x2 p1 p3 p5 1) (fun _ x4 => x_call (f_X3_leastRuns x4 p2 p4) (fun r5 x6 => x_call (f_X6_answerOfWay x6 r5) (fun r7 x8 => some (r7, x8))))) (x_call (f_X6_refuse x2 r1) (fun r9 x10 => some (r9, x10))))
def f_X3_isLesserEnd (x : XS) (p1 : Int) (p2 : Int) : XR :=
  x_ld (x.2 28) 1200 p1 (fun v1 => x_ld (x.2 28) 1200 p2 (fun v2 => x_jp (fun (x4 : XS) => some (1, x4)) (fun jp3 => x_lt v1 v2 (jp3 x) (x_ld (x.2 28) 1200 p1 (fun v5 => x_ld (x.2 28) 1200 p2 (fun v6 => x_eq v5 v6 (x_le p2 p1 (some (0, x)) (jp3 x)) (some (0, x))))))))
def b_X3_lastOfWay_18 (p1 : Int) (kx5 : Int → XS → XR) (r1 : Int) (g11 : Int → Int → XS → XR) (v8 v9 : Int) (x10 : XS) : XR :=
  x_ld (x10.2 27) 24 p1 (fun v12 => x_le v12 v9 (kx5 v8 x10) (x_ld (x10.2 25) 1200 v9 (fun v13 => x_call (f_X3_isEnd x10 v13 r1) (fun r14 x15 => x_jp (fun (v17 : Int) (x18 : XS) => x_let (v9 + 1) (fun v19 => g11 v17 v19 x18)) (fun jp16 => x_eq r14 0 (jp16 v8 x15) (x_jp (fun (x21 : XS) => jp16 v13 x21) (fun jp20 => x_eq v8 (-1) (jp20 x15) (x_call (f_X3_isLesserEnd x15 v13 v8) (fun r22 x23 => x_eq r22 0 (jp16 v8 x23) (jp20 x23))))))))))
def f_X3_lastOfWay (x : XS) (p1 : Int) : XR :=
  x_call (f_X3_firstComing x p1) (fun r1 x2 => x_call (f_X5_goalBegin x2 p1) (fun r3 x4 => x_jp (fun (v6 : Int) (x7 : XS) => some (v6, x7)) (fun kx5 => x_loop2 (b_X3_lastOfWay_18 p1 kx5 r1) x_fuel (-1) r3 x4)))
def f_X5_placeOf (x : XS) (p1 : Int) : XR :=
  x_ld (x.2 20) 1200 p1 (fun v1 => x_ld (x.2 11) 100 v1 (fun v2 => some ((p1 - v2), x)))
def b_X3_oneAhead_59 (r1 : Int) (kx11 : Int → XS → XR) (p1 : Int) (r4 : Int) (r7 : Int) (g17 : Int → Int → XS → XR) (v14 v15 : Int) (x16 : XS) : XR :=
  x_ld (x16.2 27) 24 r1 (fun v18 => x_le v18 v15 (kx11 v14 x16) (x_ld (x16.2 25) 1200 v15 (fun v19 => x_ld (x16.2 28) 1200 v19 (fun v20 => x_ld (x16.2 28) 1200 p1 (fun v21 => x_jp (fun (v23 : Int) (x24 : XS) => x_jp (fun (v26 : Int) (x27 : XS) => x_let (v15 + 1) (fun v28 => g17 v26 v28 x27)) (fun jp25 => x_eq v23 0 (jp25 v14 x24) (x_jp (fun (x30 : XS) => jp25 v19 x30) (fun jp29 => x_eq v14 (-1) (jp29 x24) (x_le v14 v19 (jp25 v14 x24) (jp29 x24)))))) (fun jp22 => x_jp (fun (x32 : XS) => jp22 0 x32) (fun jp31 => x_eq v20 (v21 - 1) (x_ld (x16.2 22) 1200 v19 (fun v33 => x_call (f_X6_isBetween x16 v33 r4 r7) (fun r34 x35 => x_eq r34 0 (jp31 x35) (jp22 1 x35)))) (jp31 x16))))))))
def f_X3_oneAhead (x : XS) (p1 : Int) : XR :=
  x_call (f_X5_startOf x p1) (fun r1 x2 => x_ld (x2.2 21) 1200 p1 (fun v3 => x_call (f_X2_soonestComing x2 r1 v3) (fun r4 x5 => x_ld (x5.2 21) 1200 p1 (fun v6 => x_call (f_X2_latestComing x5 r1 v6) (fun r7 x8 => x_call (f_X5_goalBegin x8 r1) (fun r9 x10 => x_jp (fun (v12 : Int) (x13 : XS) => some (v12, x13)) (fun kx11 => x_loop2 (b_X3_oneAhead_59 r1 kx11 p1 r4 r7) x_fuel (-1) r9 x10)))))))
def b_X3_trace_27 (kx5 : XS → XR) (j1 : Nat) (g10 : Int → Int → XS → XR) (v7 v8 : Int) (x9 : XS) : XR :=
  x_lt v8 0 (kx5 x9) (x_eq v7 (-1) (kx5 x9) (x_ld (x9.2 20) 1200 v7 (fun v11 => x_st x9 j1 2400 (2 * v8) v11 (fun x12 => x_call (f_X5_placeOf x12 v7) (fun r13 x14 => x_st x14 j1 2400 ((2 * v8) + 1) r13 (fun x15 => x_call (f_X3_oneAhead x15 v7) (fun r16 x17 => x_let (v8 + (-1)) (fun v18 => g10 r16 v18 x17))))))))
def f_X3_trace (j1 : Nat) (x : XS) (p1 : Int) : XR :=
  x_call (f_X3_lastOfWay x p1) (fun r1 x2 => x_eq r1 (-1) (some ((-1), x2)) (x_ld (x2.2 28) 1200 r1 (fun v3 => x_let (v3 - 1) (fun v4 => x_jp (fun (x6 : XS) => some (v3, x6)) (fun kx5 => x_loop2 (b_X3_trace_27 kx5 j1) x_fuel r1 v4 x2)))))
def f_X6_way (x : XS) (p1 : Int) (p2 : Int) (p3 : Int) (p4 : Int) : XR :=
  x_call (f_X6_wayFault x p1 p2 p3 p3 p4) (fun r1 x2 => x_eq r1 0 (x_call (f_X6_explore x2 p1 p3 p4 1) (fun _ x4 => x_call (f_X3_trace 0 x4 p2) (fun r5 x6 => x_jp (fun (x8 : XS) => x_call (f_X6_answerOfWay x8 r5) (fun r9 x10 => some (r9, x10))) (fun jp7 => x_eq r5 (-1) (jp7 x6) (x_let (xpS x6 0 (2 * r5)) (fun x11 => jp7 x11)))))) (x_call (f_X6_refuse x2 r1) (fun r12 x13 => some (r12, x13))))
def f_X6_out (x : XS) (p1 : Int) : XR :=
  x_call (f_X6_isBetween x p1 0 ((x.1 0) - 1)) (fun r1 x2 => x_eq r1 0 (some ((-1), x2)) (x_ld (x2.2 0) 2400 p1 (fun v3 => some (v3, x2))))
def f_X3_pairComing (x : XS) (p1 : Int) : XR :=
  x_ld (x.2 33) 1200 p1 (fun v1 => x_ld (x.2 22) 1200 v1 (fun v2 => some (v2, x)))
def b_X3_findBestPairs_14 (p1 : Int) (kx3 : Int → XS → XR) (g10 : Int → Int → Int → XS → XR) (v6 v7 v8 : Int) (x9 : XS) : XR :=
  x_ld (x9.2 27) 24 p1 (fun v11 => x_le v11 v8 (kx3 v6 x9) (x_ld (x9.2 25) 1200 v8 (fun v12 => x_ld (x9.2 28) 1200 v12 (fun v13 => x_jp (fun (v15 : Int) (v16 : Int) (x17 : XS) => x_let (v8 + 1) (fun v18 => g10 v15 v16 v18 x17)) (fun jp14 => x_le v13 v7 (jp14 v6 v7 x9) (x_ld (x9.2 28) 1200 v12 (fun v19 => x_jp (fun (v21 : Int) (x22 : XS) => x_st x22 33 1200 v21 v12 (fun x23 => x_let (v21 + 1) (fun v24 => jp14 v24 v19 x23))) (fun jp20 => x_le v6 0 (jp20 v6 x9) (x_call (f_X3_pairComing x9 (v6 - 1)) (fun r25 x26 => x_ld (x26.2 22) 1200 v12 (fun v27 => x_eq r25 v27 (x_let (v6 + (-1)) (fun v28 => jp20 v28 x26)) (jp20 v6 x26))))))))))))
def f_X3_findBestPairs (x : XS) (p1 : Int) : XR :=
  x_call (f_X5_goalBegin x p1) (fun r1 x2 => x_jp (fun (v4 : Int) (x5 : XS) => some (v4, x5)) (fun kx3 => x_loop3 (b_X3_findBestPairs_14 p1 kx3) x_fuel 0 (-1) r1 x2))
def f_X6_pairs (x : XS) (p1 : Int) (p2 : Int) (p3 : Int) : XR :=
  x_call (f_X6_wayFault x p1 p2 0 0 p3) (fun r1 x2 => x_eq r1 0 (x_call (f_X6_explore x2 p1 0 p3 0) (fun _ x4 => x_call (f_X3_findBestPairs x4 p2) (fun r5 x6 => x_call (f_X6_answer x6 r5) (fun r7 x8 => some (r7, x8))))) (x_call (f_X6_refuse x2 r1) (fun r9 x10 => some (r9, x10))))
def f_X3_pairLeaving (x : XS) (p1 : Int) : XR :=
  x_ld (x.2 33) 1200 p1 (fun v1 => x_ld (x.2 28) 1200 v1 (fun v2 => some (v2, x)))
def f_X6_pair (x : XS) (p1 : Int) (p2 : Int) (p3 : Int) (p4 : Int) (p5 : Int) : XR :=
  x_call (f_X6_wayFault x p1 p2 0 0 p3) (fun r1 x2 => x_eq r1 0 (x_call (f_X6_explore x2 p1 0 p3 0) (fun _ x4 => x_call (f_X3_findBestPairs x4 p2) (fun r5 x6 => x_call (f_X6_isBetween x6 p4 0 (r5 - 1)) (fun r7 x8 => x_eq r7 0 (x_call (f_X6_refuse x8 7) (fun r18 x19 => some (r18, x19))) (x_jp (fun (v10 : Int) (x11 : XS) => x_call (f_X6_answer x11 v10) (fun r12 x13 => some (r12, x13))) (fun jp9 => x_eq p5 0 (x_call (f_X3_pairLeaving x8 p4) (fun r14 x15 => jp9 r14 x15)) (x_call (f_X3_pairComing x8 p4) (fun r16 x17 => jp9 r16 x17)))))))) (x_call (f_X6_refuse x2 r1) (fun r20 x21 => some (r20, x21))))
def f_X3_isComing (x : XS) (p1 : Int) (p2 : Int) : XR :=
  x_call (f_X3_firstComing x p1) (fun r1 x2 => x_eq r1 (-1) (some (0, x2)) (x_lt p2 r1 (some (0, x2)) (some (1, x2))))
def f_X6_isFound (x : XS) (p1 : Int) (p2 : Int) (p3 : Int) : XR :=
  x_jp (fun (x2 : XS) => some (1, x2)) (fun jp1 => x_eq p1 p2 (jp1 x) (x_call (f_X3_isComing x p2 p3) (fun r3 x4 => x_eq r3 0 (some (0, x4)) (jp1 x4))))
def b_X6_reached_39 (kx5 : Int → XS → XR) (p1 : Int) (p3 : Int) (g13 : Int → Int → XS → XR) (v10 v11 : Int) (x12 : XS) : XR :=
  x_le (x12.1 2) v11 (kx5 v10 x12) (x_call (f_X6_isFound x12 p1 v11 p3) (fun r14 x15 => x_jp (fun (v17 : Int) (x18 : XS) => x_let (v11 + 1) (fun v19 => g13 v17 v19 x18)) (fun jp16 => x_eq r14 0 (jp16 v10 x15) (x_let (v10 + 1) (fun v20 => jp16 v20 x15)))))
def f_X6_reached (x : XS) (p1 : Int) (p2 : Int) (p3 : Int) (p4 : Int) : XR :=
  x_call (f_X6_reachFault x p1 p1 p2 p3 p4) (fun r1 x2 => x_eq r1 0 (x_call (f_X6_explore x2 p1 p2 p4 0) (fun _ x4 => x_jp (fun (v6 : Int) (x7 : XS) => x_call (f_X6_answer x7 v6) (fun r8 x9 => some (r8, x9))) (fun kx5 => x_loop2 (b_X6_reached_39 kx5 p1 p3) x_fuel 0 0 x4))) (x_call (f_X6_refuse x2 r1) (fun r21 x22 => some (r21, x22))))
def f_X6_isReached (x : XS) (p1 : Int) (p2 : Int) (p3 : Int) (p4 : Int) (p5 : Int) : XR :=
  x_call (f_X6_reachFault x p1 p2 p3 p4 p5) (fun r1 x2 => x_eq r1 0 (x_call (f_X6_explore x2 p1 p3 p5 0) (fun _ x4 => x_call (f_X6_isFound x4 p1 p2 p4) (fun r5 x6 => x_jp (fun (v8 : Int) (x9 : XS) => x_call (f_X6_answer x9 v8) (fun r10 x11 => some (r10, x11))) (fun jp7 => x_eq r5 0 (jp7 0 x6) (jp7 1 x6))))) (x_call (f_X6_refuse x2 r1) (fun r12 x13 => some (r12, x13))))
def f_X6_comingWithout (x : XS) (p1 : Int) (p2 : Int) (p3 : Int) (p4 : Int) : XR :=
  x_call (f_X5_show x (x.1 5)) (fun _ x2 => x_call (f_X3_spread x2 p1 p3 p4 0) (fun _ x4 => x_call (f_X3_firstComing x4 p2) (fun r5 x6 => x_eq r5 (-1) (some (5001, x6)) (some (r5, x6)))))
def f_X6_without (x : XS) (p1 : Int) (p2 : Int) (p3 : Int) (p4 : Int) : XR :=
  x_call (f_X6_areEnds x p1 p2) (fun r1 x2 => x_jp (fun (x4 : XS) => x_call (f_X6_refuse x4 1) (fun r5 x6 => some (r5, x6))) (fun jp3 => x_eq r1 0 (jp3 x2) (x_call (f_X6_isLine x2 p4) (fun r7 x8 => x_eq r7 0 (jp3 x8) (x_call (f_X6_isTick x8 p3) (fun r9 x10 => x_eq r9 0 (x_call (f_X6_refuse x10 2) (fun r17 x18 => some (r17, x18))) (x_call (f_X6_comingWithout x10 p1 p2 p3 p4) (fun r11 x12 => x_eq r11 5001 (x_call (f_X6_refuse x12 5) (fun r15 x16 => some (r15, x16))) (x_call (f_X6_answer x12 r11) (fun r13 x14 => some (r13, x14)))))))))))
def b_X6_isInSpareRow_2 (p2 : Int) (kx1 : XS → XR) (p1 : Int) (g5 : Int → XS → XR) (v3 : Int) (x4 : XS) : XR :=
  x_le p2 v3 (kx1 x4) (x_ld (x4.2 1) 2400 (2 * v3) (fun v6 => x_eq v6 p1 (some (1, x4)) (x_let (v3 + 1) (fun v7 => g5 v7 x4))))
def f_X6_isInSpareRow (x : XS) (p1 : Int) (p2 : Int) : XR :=
  x_jp (fun (x2 : XS) => some (0, x2)) (fun kx1 => x_loop1 (b_X6_isInSpareRow_2 p2 kx1 p1) x_fuel 0 x)
def b_X6_weakest_66 (kx7 : Int → XS → XR) (r5 : Int) (p1 : Int) (p2 : Int) (p3 : Int) (g16 : Int → Int → Int → XS → XR) (v12 v13 v14 : Int) (x15 : XS) : XR :=
  x_le (x15.1 3) v14 (kx7 v12 x15) (x_call (f_X6_isInSpareRow x15 v14 r5) (fun r17 x18 => x_jp (fun (v20 : Int) (x21 : XS) => x_jp (fun (v23 : Int) (v24 : Int) (x25 : XS) => x_let (v14 + 1) (fun v26 => g16 v23 v24 v26 x25)) (fun jp22 => x_le v20 v13 (jp22 v12 v13 x21) (jp22 v14 v20 x21))) (fun jp19 => x_eq r17 0 (jp19 (-1) x18) (x_call (f_X6_comingWithout x18 p1 p2 p3 v14) (fun r27 x28 => jp19 r27 x28)))))
def f_X6_weakest (x : XS) (p1 : Int) (p2 : Int) (p3 : Int) : XR :=
  x_call (f_X6_wayFault x p1 p2 p3 p3 (x.1 5)) (fun r1 x2 => x_eq r1 0 (x_call (f_X6_explore x2 p1 p3 (x2.1 5) 1) (fun _ x4 => x_call (f_X3_trace 1 x4 p2) (fun r5 x6 => x_jp (fun (v8 : Int) (x9 : XS) => x_call (f_X6_answerOfWay x9 v8) (fun r10 x11 => some (r10, x11))) (fun kx7 => x_loop3 (b_X6_weakest_66 kx7 r5 p1 p2 p3) x_fuel (-1) (-1) 0 x6)))) (x_call (f_X6_refuse x2 r1) (fun r29 x30 => some (r29, x30))))
def f_X6_stand (x : XS) (p1 : Int) : XR :=
  x_call (f_X6_isChange x p1) (fun r1 x2 => x_eq r1 0 (x_call (f_X6_refuse x2 6) (fun r7 x8 => some (r7, x8))) (x_call (f_X5_show x2 p1) (fun _ x4 => x_call (f_X6_answer x4 (x4.1 9)) (fun r5 x6 => some (r5, x6)))))
