def R_law : String := "TimedNetLaw"
def lw_P (b : Addr) (xs : List Int32) (args : Array Value) (s : State) : Prop := args = #[.ref b] ∧ s.IntsAt b xs ∧ xs.length ≤ 4096 ∧ (Jvm.Cond.and given_1 narrow_1).before args s = true
def lw_Q (_ : Array Value) (s : State) (o : Outcome) (t : State) : Prop := o = .returned (some (.int 1)) ∧ Framed s o t [] 70 41445
def lw_Z (below : List Frame) (a : Array Value) (s : State) : State → Prop := fun t => ∃ o, t.status = .running ∧ Ended t below o ∧ lw_Q a s o t
/-- the law's own end, with 1 on the stack, nothing written that was there before, its room as the claim has it -/
theorem lw_ret {p : Program} {l : Launch} {e : Env} {s : State} {m : MethodId} {below : List Frame} {meth : Method} {c : Code} {b : Nat} (hx : p.tables.exec = Jvm.exec) (hb : c.code = code) (hr : meth.sig.returnType = ret) (hlocks : meth.locks = false) {pc : Nat} {H : Heap} {ls : Array Slot} (hdg : decode code pc = .ok (.ireturn, 1)) : W p l e room_1 s m #[Value.ref b] below meth c H [] 70 41445 (lw_Z below #[Value.ref b] s) (F0 m pc ls [.int 1]) := by
  intro T hT X
  obtain ⟨fs, hret, hrun, hended, hW, hframe⟩ := X.leave (v := some (.int 1)) (hlocks := hlocks) (fun h => by rw [hr] at h; cases h)
  have hmeth' : T.vm.method? m = some meth := X.method'
  refine ⟨T.setFrames fs, ?_, .returned (some (.int 1)), hrun, hended, rfl, ⟨_, rfl⟩, hW, hframe⟩
  jvm_step X.here [X.here.top, hx, hb, hdg, hmeth', hr, ret, narrow_b1]
  (try refine ⟨rfl, ?_⟩); (try refine ⟨rfl, ?_⟩)
  first | (intro acts; rw [hret _ acts rfl rfl rfl]) | rw [hret _ _ rfl rfl rfl]
  exact Steps.refl _
/-- what holds at the law's entry: the machine, the code, the tables' words (any of lw_tbl by 'hts w (by decide +kernel)'), the script of L ints xs at the cell b, what the Statement gives of the start (any of its parts by flat_of_before) -/
def lw_At (p : Program) (s : State) (m : MethodId) (meth : Method) (c : Code) (b L : Nat) (xs : Nat → Int32) : Prop :=
  p.tables.exec = Jvm.exec ∧ c.code = code ∧ meth.sig.returnType = ret ∧ c.maxLocals = 4 ∧ s.vm.findClass R_law = some m.cls ∧ (∀ w ∈ lw_tbl, w.before #[Value.ref b] s = true) ∧ va_X b L xs s s.heap ∧ b < s.heap.size ∧ meth.locks = false ∧ (Jvm.Cond.and given_1 narrow_1).before #[Value.ref b] s = true
theorem bw_93 : (Cond.classLink RL 7 RX6 : Cond) ∈ xg_big := xb_mem 93 (by decide +kernel) rfl
theorem bw_94 : (Cond.instantiable RX6 9 : Cond) ∈ xg_big := xb_mem 94 (by decide +kernel) rfl
theorem bw_95 : (Cond.methodLink RL 9 yX6_init : Cond) ∈ xg_big := xb_mem 95 (by decide +kernel) rfl
theorem bw_96 : (Cond.instanceMethod yX6_init : Cond) ∈ xg_big := xb_mem 96 (by decide +kernel) rfl
theorem bw_97 : (Cond.code yX6_init cX6_init 1 none : Cond) ∈ xg_big := xb_mem 97 (by decide +kernel) rfl
theorem bw_346 : (Cond.methodLink RL 13 yX6_status : Cond) ∈ xg_big := xb_mem 346 (by decide +kernel) rfl
theorem bw_347 : (Cond.instanceMethod yX6_status : Cond) ∈ xg_big := xb_mem 347 (by decide +kernel) rfl
theorem bw_348 : (Cond.selects RX6 yX6_status yX6_status : Cond) ∈ xg_big := xb_mem 348 (by decide +kernel) rfl
theorem bw_349 : (Cond.code yX6_status cX6_status 1 (some .int) : Cond) ∈ xg_big := xb_mem 349 (by decide +kernel) rfl
theorem bw_350 : (Cond.methodLink RL 18 yX6_node : Cond) ∈ xg_big := xb_mem 350 (by decide +kernel) rfl
theorem bw_351 : (Cond.instanceMethod yX6_node : Cond) ∈ xg_big := xb_mem 351 (by decide +kernel) rfl
theorem bw_352 : (Cond.selects RX6 yX6_node yX6_node : Cond) ∈ xg_big := xb_mem 352 (by decide +kernel) rfl
theorem bw_353 : (Cond.code yX6_node cX6_node 3 (some .int) : Cond) ∈ xg_big := xb_mem 353 (by decide +kernel) rfl
theorem bw_376 : (Cond.methodLink RL 23 yX6_waits : Cond) ∈ xg_big := xb_mem 376 (by decide +kernel) rfl
theorem bw_377 : (Cond.instanceMethod yX6_waits : Cond) ∈ xg_big := xb_mem 377 (by decide +kernel) rfl
theorem bw_378 : (Cond.selects RX6 yX6_waits yX6_waits : Cond) ∈ xg_big := xb_mem 378 (by decide +kernel) rfl
theorem bw_379 : (Cond.code yX6_waits cX6_waits 4 (some .boolean) : Cond) ∈ xg_big := xb_mem 379 (by decide +kernel) rfl
theorem bw_393 : (Cond.methodLink RL 28 yX6_line : Cond) ∈ xg_big := xb_mem 393 (by decide +kernel) rfl
theorem bw_394 : (Cond.instanceMethod yX6_line : Cond) ∈ xg_big := xb_mem 394 (by decide +kernel) rfl
theorem bw_395 : (Cond.selects RX6 yX6_line yX6_line : Cond) ∈ xg_big := xb_mem 395 (by decide +kernel) rfl
theorem bw_396 : (Cond.code yX6_line cX6_line 10 (some .int) : Cond) ∈ xg_big := xb_mem 396 (by decide +kernel) rfl
theorem bw_416 : (Cond.methodLink RL 33 yX6_strike : Cond) ∈ xg_big := xb_mem 416 (by decide +kernel) rfl
theorem bw_417 : (Cond.instanceMethod yX6_strike : Cond) ∈ xg_big := xb_mem 417 (by decide +kernel) rfl
theorem bw_418 : (Cond.selects RX6 yX6_strike yX6_strike : Cond) ∈ xg_big := xb_mem 418 (by decide +kernel) rfl
theorem bw_419 : (Cond.code yX6_strike cX6_strike 2 (some .boolean) : Cond) ∈ xg_big := xb_mem 419 (by decide +kernel) rfl
theorem bw_424 : (Cond.methodLink RL 38 yX6_delay : Cond) ∈ xg_big := xb_mem 424 (by decide +kernel) rfl
theorem bw_425 : (Cond.instanceMethod yX6_delay : Cond) ∈ xg_big := xb_mem 425 (by decide +kernel) rfl
theorem bw_426 : (Cond.selects RX6 yX6_delay yX6_delay : Cond) ∈ xg_big := xb_mem 426 (by decide +kernel) rfl
theorem bw_427 : (Cond.code yX6_delay cX6_delay 4 (some .boolean) : Cond) ∈ xg_big := xb_mem 427 (by decide +kernel) rfl
theorem bw_428 : (Cond.methodLink RL 42 yX6_close : Cond) ∈ xg_big := xb_mem 428 (by decide +kernel) rfl
theorem bw_429 : (Cond.instanceMethod yX6_close : Cond) ∈ xg_big := xb_mem 429 (by decide +kernel) rfl
theorem bw_430 : (Cond.selects RX6 yX6_close yX6_close : Cond) ∈ xg_big := xb_mem 430 (by decide +kernel) rfl
theorem bw_431 : (Cond.code yX6_close cX6_close 4 (some .boolean) : Cond) ∈ xg_big := xb_mem 431 (by decide +kernel) rfl
theorem bw_435 : (Cond.methodLink RL 46 yX6_changes : Cond) ∈ xg_big := xb_mem 435 (by decide +kernel) rfl
theorem bw_436 : (Cond.instanceMethod yX6_changes : Cond) ∈ xg_big := xb_mem 436 (by decide +kernel) rfl
theorem bw_437 : (Cond.selects RX6 yX6_changes yX6_changes : Cond) ∈ xg_big := xb_mem 437 (by decide +kernel) rfl
theorem bw_438 : (Cond.code yX6_changes cX6_changes 1 (some .int) : Cond) ∈ xg_big := xb_mem 438 (by decide +kernel) rfl
theorem bw_439 : (Cond.methodLink RL 50 yX6_undo : Cond) ∈ xg_big := xb_mem 439 (by decide +kernel) rfl
theorem bw_440 : (Cond.instanceMethod yX6_undo : Cond) ∈ xg_big := xb_mem 440 (by decide +kernel) rfl
theorem bw_441 : (Cond.selects RX6 yX6_undo yX6_undo : Cond) ∈ xg_big := xb_mem 441 (by decide +kernel) rfl
theorem bw_442 : (Cond.code yX6_undo cX6_undo 3 (some .boolean) : Cond) ∈ xg_big := xb_mem 442 (by decide +kernel) rfl
theorem bw_455 : (Cond.methodLink RL 55 yX6_told : Cond) ∈ xg_big := xb_mem 455 (by decide +kernel) rfl
theorem bw_456 : (Cond.instanceMethod yX6_told : Cond) ∈ xg_big := xb_mem 456 (by decide +kernel) rfl
theorem bw_457 : (Cond.selects RX6 yX6_told yX6_told : Cond) ∈ xg_big := xb_mem 457 (by decide +kernel) rfl
theorem bw_458 : (Cond.code yX6_told cX6_told 3 (some .int) : Cond) ∈ xg_big := xb_mem 458 (by decide +kernel) rfl
theorem bw_463 : (Cond.methodLink RL 59 yX6_run : Cond) ∈ xg_big := xb_mem 463 (by decide +kernel) rfl
theorem bw_464 : (Cond.instanceMethod yX6_run : Cond) ∈ xg_big := xb_mem 464 (by decide +kernel) rfl
theorem bw_465 : (Cond.selects RX6 yX6_run yX6_run : Cond) ∈ xg_big := xb_mem 465 (by decide +kernel) rfl
theorem bw_466 : (Cond.code yX6_run cX6_run 5 (some .int) : Cond) ∈ xg_big := xb_mem 466 (by decide +kernel) rfl
theorem bw_526 : (Cond.methodLink RL 64 yX6_first : Cond) ∈ xg_big := xb_mem 526 (by decide +kernel) rfl
theorem bw_527 : (Cond.instanceMethod yX6_first : Cond) ∈ xg_big := xb_mem 527 (by decide +kernel) rfl
theorem bw_528 : (Cond.selects RX6 yX6_first yX6_first : Cond) ∈ xg_big := xb_mem 528 (by decide +kernel) rfl
theorem bw_529 : (Cond.code yX6_first cX6_first 6 (some .int) : Cond) ∈ xg_big := xb_mem 529 (by decide +kernel) rfl
theorem bw_594 : (Cond.methodLink RL 68 yX6_last : Cond) ∈ xg_big := xb_mem 594 (by decide +kernel) rfl
theorem bw_595 : (Cond.instanceMethod yX6_last : Cond) ∈ xg_big := xb_mem 595 (by decide +kernel) rfl
theorem bw_596 : (Cond.selects RX6 yX6_last yX6_last : Cond) ∈ xg_big := xb_mem 596 (by decide +kernel) rfl
theorem bw_597 : (Cond.code yX6_last cX6_last 6 (some .int) : Cond) ∈ xg_big := xb_mem 597 (by decide +kernel) rfl
theorem bw_609 : (Cond.methodLink RL 72 yX6_quickest : Cond) ∈ xg_big := xb_mem 609 (by decide +kernel) rfl
theorem bw_610 : (Cond.instanceMethod yX6_quickest : Cond) ∈ xg_big := xb_mem 610 (by decide +kernel) rfl
theorem bw_611 : (Cond.selects RX6 yX6_quickest yX6_quickest : Cond) ∈ xg_big := xb_mem 611 (by decide +kernel) rfl
theorem bw_612 : (Cond.code yX6_quickest cX6_quickest 7 (some .int) : Cond) ∈ xg_big := xb_mem 612 (by decide +kernel) rfl
theorem bw_617 : (Cond.methodLink RL 77 yX6_fewest : Cond) ∈ xg_big := xb_mem 617 (by decide +kernel) rfl
theorem bw_618 : (Cond.instanceMethod yX6_fewest : Cond) ∈ xg_big := xb_mem 618 (by decide +kernel) rfl
theorem bw_619 : (Cond.selects RX6 yX6_fewest yX6_fewest : Cond) ∈ xg_big := xb_mem 619 (by decide +kernel) rfl
theorem bw_620 : (Cond.code yX6_fewest cX6_fewest 7 (some .int) : Cond) ∈ xg_big := xb_mem 620 (by decide +kernel) rfl
theorem bw_625 : (Cond.methodLink RL 81 yX6_way : Cond) ∈ xg_big := xb_mem 625 (by decide +kernel) rfl
theorem bw_626 : (Cond.instanceMethod yX6_way : Cond) ∈ xg_big := xb_mem 626 (by decide +kernel) rfl
theorem bw_627 : (Cond.selects RX6 yX6_way yX6_way : Cond) ∈ xg_big := xb_mem 627 (by decide +kernel) rfl
theorem bw_628 : (Cond.code yX6_way cX6_way 7 (some .int) : Cond) ∈ xg_big := xb_mem 628 (by decide +kernel) rfl
theorem bw_651 : (Cond.methodLink RL 85 yX6_out : Cond) ∈ xg_big := xb_mem 651 (by decide +kernel) rfl
theorem bw_652 : (Cond.instanceMethod yX6_out : Cond) ∈ xg_big := xb_mem 652 (by decide +kernel) rfl
theorem bw_653 : (Cond.selects RX6 yX6_out yX6_out : Cond) ∈ xg_big := xb_mem 653 (by decide +kernel) rfl
theorem bw_654 : (Cond.code yX6_out cX6_out 2 (some .int) : Cond) ∈ xg_big := xb_mem 654 (by decide +kernel) rfl
theorem bw_655 : (Cond.methodLink RL 90 yX6_pairs : Cond) ∈ xg_big := xb_mem 655 (by decide +kernel) rfl
theorem bw_656 : (Cond.instanceMethod yX6_pairs : Cond) ∈ xg_big := xb_mem 656 (by decide +kernel) rfl
theorem bw_657 : (Cond.selects RX6 yX6_pairs yX6_pairs : Cond) ∈ xg_big := xb_mem 657 (by decide +kernel) rfl
theorem bw_658 : (Cond.code yX6_pairs cX6_pairs 5 (some .int) : Cond) ∈ xg_big := xb_mem 658 (by decide +kernel) rfl
theorem bw_667 : (Cond.methodLink RL 95 yX6_pair : Cond) ∈ xg_big := xb_mem 667 (by decide +kernel) rfl
theorem bw_668 : (Cond.instanceMethod yX6_pair : Cond) ∈ xg_big := xb_mem 668 (by decide +kernel) rfl
theorem bw_669 : (Cond.selects RX6 yX6_pair yX6_pair : Cond) ∈ xg_big := xb_mem 669 (by decide +kernel) rfl
theorem bw_670 : (Cond.code yX6_pair cX6_pair 7 (some .int) : Cond) ∈ xg_big := xb_mem 670 (by decide +kernel) rfl
theorem bw_676 : (Cond.methodLink RL 100 yX6_reached : Cond) ∈ xg_big := xb_mem 676 (by decide +kernel) rfl
theorem bw_677 : (Cond.instanceMethod yX6_reached : Cond) ∈ xg_big := xb_mem 677 (by decide +kernel) rfl
theorem bw_678 : (Cond.selects RX6 yX6_reached yX6_reached : Cond) ∈ xg_big := xb_mem 678 (by decide +kernel) rfl
theorem bw_679 : (Cond.code yX6_reached cX6_reached 8 (some .int) : Cond) ∈ xg_big := xb_mem 679 (by decide +kernel) rfl
theorem bw_688 : (Cond.methodLink RL 104 yX6_isReached : Cond) ∈ xg_big := xb_mem 688 (by decide +kernel) rfl
theorem bw_689 : (Cond.instanceMethod yX6_isReached : Cond) ∈ xg_big := xb_mem 689 (by decide +kernel) rfl
theorem bw_690 : (Cond.selects RX6 yX6_isReached yX6_isReached : Cond) ∈ xg_big := xb_mem 690 (by decide +kernel) rfl
theorem bw_691 : (Cond.code yX6_isReached cX6_isReached 7 (some .int) : Cond) ∈ xg_big := xb_mem 691 (by decide +kernel) rfl
theorem bw_692 : (Cond.methodLink RL 108 yX6_without : Cond) ∈ xg_big := xb_mem 692 (by decide +kernel) rfl
theorem bw_693 : (Cond.instanceMethod yX6_without : Cond) ∈ xg_big := xb_mem 693 (by decide +kernel) rfl
theorem bw_694 : (Cond.selects RX6 yX6_without yX6_without : Cond) ∈ xg_big := xb_mem 694 (by decide +kernel) rfl
theorem bw_695 : (Cond.code yX6_without cX6_without 6 (some .int) : Cond) ∈ xg_big := xb_mem 695 (by decide +kernel) rfl
theorem bw_700 : (Cond.methodLink RL 112 yX6_weakest : Cond) ∈ xg_big := xb_mem 700 (by decide +kernel) rfl
theorem bw_701 : (Cond.instanceMethod yX6_weakest : Cond) ∈ xg_big := xb_mem 701 (by decide +kernel) rfl
theorem bw_702 : (Cond.selects RX6 yX6_weakest yX6_weakest : Cond) ∈ xg_big := xb_mem 702 (by decide +kernel) rfl
theorem bw_703 : (Cond.code yX6_weakest cX6_weakest 10 (some .int) : Cond) ∈ xg_big := xb_mem 703 (by decide +kernel) rfl
theorem bw_708 : (Cond.methodLink RL 116 yX6_stand : Cond) ∈ xg_big := xb_mem 708 (by decide +kernel) rfl
theorem bw_709 : (Cond.instanceMethod yX6_stand : Cond) ∈ xg_big := xb_mem 709 (by decide +kernel) rfl
theorem bw_710 : (Cond.selects RX6 yX6_stand yX6_stand : Cond) ∈ xg_big := xb_mem 710 (by decide +kernel) rfl
theorem bw_711 : (Cond.code yX6_stand cX6_stand 2 (some .int) : Cond) ∈ xg_big := xb_mem 711 (by decide +kernel) rfl
theorem bw_712 : (Cond.classLink RL 10 RX7 : Cond) ∈ xg_big := xb_mem 712 (by decide +kernel) rfl
theorem bw_713 : (Cond.instantiable RX7 36 : Cond) ∈ xg_big := xb_mem 713 (by decide +kernel) rfl
theorem bw_714 : (Cond.methodLink RL 12 yX7_init : Cond) ∈ xg_big := xb_mem 714 (by decide +kernel) rfl
theorem bw_715 : (Cond.instanceMethod yX7_init : Cond) ∈ xg_big := xb_mem 715 (by decide +kernel) rfl
theorem bw_716 : (Cond.code yX7_init cX7_init 1 none : Cond) ∈ xg_big := xb_mem 716 (by decide +kernel) rfl
theorem bw_827 : (Cond.methodLink RL 17 yX7_status : Cond) ∈ xg_big := xb_mem 827 (by decide +kernel) rfl
theorem bw_828 : (Cond.instanceMethod yX7_status : Cond) ∈ xg_big := xb_mem 828 (by decide +kernel) rfl
theorem bw_829 : (Cond.selects RX7 yX7_status yX7_status : Cond) ∈ xg_big := xb_mem 829 (by decide +kernel) rfl
theorem bw_830 : (Cond.code yX7_status cX7_status 1 (some .int) : Cond) ∈ xg_big := xb_mem 830 (by decide +kernel) rfl
theorem bw_831 : (Cond.methodLink RL 22 yX7_node : Cond) ∈ xg_big := xb_mem 831 (by decide +kernel) rfl
theorem bw_832 : (Cond.instanceMethod yX7_node : Cond) ∈ xg_big := xb_mem 832 (by decide +kernel) rfl
theorem bw_833 : (Cond.selects RX7 yX7_node yX7_node : Cond) ∈ xg_big := xb_mem 833 (by decide +kernel) rfl
theorem bw_834 : (Cond.code yX7_node cX7_node 3 (some .int) : Cond) ∈ xg_big := xb_mem 834 (by decide +kernel) rfl
theorem bw_842 : (Cond.methodLink RL 27 yX7_waits : Cond) ∈ xg_big := xb_mem 842 (by decide +kernel) rfl
theorem bw_843 : (Cond.instanceMethod yX7_waits : Cond) ∈ xg_big := xb_mem 843 (by decide +kernel) rfl
theorem bw_844 : (Cond.selects RX7 yX7_waits yX7_waits : Cond) ∈ xg_big := xb_mem 844 (by decide +kernel) rfl
theorem bw_845 : (Cond.code yX7_waits cX7_waits 4 (some .boolean) : Cond) ∈ xg_big := xb_mem 845 (by decide +kernel) rfl
theorem bw_854 : (Cond.methodLink RL 32 yX7_line : Cond) ∈ xg_big := xb_mem 854 (by decide +kernel) rfl
theorem bw_855 : (Cond.instanceMethod yX7_line : Cond) ∈ xg_big := xb_mem 855 (by decide +kernel) rfl
theorem bw_856 : (Cond.selects RX7 yX7_line yX7_line : Cond) ∈ xg_big := xb_mem 856 (by decide +kernel) rfl
theorem bw_857 : (Cond.code yX7_line cX7_line 9 (some .int) : Cond) ∈ xg_big := xb_mem 857 (by decide +kernel) rfl
theorem bw_865 : (Cond.methodLink RL 37 yX7_strike : Cond) ∈ xg_big := xb_mem 865 (by decide +kernel) rfl
theorem bw_866 : (Cond.instanceMethod yX7_strike : Cond) ∈ xg_big := xb_mem 866 (by decide +kernel) rfl
theorem bw_867 : (Cond.selects RX7 yX7_strike yX7_strike : Cond) ∈ xg_big := xb_mem 867 (by decide +kernel) rfl
theorem bw_868 : (Cond.code yX7_strike cX7_strike 2 (some .boolean) : Cond) ∈ xg_big := xb_mem 868 (by decide +kernel) rfl
theorem bw_877 : (Cond.methodLink RL 41 yX7_delay : Cond) ∈ xg_big := xb_mem 877 (by decide +kernel) rfl
theorem bw_878 : (Cond.instanceMethod yX7_delay : Cond) ∈ xg_big := xb_mem 878 (by decide +kernel) rfl
theorem bw_879 : (Cond.selects RX7 yX7_delay yX7_delay : Cond) ∈ xg_big := xb_mem 879 (by decide +kernel) rfl
theorem bw_880 : (Cond.code yX7_delay cX7_delay 4 (some .boolean) : Cond) ∈ xg_big := xb_mem 880 (by decide +kernel) rfl
theorem bw_881 : (Cond.methodLink RL 45 yX7_close : Cond) ∈ xg_big := xb_mem 881 (by decide +kernel) rfl
theorem bw_882 : (Cond.instanceMethod yX7_close : Cond) ∈ xg_big := xb_mem 882 (by decide +kernel) rfl
theorem bw_883 : (Cond.selects RX7 yX7_close yX7_close : Cond) ∈ xg_big := xb_mem 883 (by decide +kernel) rfl
theorem bw_884 : (Cond.code yX7_close cX7_close 4 (some .boolean) : Cond) ∈ xg_big := xb_mem 884 (by decide +kernel) rfl
theorem bw_885 : (Cond.methodLink RL 49 yX7_changes : Cond) ∈ xg_big := xb_mem 885 (by decide +kernel) rfl
theorem bw_886 : (Cond.instanceMethod yX7_changes : Cond) ∈ xg_big := xb_mem 886 (by decide +kernel) rfl
theorem bw_887 : (Cond.selects RX7 yX7_changes yX7_changes : Cond) ∈ xg_big := xb_mem 887 (by decide +kernel) rfl
theorem bw_888 : (Cond.code yX7_changes cX7_changes 1 (some .int) : Cond) ∈ xg_big := xb_mem 888 (by decide +kernel) rfl
theorem bw_889 : (Cond.methodLink RL 54 yX7_undo : Cond) ∈ xg_big := xb_mem 889 (by decide +kernel) rfl
theorem bw_890 : (Cond.instanceMethod yX7_undo : Cond) ∈ xg_big := xb_mem 890 (by decide +kernel) rfl
theorem bw_891 : (Cond.selects RX7 yX7_undo yX7_undo : Cond) ∈ xg_big := xb_mem 891 (by decide +kernel) rfl
theorem bw_892 : (Cond.code yX7_undo cX7_undo 1 (some .boolean) : Cond) ∈ xg_big := xb_mem 892 (by decide +kernel) rfl
theorem bw_893 : (Cond.methodLink RL 58 yX7_told : Cond) ∈ xg_big := xb_mem 893 (by decide +kernel) rfl
theorem bw_894 : (Cond.instanceMethod yX7_told : Cond) ∈ xg_big := xb_mem 894 (by decide +kernel) rfl
theorem bw_895 : (Cond.selects RX7 yX7_told yX7_told : Cond) ∈ xg_big := xb_mem 895 (by decide +kernel) rfl
theorem bw_896 : (Cond.code yX7_told cX7_told 3 (some .int) : Cond) ∈ xg_big := xb_mem 896 (by decide +kernel) rfl
theorem bw_897 : (Cond.methodLink RL 67 yX7_first : Cond) ∈ xg_big := xb_mem 897 (by decide +kernel) rfl
theorem bw_898 : (Cond.instanceMethod yX7_first : Cond) ∈ xg_big := xb_mem 898 (by decide +kernel) rfl
theorem bw_899 : (Cond.selects RX7 yX7_first yX7_first : Cond) ∈ xg_big := xb_mem 899 (by decide +kernel) rfl
theorem bw_900 : (Cond.code yX7_first cX7_first 5 (some .int) : Cond) ∈ xg_big := xb_mem 900 (by decide +kernel) rfl
theorem bw_944 : (Cond.methodLink RL 71 yX7_last : Cond) ∈ xg_big := xb_mem 944 (by decide +kernel) rfl
theorem bw_945 : (Cond.instanceMethod yX7_last : Cond) ∈ xg_big := xb_mem 945 (by decide +kernel) rfl
theorem bw_946 : (Cond.selects RX7 yX7_last yX7_last : Cond) ∈ xg_big := xb_mem 946 (by decide +kernel) rfl
theorem bw_947 : (Cond.code yX7_last cX7_last 7 (some .int) : Cond) ∈ xg_big := xb_mem 947 (by decide +kernel) rfl
theorem bw_948 : (Cond.methodLink RL 76 yX7_quickest : Cond) ∈ xg_big := xb_mem 948 (by decide +kernel) rfl
theorem bw_949 : (Cond.instanceMethod yX7_quickest : Cond) ∈ xg_big := xb_mem 949 (by decide +kernel) rfl
theorem bw_950 : (Cond.selects RX7 yX7_quickest yX7_quickest : Cond) ∈ xg_big := xb_mem 950 (by decide +kernel) rfl
theorem bw_951 : (Cond.code yX7_quickest cX7_quickest 8 (some .int) : Cond) ∈ xg_big := xb_mem 951 (by decide +kernel) rfl
theorem bw_952 : (Cond.methodLink RL 80 yX7_fewest : Cond) ∈ xg_big := xb_mem 952 (by decide +kernel) rfl
theorem bw_953 : (Cond.instanceMethod yX7_fewest : Cond) ∈ xg_big := xb_mem 953 (by decide +kernel) rfl
theorem bw_954 : (Cond.selects RX7 yX7_fewest yX7_fewest : Cond) ∈ xg_big := xb_mem 954 (by decide +kernel) rfl
theorem bw_955 : (Cond.code yX7_fewest cX7_fewest 8 (some .int) : Cond) ∈ xg_big := xb_mem 955 (by decide +kernel) rfl
theorem bw_956 : (Cond.methodLink RL 84 yX7_way : Cond) ∈ xg_big := xb_mem 956 (by decide +kernel) rfl
theorem bw_957 : (Cond.instanceMethod yX7_way : Cond) ∈ xg_big := xb_mem 957 (by decide +kernel) rfl
theorem bw_958 : (Cond.selects RX7 yX7_way yX7_way : Cond) ∈ xg_big := xb_mem 958 (by decide +kernel) rfl
theorem bw_959 : (Cond.code yX7_way cX7_way 6 (some .int) : Cond) ∈ xg_big := xb_mem 959 (by decide +kernel) rfl
theorem bw_968 : (Cond.methodLink RL 89 yX7_out : Cond) ∈ xg_big := xb_mem 968 (by decide +kernel) rfl
theorem bw_969 : (Cond.instanceMethod yX7_out : Cond) ∈ xg_big := xb_mem 969 (by decide +kernel) rfl
theorem bw_970 : (Cond.selects RX7 yX7_out yX7_out : Cond) ∈ xg_big := xb_mem 970 (by decide +kernel) rfl
theorem bw_971 : (Cond.code yX7_out cX7_out 2 (some .int) : Cond) ∈ xg_big := xb_mem 971 (by decide +kernel) rfl
theorem bw_972 : (Cond.methodLink RL 94 yX7_pairs : Cond) ∈ xg_big := xb_mem 972 (by decide +kernel) rfl
theorem bw_973 : (Cond.instanceMethod yX7_pairs : Cond) ∈ xg_big := xb_mem 973 (by decide +kernel) rfl
theorem bw_974 : (Cond.selects RX7 yX7_pairs yX7_pairs : Cond) ∈ xg_big := xb_mem 974 (by decide +kernel) rfl
theorem bw_975 : (Cond.code yX7_pairs cX7_pairs 4 (some .int) : Cond) ∈ xg_big := xb_mem 975 (by decide +kernel) rfl
theorem bw_980 : (Cond.methodLink RL 99 yX7_pair : Cond) ∈ xg_big := xb_mem 980 (by decide +kernel) rfl
theorem bw_981 : (Cond.instanceMethod yX7_pair : Cond) ∈ xg_big := xb_mem 981 (by decide +kernel) rfl
theorem bw_982 : (Cond.selects RX7 yX7_pair yX7_pair : Cond) ∈ xg_big := xb_mem 982 (by decide +kernel) rfl
theorem bw_983 : (Cond.code yX7_pair cX7_pair 6 (some .int) : Cond) ∈ xg_big := xb_mem 983 (by decide +kernel) rfl
theorem bw_984 : (Cond.methodLink RL 103 yX7_reached : Cond) ∈ xg_big := xb_mem 984 (by decide +kernel) rfl
theorem bw_985 : (Cond.instanceMethod yX7_reached : Cond) ∈ xg_big := xb_mem 985 (by decide +kernel) rfl
theorem bw_986 : (Cond.selects RX7 yX7_reached yX7_reached : Cond) ∈ xg_big := xb_mem 986 (by decide +kernel) rfl
theorem bw_987 : (Cond.code yX7_reached cX7_reached 7 (some .int) : Cond) ∈ xg_big := xb_mem 987 (by decide +kernel) rfl
theorem bw_996 : (Cond.methodLink RL 107 yX7_isReached : Cond) ∈ xg_big := xb_mem 996 (by decide +kernel) rfl
theorem bw_997 : (Cond.instanceMethod yX7_isReached : Cond) ∈ xg_big := xb_mem 997 (by decide +kernel) rfl
theorem bw_998 : (Cond.selects RX7 yX7_isReached yX7_isReached : Cond) ∈ xg_big := xb_mem 998 (by decide +kernel) rfl
theorem bw_999 : (Cond.code yX7_isReached cX7_isReached 6 (some .int) : Cond) ∈ xg_big := xb_mem 999 (by decide +kernel) rfl
theorem bw_1000 : (Cond.methodLink RL 111 yX7_without : Cond) ∈ xg_big := xb_mem 1000 (by decide +kernel) rfl
theorem bw_1001 : (Cond.instanceMethod yX7_without : Cond) ∈ xg_big := xb_mem 1001 (by decide +kernel) rfl
theorem bw_1002 : (Cond.selects RX7 yX7_without yX7_without : Cond) ∈ xg_big := xb_mem 1002 (by decide +kernel) rfl
theorem bw_1003 : (Cond.code yX7_without cX7_without 5 (some .int) : Cond) ∈ xg_big := xb_mem 1003 (by decide +kernel) rfl
theorem bw_1004 : (Cond.methodLink RL 115 yX7_weakest : Cond) ∈ xg_big := xb_mem 1004 (by decide +kernel) rfl
theorem bw_1005 : (Cond.instanceMethod yX7_weakest : Cond) ∈ xg_big := xb_mem 1005 (by decide +kernel) rfl
theorem bw_1006 : (Cond.selects RX7 yX7_weakest yX7_weakest : Cond) ∈ xg_big := xb_mem 1006 (by decide +kernel) rfl
theorem bw_1007 : (Cond.code yX7_weakest cX7_weakest 9 (some .int) : Cond) ∈ xg_big := xb_mem 1007 (by decide +kernel) rfl
theorem bw_1008 : (Cond.methodLink RL 63 yX7_run : Cond) ∈ xg_big := xb_mem 1008 (by decide +kernel) rfl
theorem bw_1009 : (Cond.instanceMethod yX7_run : Cond) ∈ xg_big := xb_mem 1009 (by decide +kernel) rfl
theorem bw_1010 : (Cond.selects RX7 yX7_run yX7_run : Cond) ∈ xg_big := xb_mem 1010 (by decide +kernel) rfl
theorem bw_1011 : (Cond.code yX7_run cX7_run 6 (some .int) : Cond) ∈ xg_big := xb_mem 1011 (by decide +kernel) rfl
theorem bw_1012 : (Cond.methodLink RL 119 yX7_stand : Cond) ∈ xg_big := xb_mem 1012 (by decide +kernel) rfl
theorem bw_1013 : (Cond.instanceMethod yX7_stand : Cond) ∈ xg_big := xb_mem 1013 (by decide +kernel) rfl
theorem bw_1014 : (Cond.selects RX7 yX7_stand yX7_stand : Cond) ∈ xg_big := xb_mem 1014 (by decide +kernel) rfl
theorem bw_1015 : (Cond.code yX7_stand cX7_stand 2 (some .int) : Cond) ∈ xg_big := xb_mem 1015 (by decide +kernel) rfl
def lcx (D : va_G) (T : ClassId × ClassId) (a q : Nat → Nat) (A : Nat → Prop) (b L : Nat) (xs : Nat → Int32) (p : Program) (s : State) (m : MethodId) (meth : Method) (c : Code) : Prop :=
  xcx RL code 4 D T (xW T a) A p s m #[Value.ref b] meth c ∧ xcx RL code 4 D T (yW T q) A p s m #[Value.ref b] meth c ∧ (∀ (x y : XS) (i j : Nat) (u v : Nat × va_E), (xW T a x)[i]? = some u → (yW T q y)[j]? = some v → u.1 ≠ v.1) ∧ va_X b L xs s s.heap ∧ b < s.heap.size ∧ ¬ A b
def lmm (D : va_G) (T : ClassId × ClassId) (a q : Nat → Nat) (A : Nat → Prop) (s : State) (H : Heap) (locs : List Loc) (x y : XS) : Prop := va_P D vwCl (xW T a x) H ∧ va_P D vwCl (yW T q y) H ∧ va_S A s.heap H locs
def stepOK (Inv : XS → XS → Prop) (fx fy : XS → XR) : Prop := ∀ x y, Inv x y → ∃ (r : Int) (x' y' : XS), fx x = some (r, x') ∧ fy y = some (r, y') ∧ Inv x' y'
theorem l_in {i k L : Nat} {x3 : Int32} (e3 : x3 = nI i) (h : i + k < L) (hL : L ≤ 4096) : vp_in (x3 + nI k) L := by rw [e3, nI_add]; exact vp_in_nI h (by omega)
section LB
variable {D : va_G} {T : ClassId × ClassId} {a q : Nat → Nat} {A : Nat → Prop} {b L : Nat} {xs : Nat → Int32} {own : String} {cc : ByteArray} {nL : Nat} {w : XS → va_W} {p : Program} {l : Launch} {e : Env} {R : Room} {s : State} {m : MethodId} {args : Array Value} {below : List Frame} {meth : Method} {c : Code} {H : Heap} {locs : List Loc} {Q : State → Prop} {x y x1 : XS} {pc : Nat} {ls : Array Slot} {rest : List Value} {cells slots : Nat}
theorem l_sld (K : lcx D T a q A b L xs p s m meth c) (M : lmm D T a q A s H locs x y) {i : Int32} {v : Int} (hin : vp_in i L) (hv : xs i.toNatClampNeg = oI v) (hdg : decode code pc = .ok (.iaload, 1)) (kk : W p l e R s m #[Value.ref b] below meth c H locs cells slots Q (F0 m (pc + 1) ls (.int (oI v) :: rest))) : W p l e R s m #[Value.ref b] below meth c H locs cells slots Q (F0 m pc ls (.int i :: .ref b :: rest)) := by
  rw [← hv] at kk
  exact va_sld K.1.1 K.1.2.1 K.2.2.2.1 K.2.2.2.2.1 K.2.2.2.2.2 M.2.2 hin hdg kk
theorem l_slen (K : lcx D T a q A b L xs p s m meth c) (M : lmm D T a q A s H locs x y) (hdg : decode code pc = .ok (.arraylength, 1)) (kk : W p l e R s m #[Value.ref b] below meth c H locs cells slots Q (F0 m (pc + 1) ls (.int (Int32.ofNat L) :: rest))) : W p l e R s m #[Value.ref b] below meth c H locs cells slots Q (F0 m pc ls (.ref b :: rest)) :=
  va_slen K.1.1 K.1.2.1 K.2.2.2.1 K.2.2.2.2.1 K.2.2.2.2.2 M.2.2 hdg kk
theorem l_callI {w2 : va_W} {yy : MethodName} {cy : ByteArray} {mLy index n : Nat} {rt : FieldType} {rm : Room} {st : List Value} {As : List Value} {ad ci N : Nat} {Cn : String} {Tn : u_T} {fs : List Value} {r : Int} (C : xcx own cc nL D T w A p s m args meth c) (M : xmm D w A s H locs x) (hap : ∀ (i j : Nat) (u v : Nat × va_E), (w x)[i]? = some u → w2[j]? = some v → u.1 ≠ v.1) (hP2 : va_P D vwCl w2 H) (hM : ∀ sz, xMetI l yy cy mLy rt rm D T w sz (.ref ad :: As) x (r, x1)) (hcode : Cond.code yy cy mLy (some rt) ∈ xg_big) (hlink : Cond.methodLink own index yy ∈ xg_big) (hinst : Cond.instanceMethod yy ∈ xg_big) (hsel : Cond.selects Cn yy yy ∈ xg_big) (hini : Cond.initialized yy.cls ∈ xg_big) (hnn : As.length = n) (hd : yy.cls ≠ "java/lang/invoke/MethodHandle" ∧ yy.cls ≠ "java/lang/invoke/VarHandle" ∧ (parseMethodDescriptor yy.desc).map (fun d => d.parameters.length) = some n) (q0 : Nat) (he : (w x)[q0]? = some (ad, .inr (ci, fs))) (hc : vwCl[ci]? = some (Cn, Tn, N)) (hrm : rm.cells = 0 ∧ rm.slots = 0) (hR : rm.frames + 1 ≤ R.frames ∧ 8 + (mLy + 11) + rm.locals ≤ R.locals) (hsz : ls.size = nL) (hst : st = As.reverse ++ .ref ad :: rest) (hrest : (rest.map fun v => v.category).sum ≤ 8) (hf : cells ≤ R.cells ∧ slots ≤ R.slots) (hdg : decode cc pc = .ok (.invokevirtual index, 3))
    (kk : ∀ (H1 : Heap) (locs1 : List Loc), va_P D vwCl (w x1) H1 → va_P D vwCl w2 H1 → va_S A s.heap H1 locs1 → W p l e R s m args below meth c H1 locs1 cells slots Q (F0 m (pc + 3) ls (.int (oI r) :: rest))) : W p l e R s m args below meth c H locs cells slots Q (F0 m pc ls st) := by
  refine va_calli (va_runV (As := As) (rest := rest) (xb_fix C) (hM H.size) ⟨xb_callB C hcode hlink hini hd hrm hR, C.2.2.2.2.1 _ hinst, C.2.2.2.2.1 _ hsel⟩ ⟨xb_blind, va_recv C.2.2.2.2.2.2.1 M.1 hc he, xb_pre C M _⟩ rfl hnn hsz hst (lv_room hrest) hdg hf) M.2 (fun q _ h => xb_fre C M q h) (xb_fre C M) (fun r2 u t H1 locs1 ht hvm hw hB hz1 hk1 hS => ?_)
  rw [ht] at hB
  obtain ⟨r0, hw0, hw1, hw2⟩ := hw
  obtain ⟨rfl, rfl⟩ := Prod.mk.inj hw1
  subst hw0
  refine kk H1 locs1 hB (hP2.kept (fun k v hv => hk1 v.1 (hP2 k v hv).lt (fun h => ?_))) hS
  rcases h with ⟨k2, e2, h⟩ | h
  · exact hap k2 k (v.1, e2) v h hv rfl
  · exact absurd (hP2 k v hv).lt (Nat.not_lt.mpr h)
end LB
