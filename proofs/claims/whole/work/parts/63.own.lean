set_option maxRecDepth 100000
theorem own_st {ad : (Nat → Nat) × (Nat → Nat)} {b0 : Nat} {s : State} {args : Array Value} (h : zG ad b0 s) (hts : ∀ w ∈ zTs, w.before args s = true) : ∀ a ∈ Bundle.ownAtoms "CheckRules" 62 "java/lang/IllegalStateException" ["java/lang/RuntimeException", "java/lang/Exception"], a.before args s = true := by
  refine List.forall_mem_cons.mpr ⟨hts _ (zT_in 71 (by decide +kernel) rfl), ?_⟩
  refine List.forall_mem_cons.mpr ⟨hts _ (zT_in 458 (by decide +kernel) rfl), ?_⟩
  refine List.forall_mem_cons.mpr ⟨hts _ (zT_in 467 (by decide +kernel) rfl), ?_⟩
  refine List.forall_mem_cons.mpr ⟨hts _ (zT_in 471 (by decide +kernel) rfl), ?_⟩
  refine List.forall_mem_cons.mpr ⟨hts _ (zT_in 474 (by decide +kernel) rfl), ?_⟩
  refine List.forall_mem_cons.mpr ⟨hts _ (zT_in 476 (by decide +kernel) rfl), ?_⟩
  refine List.forall_mem_cons.mpr ⟨hts _ (zT_in 459 (by decide +kernel) rfl), ?_⟩
  refine List.forall_mem_cons.mpr ⟨hts _ (zT_in 460 (by decide +kernel) rfl), ?_⟩
  refine List.forall_mem_cons.mpr ⟨hts _ (zT_in 91 (by decide +kernel) rfl), ?_⟩
  refine List.forall_mem_cons.mpr ⟨hts _ (zT_in 92 (by decide +kernel) rfl), ?_⟩
  refine List.forall_mem_cons.mpr ⟨hts _ (zT_in 461 (by decide +kernel) rfl), ?_⟩
  refine List.forall_mem_cons.mpr ⟨hts _ (zT_in 466 (by decide +kernel) rfl), ?_⟩
  refine List.forall_mem_cons.mpr ⟨hts _ (zT_in 472 (by decide +kernel) rfl), ?_⟩
  refine List.forall_mem_cons.mpr ⟨hts _ (zT_in 492 (by decide +kernel) rfl), ?_⟩
  refine List.forall_mem_cons.mpr ⟨hts _ (zT_in 448 (by decide +kernel) rfl), ?_⟩
  refine List.forall_mem_cons.mpr ⟨hts _ (zT_in 493 (by decide +kernel) rfl), ?_⟩
  refine List.forall_mem_cons.mpr ⟨hts _ (zT_in 450 (by decide +kernel) rfl), ?_⟩
  refine List.forall_mem_cons.mpr ⟨hts _ (zT_in 494 (by decide +kernel) rfl), ?_⟩
  refine List.forall_mem_cons.mpr ⟨hts _ (zT_in 452 (by decide +kernel) rfl), ?_⟩
  refine List.forall_mem_cons.mpr ⟨hts _ (zT_in 462 (by decide +kernel) rfl), ?_⟩
  refine List.forall_mem_cons.mpr ⟨h.2.2.2.2.2.1.lay, ?_⟩
  refine List.forall_mem_cons.mpr ⟨hts _ (zT_in 464 (by decide +kernel) rfl), ?_⟩
  refine List.forall_mem_cons.mpr ⟨h.2.2.2.2.2.2.1.lay, ?_⟩
  refine List.forall_mem_cons.mpr ⟨hts _ (zT_in 454 (by decide +kernel) rfl), ?_⟩
  refine List.forall_mem_cons.mpr ⟨hts _ (zT_in 488 (by decide +kernel) rfl), ?_⟩
  refine List.forall_mem_cons.mpr ⟨hts _ (zT_in 489 (by decide +kernel) rfl), ?_⟩
  refine List.forall_mem_cons.mpr ⟨hts _ (zT_in 491 (by decide +kernel) rfl), ?_⟩
  refine List.forall_mem_cons.mpr ⟨hts _ (zT_in 454 (by decide +kernel) rfl), ?_⟩
  refine List.forall_mem_cons.mpr ⟨hts _ (zT_in 479 (by decide +kernel) rfl), ?_⟩
  refine List.forall_mem_cons.mpr ⟨hts _ (zT_in 480 (by decide +kernel) rfl), ?_⟩
  refine List.forall_mem_cons.mpr ⟨hts _ (zT_in 481 (by decide +kernel) rfl), ?_⟩
  refine List.forall_mem_cons.mpr ⟨hts _ (zT_in 482 (by decide +kernel) rfl), ?_⟩
  refine List.forall_mem_cons.mpr ⟨va_Nw.use rfl (zG_n h ns_21), ?_⟩
  refine List.forall_mem_cons.mpr ⟨hts _ (zT_in 482 (by decide +kernel) rfl), ?_⟩
  refine List.forall_mem_cons.mpr ⟨hts _ (zT_in 483 (by decide +kernel) rfl), ?_⟩
  refine List.forall_mem_cons.mpr ⟨hts _ (zT_in 484 (by decide +kernel) rfl), ?_⟩
  refine List.forall_mem_cons.mpr ⟨hts _ (zT_in 485 (by decide +kernel) rfl), ?_⟩
  refine List.forall_mem_cons.mpr ⟨va_Nw.use rfl (zG_n h ns_23), ?_⟩
  refine List.forall_mem_cons.mpr ⟨hts _ (zT_in 485 (by decide +kernel) rfl), ?_⟩
  refine List.forall_mem_cons.mpr ⟨hts _ (zT_in 486 (by decide +kernel) rfl), ?_⟩
  refine List.forall_mem_cons.mpr ⟨hts _ (zT_in 487 (by decide +kernel) rfl), ?_⟩
  refine List.forall_mem_cons.mpr ⟨hts _ (zT_in 488 (by decide +kernel) rfl), ?_⟩
  refine List.forall_mem_cons.mpr ⟨va_Nw.use rfl (zG_n h ns_25), ?_⟩
  refine List.forall_mem_cons.mpr ⟨hts _ (zT_in 478 (by decide +kernel) rfl), ?_⟩
  refine List.forall_mem_cons.mpr ⟨hts _ (zT_in 437 (by decide +kernel) rfl), ?_⟩
  refine List.forall_mem_cons.mpr ⟨va_Nw.use rfl (zG_n h ns_16), ?_⟩
  refine List.forall_mem_cons.mpr ⟨hts _ (zT_in 445 (by decide +kernel) rfl), ?_⟩
  refine List.forall_mem_cons.mpr ⟨hts _ (zT_in 446 (by decide +kernel) rfl), ?_⟩
  refine List.forall_mem_cons.mpr ⟨hts _ (zT_in 447 (by decide +kernel) rfl), ?_⟩
  refine List.forall_mem_cons.mpr ⟨hts _ (zT_in 449 (by decide +kernel) rfl), ?_⟩
  refine List.forall_mem_cons.mpr ⟨hts _ (zT_in 451 (by decide +kernel) rfl), ?_⟩
  refine List.forall_mem_cons.mpr ⟨hts _ (zT_in 453 (by decide +kernel) rfl), ?_⟩
  refine List.forall_mem_cons.mpr ⟨h.2.2.2.2.2.1.ref, ?_⟩
  refine List.forall_mem_cons.mpr ⟨h.2.2.2.2.2.2.1.ref, ?_⟩
  refine List.forall_mem_cons.mpr ⟨hts _ (zT_in 457 (by decide +kernel) rfl), ?_⟩
  refine List.forall_mem_cons.mpr ⟨hts _ (zT_in 456 (by decide +kernel) rfl), ?_⟩
  refine List.forall_mem_cons.mpr ⟨hts _ (zT_in 455 (by decide +kernel) rfl), ?_⟩
  exact fun _ h => absurd h List.not_mem_nil
theorem own_ar {ad : (Nat → Nat) × (Nat → Nat)} {b0 : Nat} {s : State} {args : Array Value} (h : zG ad b0 s) (hts : ∀ w ∈ zTs, w.before args s = true) : ∀ a ∈ Bundle.ownAtoms "CheckRules" 125 "java/lang/IllegalArgumentException" ["java/lang/RuntimeException", "java/lang/Exception"], a.before args s = true := by
  refine List.forall_mem_cons.mpr ⟨hts _ (zT_in 71 (by decide +kernel) rfl), ?_⟩
  refine List.forall_mem_cons.mpr ⟨hts _ (zT_in 458 (by decide +kernel) rfl), ?_⟩
  refine List.forall_mem_cons.mpr ⟨hts _ (zT_in 467 (by decide +kernel) rfl), ?_⟩
  refine List.forall_mem_cons.mpr ⟨hts _ (zT_in 471 (by decide +kernel) rfl), ?_⟩
  refine List.forall_mem_cons.mpr ⟨hts _ (zT_in 474 (by decide +kernel) rfl), ?_⟩
  refine List.forall_mem_cons.mpr ⟨hts _ (zT_in 476 (by decide +kernel) rfl), ?_⟩
  refine List.forall_mem_cons.mpr ⟨hts _ (zT_in 459 (by decide +kernel) rfl), ?_⟩
  refine List.forall_mem_cons.mpr ⟨hts _ (zT_in 460 (by decide +kernel) rfl), ?_⟩
  refine List.forall_mem_cons.mpr ⟨hts _ (zT_in 91 (by decide +kernel) rfl), ?_⟩
  refine List.forall_mem_cons.mpr ⟨hts _ (zT_in 92 (by decide +kernel) rfl), ?_⟩
  refine List.forall_mem_cons.mpr ⟨hts _ (zT_in 461 (by decide +kernel) rfl), ?_⟩
  refine List.forall_mem_cons.mpr ⟨hts _ (zT_in 466 (by decide +kernel) rfl), ?_⟩
  refine List.forall_mem_cons.mpr ⟨hts _ (zT_in 472 (by decide +kernel) rfl), ?_⟩
  refine List.forall_mem_cons.mpr ⟨hts _ (zT_in 492 (by decide +kernel) rfl), ?_⟩
  refine List.forall_mem_cons.mpr ⟨hts _ (zT_in 448 (by decide +kernel) rfl), ?_⟩
  refine List.forall_mem_cons.mpr ⟨hts _ (zT_in 493 (by decide +kernel) rfl), ?_⟩
  refine List.forall_mem_cons.mpr ⟨hts _ (zT_in 450 (by decide +kernel) rfl), ?_⟩
  refine List.forall_mem_cons.mpr ⟨hts _ (zT_in 494 (by decide +kernel) rfl), ?_⟩
  refine List.forall_mem_cons.mpr ⟨hts _ (zT_in 452 (by decide +kernel) rfl), ?_⟩
  refine List.forall_mem_cons.mpr ⟨hts _ (zT_in 462 (by decide +kernel) rfl), ?_⟩
  refine List.forall_mem_cons.mpr ⟨h.2.2.2.2.2.1.lay, ?_⟩
  refine List.forall_mem_cons.mpr ⟨hts _ (zT_in 464 (by decide +kernel) rfl), ?_⟩
  refine List.forall_mem_cons.mpr ⟨h.2.2.2.2.2.2.1.lay, ?_⟩
  refine List.forall_mem_cons.mpr ⟨hts _ (zT_in 454 (by decide +kernel) rfl), ?_⟩
  refine List.forall_mem_cons.mpr ⟨hts _ (zT_in 488 (by decide +kernel) rfl), ?_⟩
  refine List.forall_mem_cons.mpr ⟨hts _ (zT_in 489 (by decide +kernel) rfl), ?_⟩
  refine List.forall_mem_cons.mpr ⟨hts _ (zT_in 491 (by decide +kernel) rfl), ?_⟩
  refine List.forall_mem_cons.mpr ⟨hts _ (zT_in 454 (by decide +kernel) rfl), ?_⟩
  refine List.forall_mem_cons.mpr ⟨hts _ (zT_in 796 (by decide +kernel) rfl), ?_⟩
  refine List.forall_mem_cons.mpr ⟨hts _ (zT_in 797 (by decide +kernel) rfl), ?_⟩
  refine List.forall_mem_cons.mpr ⟨hts _ (zT_in 798 (by decide +kernel) rfl), ?_⟩
  refine List.forall_mem_cons.mpr ⟨hts _ (zT_in 482 (by decide +kernel) rfl), ?_⟩
  refine List.forall_mem_cons.mpr ⟨va_Nw.use rfl (zG_n h ns_21), ?_⟩
  refine List.forall_mem_cons.mpr ⟨hts _ (zT_in 482 (by decide +kernel) rfl), ?_⟩
  refine List.forall_mem_cons.mpr ⟨hts _ (zT_in 483 (by decide +kernel) rfl), ?_⟩
  refine List.forall_mem_cons.mpr ⟨hts _ (zT_in 484 (by decide +kernel) rfl), ?_⟩
  refine List.forall_mem_cons.mpr ⟨hts _ (zT_in 485 (by decide +kernel) rfl), ?_⟩
  refine List.forall_mem_cons.mpr ⟨va_Nw.use rfl (zG_n h ns_23), ?_⟩
  refine List.forall_mem_cons.mpr ⟨hts _ (zT_in 485 (by decide +kernel) rfl), ?_⟩
  refine List.forall_mem_cons.mpr ⟨hts _ (zT_in 486 (by decide +kernel) rfl), ?_⟩
  refine List.forall_mem_cons.mpr ⟨hts _ (zT_in 487 (by decide +kernel) rfl), ?_⟩
  refine List.forall_mem_cons.mpr ⟨hts _ (zT_in 488 (by decide +kernel) rfl), ?_⟩
  refine List.forall_mem_cons.mpr ⟨va_Nw.use rfl (zG_n h ns_25), ?_⟩
  refine List.forall_mem_cons.mpr ⟨hts _ (zT_in 795 (by decide +kernel) rfl), ?_⟩
  refine List.forall_mem_cons.mpr ⟨hts _ (zT_in 786 (by decide +kernel) rfl), ?_⟩
  refine List.forall_mem_cons.mpr ⟨va_Nw.use rfl (zG_n h ns_18), ?_⟩
  refine List.forall_mem_cons.mpr ⟨hts _ (zT_in 788 (by decide +kernel) rfl), ?_⟩
  refine List.forall_mem_cons.mpr ⟨hts _ (zT_in 469 (by decide +kernel) rfl), ?_⟩
  refine List.forall_mem_cons.mpr ⟨hts _ (zT_in 789 (by decide +kernel) rfl), ?_⟩
  refine List.forall_mem_cons.mpr ⟨hts _ (zT_in 790 (by decide +kernel) rfl), ?_⟩
  refine List.forall_mem_cons.mpr ⟨hts _ (zT_in 791 (by decide +kernel) rfl), ?_⟩
  refine List.forall_mem_cons.mpr ⟨hts _ (zT_in 792 (by decide +kernel) rfl), ?_⟩
  refine List.forall_mem_cons.mpr ⟨h.2.2.2.2.2.1.ref, ?_⟩
  refine List.forall_mem_cons.mpr ⟨h.2.2.2.2.2.2.1.ref, ?_⟩
  refine List.forall_mem_cons.mpr ⟨hts _ (zT_in 457 (by decide +kernel) rfl), ?_⟩
  refine List.forall_mem_cons.mpr ⟨hts _ (zT_in 456 (by decide +kernel) rfl), ?_⟩
  refine List.forall_mem_cons.mpr ⟨hts _ (zT_in 793 (by decide +kernel) rfl), ?_⟩
  exact fun _ h => absurd h List.not_mem_nil
theorem own_ix {ad : (Nat → Nat) × (Nat → Nat)} {b0 : Nat} {s : State} {args : Array Value} (h : zG ad b0 s) (hts : ∀ w ∈ zTs, w.before args s = true) : ∀ a ∈ Bundle.ownAtoms "CheckRules" 157 "java/lang/IndexOutOfBoundsException" ["java/lang/RuntimeException", "java/lang/Exception"], a.before args s = true := by
  refine List.forall_mem_cons.mpr ⟨hts _ (zT_in 71 (by decide +kernel) rfl), ?_⟩
  refine List.forall_mem_cons.mpr ⟨hts _ (zT_in 458 (by decide +kernel) rfl), ?_⟩
  refine List.forall_mem_cons.mpr ⟨hts _ (zT_in 467 (by decide +kernel) rfl), ?_⟩
  refine List.forall_mem_cons.mpr ⟨hts _ (zT_in 471 (by decide +kernel) rfl), ?_⟩
  refine List.forall_mem_cons.mpr ⟨hts _ (zT_in 474 (by decide +kernel) rfl), ?_⟩
  refine List.forall_mem_cons.mpr ⟨hts _ (zT_in 476 (by decide +kernel) rfl), ?_⟩
  refine List.forall_mem_cons.mpr ⟨hts _ (zT_in 459 (by decide +kernel) rfl), ?_⟩
  refine List.forall_mem_cons.mpr ⟨hts _ (zT_in 460 (by decide +kernel) rfl), ?_⟩
  refine List.forall_mem_cons.mpr ⟨hts _ (zT_in 91 (by decide +kernel) rfl), ?_⟩
  refine List.forall_mem_cons.mpr ⟨hts _ (zT_in 92 (by decide +kernel) rfl), ?_⟩
  refine List.forall_mem_cons.mpr ⟨hts _ (zT_in 461 (by decide +kernel) rfl), ?_⟩
  refine List.forall_mem_cons.mpr ⟨hts _ (zT_in 466 (by decide +kernel) rfl), ?_⟩
  refine List.forall_mem_cons.mpr ⟨hts _ (zT_in 472 (by decide +kernel) rfl), ?_⟩
  refine List.forall_mem_cons.mpr ⟨hts _ (zT_in 492 (by decide +kernel) rfl), ?_⟩
  refine List.forall_mem_cons.mpr ⟨hts _ (zT_in 448 (by decide +kernel) rfl), ?_⟩
  refine List.forall_mem_cons.mpr ⟨hts _ (zT_in 493 (by decide +kernel) rfl), ?_⟩
  refine List.forall_mem_cons.mpr ⟨hts _ (zT_in 450 (by decide +kernel) rfl), ?_⟩
  refine List.forall_mem_cons.mpr ⟨hts _ (zT_in 494 (by decide +kernel) rfl), ?_⟩
  refine List.forall_mem_cons.mpr ⟨hts _ (zT_in 452 (by decide +kernel) rfl), ?_⟩
  refine List.forall_mem_cons.mpr ⟨hts _ (zT_in 462 (by decide +kernel) rfl), ?_⟩
  refine List.forall_mem_cons.mpr ⟨h.2.2.2.2.2.1.lay, ?_⟩
  refine List.forall_mem_cons.mpr ⟨hts _ (zT_in 464 (by decide +kernel) rfl), ?_⟩
  refine List.forall_mem_cons.mpr ⟨h.2.2.2.2.2.2.1.lay, ?_⟩
  refine List.forall_mem_cons.mpr ⟨hts _ (zT_in 454 (by decide +kernel) rfl), ?_⟩
  refine List.forall_mem_cons.mpr ⟨hts _ (zT_in 488 (by decide +kernel) rfl), ?_⟩
  refine List.forall_mem_cons.mpr ⟨hts _ (zT_in 489 (by decide +kernel) rfl), ?_⟩
  refine List.forall_mem_cons.mpr ⟨hts _ (zT_in 491 (by decide +kernel) rfl), ?_⟩
  refine List.forall_mem_cons.mpr ⟨hts _ (zT_in 454 (by decide +kernel) rfl), ?_⟩
  refine List.forall_mem_cons.mpr ⟨hts _ (zT_in 841 (by decide +kernel) rfl), ?_⟩
  refine List.forall_mem_cons.mpr ⟨hts _ (zT_in 842 (by decide +kernel) rfl), ?_⟩
  refine List.forall_mem_cons.mpr ⟨hts _ (zT_in 843 (by decide +kernel) rfl), ?_⟩
  refine List.forall_mem_cons.mpr ⟨hts _ (zT_in 482 (by decide +kernel) rfl), ?_⟩
  refine List.forall_mem_cons.mpr ⟨va_Nw.use rfl (zG_n h ns_21), ?_⟩
  refine List.forall_mem_cons.mpr ⟨hts _ (zT_in 482 (by decide +kernel) rfl), ?_⟩
  refine List.forall_mem_cons.mpr ⟨hts _ (zT_in 483 (by decide +kernel) rfl), ?_⟩
  refine List.forall_mem_cons.mpr ⟨hts _ (zT_in 484 (by decide +kernel) rfl), ?_⟩
  refine List.forall_mem_cons.mpr ⟨hts _ (zT_in 485 (by decide +kernel) rfl), ?_⟩
  refine List.forall_mem_cons.mpr ⟨va_Nw.use rfl (zG_n h ns_23), ?_⟩
  refine List.forall_mem_cons.mpr ⟨hts _ (zT_in 485 (by decide +kernel) rfl), ?_⟩
  refine List.forall_mem_cons.mpr ⟨hts _ (zT_in 486 (by decide +kernel) rfl), ?_⟩
  refine List.forall_mem_cons.mpr ⟨hts _ (zT_in 487 (by decide +kernel) rfl), ?_⟩
  refine List.forall_mem_cons.mpr ⟨hts _ (zT_in 488 (by decide +kernel) rfl), ?_⟩
  refine List.forall_mem_cons.mpr ⟨va_Nw.use rfl (zG_n h ns_25), ?_⟩
  refine List.forall_mem_cons.mpr ⟨hts _ (zT_in 840 (by decide +kernel) rfl), ?_⟩
  refine List.forall_mem_cons.mpr ⟨hts _ (zT_in 831 (by decide +kernel) rfl), ?_⟩
  refine List.forall_mem_cons.mpr ⟨va_Nw.use rfl (zG_n h ns_19), ?_⟩
  refine List.forall_mem_cons.mpr ⟨hts _ (zT_in 833 (by decide +kernel) rfl), ?_⟩
  refine List.forall_mem_cons.mpr ⟨hts _ (zT_in 470 (by decide +kernel) rfl), ?_⟩
  refine List.forall_mem_cons.mpr ⟨hts _ (zT_in 834 (by decide +kernel) rfl), ?_⟩
  refine List.forall_mem_cons.mpr ⟨hts _ (zT_in 835 (by decide +kernel) rfl), ?_⟩
  refine List.forall_mem_cons.mpr ⟨hts _ (zT_in 836 (by decide +kernel) rfl), ?_⟩
  refine List.forall_mem_cons.mpr ⟨hts _ (zT_in 837 (by decide +kernel) rfl), ?_⟩
  refine List.forall_mem_cons.mpr ⟨h.2.2.2.2.2.1.ref, ?_⟩
  refine List.forall_mem_cons.mpr ⟨h.2.2.2.2.2.2.1.ref, ?_⟩
  refine List.forall_mem_cons.mpr ⟨hts _ (zT_in 457 (by decide +kernel) rfl), ?_⟩
  refine List.forall_mem_cons.mpr ⟨hts _ (zT_in 456 (by decide +kernel) rfl), ?_⟩
  refine List.forall_mem_cons.mpr ⟨hts _ (zT_in 838 (by decide +kernel) rfl), ?_⟩
  exact fun _ h => absurd h List.not_mem_nil
