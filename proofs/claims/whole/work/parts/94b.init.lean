section WINJ
variable (x : Nat)
theorem wI_JJ : JJ 0 (wI x) x := by
  obtain ⟨r0, r1, r2, r4, r6, r7, r9⟩ := wI_ref x
  obtain ⟨t1, t2, t3, t4⟩ := wI_13 x
  have o0 : OR (wI x) (OFF (wI x) x 0) A0 := by
    have e : OFF (wI x) x 0 = bs x 0 := r0
    rw [e]
    exact (wI_o x 0 (by omega)).2
  have C : CR (wI x) x A0 0 (arW (wI x) (x + 512) 4) 0 (arW (wI x) (x + 512) 3) := ⟨wI_CI x, o0, A0_w, wI_x x 405 (by omega) (by omega), by omega, fun i hi => by omega, wI_x x 403 (by omega) (by omega), Or.inl rfl, fun z => absurd z (by decide)⟩
  have e506 : flW (wI x) (x + 512) 506 = 0 := wI_M x 506 (by omega) (by omega)
  refine ⟨wI_MB x, 0, ?_, wI_M x 505 (by omega) (by omega), ⟨?_, ?_, t1.trans t3.symm, t2.trans t4.symm, ⟨0, by omega, wI_x x 408 (by omega) (by omega), wI_M x 511 (by omega) (by omega), fun i hi => by omega⟩, ⟨0, by omega, wI_x x 410 (by omega) (by omega), wI_M x 512 (by omega) (by omega), fun i hi => by omega⟩⟩, ⟨0, by omega, wI_a x (by omega) (by omega) 1⟩, fun i hi => by omega, fun z => absurd (e506.symm.trans z) (by decide)⟩
  · rw [e506]
    exact C.cg (fun k hk => wI_a x (by omega) (by omega) k)
  · exact (wI_x x 411 (by omega) (by omega)).trans (wI_M x 515 (by omega) (by omega)).symm
  · exact (wI_x x 412 (by omega) (by omega)).trans (wI_M x 516 (by omega) (by omega)).symm
end WINJ
