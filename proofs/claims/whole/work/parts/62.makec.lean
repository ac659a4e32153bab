/-! ===== the makings of the class ===== -/
section MAKEC
variable {ro : Nat × (Int → Int)} {d : Nat} {Q : Option AV → AH → Prop}
set_option maxRecDepth 100000 in
set_option maxHeartbeats 4000000 in
theorem nw {n : Int} {M : Nat} {P : Nat → Prop} (L : Nat) (e : L = M) (h : P L) (h0 : 0 ≤ n := by omega) (hq : L < 200 := by decide) : 0 ≤ n ∧ ∃ q : Nat, q = M ∧ q < 200 ∧ P q := ⟨h0, L, e, hq, h⟩
set_option maxRecDepth 100000 in
set_option maxHeartbeats 4000000 in
theorem n_text {r0 : AC} (hQ : Q none ([r0, cO 3 [vR 2, vI 0, vR 3, vR 24, vI 0, vI 0], cI 100 (fun _ => 0), cII 20 (fun j => some (4 + j.toNat)), cI 100 (fun _ => 0), cI 100 (fun _ => 0), cI 100 (fun _ => 0), cI 100 (fun _ => 0), cI 100 (fun _ => 0), cI 100 (fun _ => 0), cI 100 (fun _ => 0), cI 100 (fun _ => 0), cI 100 (fun _ => 0), cI 100 (fun _ => 0), cI 100 (fun _ => 0), cI 100 (fun _ => 0), cI 100 (fun _ => 0), cI 100 (fun _ => 0), cI 100 (fun _ => 0), cI 100 (fun _ => 0), cI 100 (fun _ => 0), cI 100 (fun _ => 0), cI 100 (fun _ => 0), cI 100 (fun _ => 0), cI 20 (fun _ => 0)], [])) : RNd ro (d + 2) 33 [vR 1] ([r0, cO 3 [vN, vI 0, vN, vN, vI 0, vI 0]], []) Q := by
  refine WP_run [] 60 ?_
  refine nw 2 rfl ?_
  refine And.intro (by omega) (And.intro (by omega) ⟨3, rfl, by decide, ?_⟩)
  refine ⟨4, rfl, by decide, ?_⟩
  refine ⟨5, rfl, by decide, ?_⟩
  refine ⟨6, rfl, by decide, ?_⟩
  refine ⟨7, rfl, by decide, ?_⟩
  refine ⟨8, rfl, by decide, ?_⟩
  refine ⟨9, rfl, by decide, ?_⟩
  refine ⟨10, rfl, by decide, ?_⟩
  refine ⟨11, rfl, by decide, ?_⟩
  refine ⟨12, rfl, by decide, ?_⟩
  refine ⟨13, rfl, by decide, ?_⟩
  refine ⟨14, rfl, by decide, ?_⟩
  refine ⟨15, rfl, by decide, ?_⟩
  refine ⟨16, rfl, by decide, ?_⟩
  refine ⟨17, rfl, by decide, ?_⟩
  refine ⟨18, rfl, by decide, ?_⟩
  refine ⟨19, rfl, by decide, ?_⟩
  refine ⟨20, rfl, by decide, ?_⟩
  refine ⟨21, rfl, by decide, ?_⟩
  refine ⟨22, rfl, by decide, ?_⟩
  refine ⟨23, rfl, by decide, ?_⟩
  refine nw 24 rfl ?_
  exact hQ
set_option maxRecDepth 100000 in
set_option maxHeartbeats 4000000 in
theorem n_tree {r0 r1 r2 r3 r4 r5 r6 r7 r8 r9 r10 r11 r12 r13 r14 r15 r16 r17 r18 r19 r20 r21 r22 r23 r24 : AC} (hQ : Q none ([r0, r1, r2, r3, r4, r5, r6, r7, r8, r9, r10, r11, r12, r13, r14, r15, r16, r17, r18, r19, r20, r21, r22, r23, r24, cO 4 [vR 26, vR 27, vR 28, vR 29, vR 30, vI 0, vR 31, vR 32, vR 33, vR 34, vI 0, vI 0, vI 0, vI 0, vI 0, vI 0], cZ 60 (fun _ => 0), cI 60 (fun _ => 0), cI 60 (fun _ => 0), cI 60 (fun _ => 0), cI 60 (fun _ => 0), cI 10 (fun _ => 0), cI 10 (fun _ => 0), cI 10 (fun _ => 0), cZ 10 (fun _ => 0)], [])) : RNd ro (d + 2) 39 [vR 25] ([r0, r1, r2, r3, r4, r5, r6, r7, r8, r9, r10, r11, r12, r13, r14, r15, r16, r17, r18, r19, r20, r21, r22, r23, r24, cO 4 [vN, vN, vN, vN, vN, vI 0, vN, vN, vN, vN, vI 0, vI 0, vI 0, vI 0, vI 0, vI 0]], []) Q := by
  refine WP_run [] 60 ?_
  refine nw 26 rfl ?_
  refine nw 27 rfl ?_
  refine nw 28 rfl ?_
  refine nw 29 rfl ?_
  refine nw 30 rfl ?_
  refine nw 31 rfl ?_
  refine nw 32 rfl ?_
  refine nw 33 rfl ?_
  refine nw 34 rfl ?_
  exact hQ
set_option maxRecDepth 100000 in
set_option maxHeartbeats 4000000 in
theorem n_names35 {r0 r1 r2 r3 r4 r5 r6 r7 r8 r9 r10 r11 r12 r13 r14 r15 r16 r17 r18 r19 r20 r21 r22 r23 r24 r25 r26 r27 r28 r29 r30 r31 r32 r33 r34 : AC} (hQ : Q none ([r0, r1, r2, r3, r4, r5, r6, r7, r8, r9, r10, r11, r12, r13, r14, r15, r16, r17, r18, r19, r20, r21, r22, r23, r24, r25, r26, r27, r28, r29, r30, r31, r32, r33, r34, cO 0 [vR 25, vR 36, vR 37, vR 38, vR 39, vR 40], cI 60 (fun _ => 0), cI 60 (fun _ => 0), cI 60 (fun _ => 0), cJ 60 (fun _ => 0), cI 260 (fun _ => 0)], [])) : RNd ro (d + 2) 0 [vR 35, vR 25] ([r0, r1, r2, r3, r4, r5, r6, r7, r8, r9, r10, r11, r12, r13, r14, r15, r16, r17, r18, r19, r20, r21, r22, r23, r24, r25, r26, r27, r28, r29, r30, r31, r32, r33, r34, cO 0 [vN, vN, vN, vN, vN, vN]], []) Q := by
  refine WP_run [] 60 ?_
  refine nw 36 rfl ?_
  refine nw 37 rfl ?_
  refine nw 38 rfl ?_
  refine nw 39 rfl ?_
  refine nw 40 rfl ?_
  exact hQ
set_option maxRecDepth 100000 in
set_option maxHeartbeats 4000000 in
theorem n_names42 {r0 r1 r2 r3 r4 r5 r6 r7 r8 r9 r10 r11 r12 r13 r14 r15 r16 r17 r18 r19 r20 r21 r22 r23 r24 r25 r26 r27 r28 r29 r30 r31 r32 r33 r34 r35 r36 r37 r38 r39 r40 r41 : AC} (hQ : Q none ([r0, r1, r2, r3, r4, r5, r6, r7, r8, r9, r10, r11, r12, r13, r14, r15, r16, r17, r18, r19, r20, r21, r22, r23, r24, r25, r26, r27, r28, r29, r30, r31, r32, r33, r34, r35, r36, r37, r38, r39, r40, r41, cO 0 [vR 25, vR 43, vR 44, vR 45, vR 46, vR 47], cI 60 (fun _ => 0), cI 60 (fun _ => 0), cI 60 (fun _ => 0), cJ 60 (fun _ => 0), cI 260 (fun _ => 0)], [])) : RNd ro (d + 2) 0 [vR 42, vR 25] ([r0, r1, r2, r3, r4, r5, r6, r7, r8, r9, r10, r11, r12, r13, r14, r15, r16, r17, r18, r19, r20, r21, r22, r23, r24, r25, r26, r27, r28, r29, r30, r31, r32, r33, r34, r35, r36, r37, r38, r39, r40, r41, cO 0 [vN, vN, vN, vN, vN, vN]], []) Q := by
  refine WP_run [] 60 ?_
  refine nw 43 rfl ?_
  refine nw 44 rfl ?_
  refine nw 45 rfl ?_
  refine nw 46 rfl ?_
  refine nw 47 rfl ?_
  exact hQ
set_option maxRecDepth 100000 in
set_option maxHeartbeats 4000000 in
theorem n_renamer {r0 r1 r2 r3 r4 r5 r6 r7 r8 r9 r10 r11 r12 r13 r14 r15 r16 r17 r18 r19 r20 r21 r22 r23 r24 r25 r26 r27 r28 r29 r30 r31 r32 r33 r34 r35 r36 r37 r38 r39 r40 : AC} (hQ : Q none ([r0, r1, r2, r3, r4, r5, r6, r7, r8, r9, r10, r11, r12, r13, r14, r15, r16, r17, r18, r19, r20, r21, r22, r23, r24, r25, r26, r27, r28, r29, r30, r31, r32, r33, r34, r35, r36, r37, r38, r39, r40, cO 1 [vR 25, vR 35, vR 42, vI (-1)], cO 0 [vR 25, vR 43, vR 44, vR 45, vR 46, vR 47], cI 60 (fun _ => 0), cI 60 (fun _ => 0), cI 60 (fun _ => 0), cJ 60 (fun _ => 0), cI 260 (fun _ => 0)], [])) : RNd ro (d + 3) 13 [vR 41, vR 25, vR 35] ([r0, r1, r2, r3, r4, r5, r6, r7, r8, r9, r10, r11, r12, r13, r14, r15, r16, r17, r18, r19, r20, r21, r22, r23, r24, r25, r26, r27, r28, r29, r30, r31, r32, r33, r34, r35, r36, r37, r38, r39, r40, cO 1 [vN, vN, vN, vI 0]], []) Q := by
  refine WP_run [] 60 ?_
  refine ⟨42, rfl, by decide, ?_⟩
  refine n_names42 ?_
  exact hQ
set_option maxRecDepth 100000 in
set_option maxHeartbeats 4000000 in
theorem n_sheet0 {r0 r1 r2 r3 r4 r5 r6 r7 r8 r9 r10 r11 r12 r13 r14 r15 r16 r17 r18 r19 r20 r21 r22 r23 r24 r25 r26 r27 r28 r29 r30 r31 r32 r33 r34 r35 r36 r37 r38 r39 r40 r41 r42 r43 r44 r45 r46 r47 r48 : AC} (hQ : Q none ([r0, r1, r2, r3, r4, r5, r6, r7, r8, r9, r10, r11, r12, r13, r14, r15, r16, r17, r18, r19, r20, r21, r22, r23, r24, r25, r26, r27, r28, r29, r30, r31, r32, r33, r34, r35, r36, r37, r38, r39, r40, r41, r42, r43, r44, r45, r46, r47, r48, cO 2 [vR 50, vI 0, vI 0, vI 1], cI 60 (fun _ => 0)], [])) : RNd ro (d + 2) 28 [vR 49] ([r0, r1, r2, r3, r4, r5, r6, r7, r8, r9, r10, r11, r12, r13, r14, r15, r16, r17, r18, r19, r20, r21, r22, r23, r24, r25, r26, r27, r28, r29, r30, r31, r32, r33, r34, r35, r36, r37, r38, r39, r40, r41, r42, r43, r44, r45, r46, r47, r48, cO 2 [vN, vI 0, vI 0, vI 0]], []) Q := by
  refine WP_run [] 60 ?_
  refine nw 50 rfl ?_
  refine bz ?_
  exact hQ
set_option maxRecDepth 100000 in
set_option maxHeartbeats 4000000 in
theorem n_sheet1 {r0 r1 r2 r3 r4 r5 r6 r7 r8 r9 r10 r11 r12 r13 r14 r15 r16 r17 r18 r19 r20 r21 r22 r23 r24 r25 r26 r27 r28 r29 r30 r31 r32 r33 r34 r35 r36 r37 r38 r39 r40 r41 r42 r43 r44 r45 r46 r47 r48 r49 r50 : AC} (hQ : Q none ([r0, r1, r2, r3, r4, r5, r6, r7, r8, r9, r10, r11, r12, r13, r14, r15, r16, r17, r18, r19, r20, r21, r22, r23, r24, r25, r26, r27, r28, r29, r30, r31, r32, r33, r34, r35, r36, r37, r38, r39, r40, r41, r42, r43, r44, r45, r46, r47, r48, r49, r50, cO 2 [vR 52, vI 0, vI 0, vI 1], cI 60 (fun _ => 0)], [])) : RNd ro (d + 2) 28 [vR 51] ([r0, r1, r2, r3, r4, r5, r6, r7, r8, r9, r10, r11, r12, r13, r14, r15, r16, r17, r18, r19, r20, r21, r22, r23, r24, r25, r26, r27, r28, r29, r30, r31, r32, r33, r34, r35, r36, r37, r38, r39, r40, r41, r42, r43, r44, r45, r46, r47, r48, r49, r50, cO 2 [vN, vI 0, vI 0, vI 0]], []) Q := by
  refine WP_run [] 60 ?_
  refine nw 52 rfl ?_
  refine bz ?_
  exact hQ
set_option maxRecDepth 100000 in
set_option maxHeartbeats 4000000 in
theorem n_sheet2 {r0 r1 r2 r3 r4 r5 r6 r7 r8 r9 r10 r11 r12 r13 r14 r15 r16 r17 r18 r19 r20 r21 r22 r23 r24 r25 r26 r27 r28 r29 r30 r31 r32 r33 r34 r35 r36 r37 r38 r39 r40 r41 r42 r43 r44 r45 r46 r47 r48 r49 r50 r51 r52 : AC} (hQ : Q none ([r0, r1, r2, r3, r4, r5, r6, r7, r8, r9, r10, r11, r12, r13, r14, r15, r16, r17, r18, r19, r20, r21, r22, r23, r24, r25, r26, r27, r28, r29, r30, r31, r32, r33, r34, r35, r36, r37, r38, r39, r40, r41, r42, r43, r44, r45, r46, r47, r48, r49, r50, r51, r52, cO 2 [vR 54, vI 0, vI 0, vI 1], cI 60 (fun _ => 0)], [])) : RNd ro (d + 2) 28 [vR 53] ([r0, r1, r2, r3, r4, r5, r6, r7, r8, r9, r10, r11, r12, r13, r14, r15, r16, r17, r18, r19, r20, r21, r22, r23, r24, r25, r26, r27, r28, r29, r30, r31, r32, r33, r34, r35, r36, r37, r38, r39, r40, r41, r42, r43, r44, r45, r46, r47, r48, r49, r50, r51, r52, cO 2 [vN, vI 0, vI 0, vI 0]], []) Q := by
  refine WP_run [] 60 ?_
  refine nw 54 rfl ?_
  refine bz ?_
  exact hQ
set_option maxRecDepth 100000 in
set_option maxHeartbeats 4000000 in
theorem n_sheet3 {r0 r1 r2 r3 r4 r5 r6 r7 r8 r9 r10 r11 r12 r13 r14 r15 r16 r17 r18 r19 r20 r21 r22 r23 r24 r25 r26 r27 r28 r29 r30 r31 r32 r33 r34 r35 r36 r37 r38 r39 r40 r41 r42 r43 r44 r45 r46 r47 r48 r49 r50 r51 r52 r53 r54 : AC} (hQ : Q none ([r0, r1, r2, r3, r4, r5, r6, r7, r8, r9, r10, r11, r12, r13, r14, r15, r16, r17, r18, r19, r20, r21, r22, r23, r24, r25, r26, r27, r28, r29, r30, r31, r32, r33, r34, r35, r36, r37, r38, r39, r40, r41, r42, r43, r44, r45, r46, r47, r48, r49, r50, r51, r52, r53, r54, cO 2 [vR 56, vI 0, vI 0, vI 1], cI 60 (fun _ => 0)], [])) : RNd ro (d + 2) 28 [vR 55] ([r0, r1, r2, r3, r4, r5, r6, r7, r8, r9, r10, r11, r12, r13, r14, r15, r16, r17, r18, r19, r20, r21, r22, r23, r24, r25, r26, r27, r28, r29, r30, r31, r32, r33, r34, r35, r36, r37, r38, r39, r40, r41, r42, r43, r44, r45, r46, r47, r48, r49, r50, r51, r52, r53, r54, cO 2 [vN, vI 0, vI 0, vI 0]], []) Q := by
  refine WP_run [] 60 ?_
  refine nw 56 rfl ?_
  refine bz ?_
  exact hQ
set_option maxRecDepth 100000 in
set_option maxHeartbeats 4000000 in
theorem rI_z {lo hi : Int} (h0 : lo ≤ 0) (h1 : 0 ≤ hi) : rI (fun _ => 0) lo hi := fun _ => ⟨h0, h1⟩
set_option maxRecDepth 100000 in
set_option maxHeartbeats 4000000 in
theorem n_reread (hQ : ∀ fp' nd' sc' rsz' iu' nm' so' ou' pl' pa' ba' de' en' ss' cu' os' a1' a2' a3' a4' a5', CRd (fun _ => 0) 0 fp' nd' sc' rsz' iu' nm' so' ou' pl' pa' ba' en' a1' a2' a3' a4' a5' → Q none ((heapC (fun _ => 0) 0 (fun _ _ => 0) (fun _ => 0) 0 0 iu' nm' ou' so' pl' nd' pa' ba' de' en' sc' rsz' fp' ss' cu' os' a1' a2' a3' a4' a5' (fun _ => 0) (fun _ => 0) (fun _ => 0) (fun _ => 0) (fun _ => 0) (-1) 0 (fun _ => 0) 0 0 1 (fun _ => 0) 0 0 1 (fun _ => 0) 0 0 1 (fun _ => 0) 0 0 1), [])) : RNd ro (d + 7) 88 [vR 0] ((heapC (fun _ => 0) 0 (fun _ _ => 0) (fun _ => 0) 0 0 (fun _ => 0) (fun _ => 0) (fun _ => 0) (fun _ => 0) (fun _ => 0) 0 (fun _ => 0) (fun _ => 0) (fun _ => 0) (fun _ => 0) 0 0 0 0 0 0 (fun _ => 0) (fun _ => 0) (fun _ => 0) (fun _ => 0) (fun _ => 0) (fun _ => 0) (fun _ => 0) (fun _ => 0) (fun _ => 0) (fun _ => 0) (-1) 0 (fun _ => 0) 0 0 1 (fun _ => 0) 0 0 1 (fun _ => 0) 0 0 1 (fun _ => 0) 0 0 1), []) Q := by
  refine t_reread (by omega) (rI_z (by omega) (by omega)) ⟨rI_z (by omega) (by omega), rI_z (by omega) (by omega), rI_z (by omega) (by omega), rI_z (by omega) (by omega), rI_z (by omega) (by omega), rI_z (by omega) (by omega), rI_z (by omega) (by omega), fun s h => by show (0 : Int) < s; omega, fun s h => by show (0 : Int) < s; omega, rI_z (by omega) (by omega)⟩ (rI_z (by omega) (by omega)) (rI_z (by omega) (by omega)) (rI_z (by omega) (by omega)) (rI_z (by omega) (by omega)) (fun fp' nd' sc' rsz' iu' nm' so' ou' pl' pa' ba' de' en' ss' cu' os' a1' a2' a3' a4' a5' hC => ?_)
  exact hQ fp' nd' sc' rsz' iu' nm' so' ou' pl' pa' ba' de' en' ss' cu' os' a1' a2' a3' a4' a5' hC
set_option maxRecDepth 100000 in
set_option maxHeartbeats 4000000 in
theorem n_graph (hQ : ∀ fp' nd' sc' rsz' iu' nm' so' ou' pl' pa' ba' de' en' ss' cu' os' a1' a2' a3' a4' a5', CRd (fun _ => 0) 0 fp' nd' sc' rsz' iu' nm' so' ou' pl' pa' ba' en' a1' a2' a3' a4' a5' → Q none ((heapC (fun _ => 0) 0 (fun _ _ => 0) (fun _ => 0) 0 0 iu' nm' ou' so' pl' nd' pa' ba' de' en' sc' rsz' fp' ss' cu' os' a1' a2' a3' a4' a5' (fun _ => 0) (fun _ => 0) (fun _ => 0) (fun _ => 0) (fun _ => 0) (-1) 0 (fun _ => 0) 0 0 1 (fun _ => 0) 0 0 1 (fun _ => 0) 0 0 1 (fun _ => 0) 0 0 1), [])) : RNd ro (d + 8) 56 [vR 0] ([cO 5 [vN, vN, vN, vN, vN, vI 0]], []) Q := by
  refine WP_run [] 140 ?_
  refine ⟨1, rfl, by decide, ?_⟩
  refine n_text ?_
  refine ⟨25, rfl, by decide, ?_⟩
  refine n_tree ?_
  refine ⟨35, rfl, by decide, ?_⟩
  refine n_names35 ?_
  refine ⟨41, rfl, by decide, ?_⟩
  refine n_renamer ?_
  refine nw 48 rfl ?_
  refine f2 ?_
  refine ⟨49, rfl, by decide, ?_⟩
  refine n_sheet0 ?_
  refine And.intro rfl (ix ?_)
  refine f2 ?_
  refine ⟨51, rfl, by decide, ?_⟩
  refine n_sheet1 ?_
  refine And.intro rfl (ix ?_)
  refine f2 ?_
  refine ⟨53, rfl, by decide, ?_⟩
  refine n_sheet2 ?_
  refine And.intro rfl (ix ?_)
  refine f2 ?_
  refine ⟨55, rfl, by decide, ?_⟩
  refine n_sheet3 ?_
  refine And.intro rfl (ix ?_)
  refine t2 ?_
  refine n_reread (fun fp' nd' sc' rsz' iu' nm' so' ou' pl' pa' ba' de' en' ss' cu' os' a1' a2' a3' a4' a5' hC => ?_)
  exact hQ fp' nd' sc' rsz' iu' nm' so' ou' pl' pa' ba' de' en' ss' cu' os' a1' a2' a3' a4' a5' hC
end MAKEC
section MAKEM
variable {ro : Nat × (Int → Int)} {d : Nat} {Q : Option AV → AH → Prop} {hA : List AC}
set_option maxRecDepth 100000 in
set_option maxHeartbeats 4000000 in
theorem nwM {n : Int} {M : Nat} {P : Nat → Prop} (L : Nat) (e : L = M) (h : P L) (h0 : 0 ≤ n := by omega) (hq : L < 800 := by decide) : 0 ≤ n ∧ ∃ q : Nat, q = M ∧ q < 800 ∧ P q := ⟨h0, L, e, hq, h⟩
set_option maxRecDepth 100000 in
set_option maxHeartbeats 4000000 in
theorem n_model (hQ : Q none (hA, (heapM 0 (fun _ => 0) 0 0 (fun _ => 0) (fun _ => 0) 0 0 (fun _ => 0) (fun _ => 0) (fun _ => 0) (fun _ => 0) (fun _ => 0) 0 (fun _ => 0) (fun _ => 0) (fun _ => 0) (fun _ => 0) (fun _ => 0) (fun _ => 0) (fun _ => 0) (fun _ => 0) (fun _ => 0) (fun _ => 0) (fun _ => 0) (fun _ => 0) (fun _ => 0) (fun _ => 0) (fun _ => 0) 0))) : RNd ro (d + 2) 100 [vR 200] (hA, [cO 6 (dfs 6 30)]) Q := by
  refine WP_run [] 120 ?_
  refine nwM 201 rfl ?_
  refine nwM 202 rfl ?_
  refine nwM 203 rfl ?_
  refine nwM 204 rfl ?_
  refine nwM 205 rfl ?_
  refine nwM 206 rfl ?_
  refine nwM 207 rfl ?_
  refine nwM 208 rfl ?_
  refine nwM 209 rfl ?_
  refine nwM 210 rfl ?_
  refine nwM 211 rfl ?_
  refine nwM 212 rfl ?_
  refine nwM 213 rfl ?_
  refine nwM 214 rfl ?_
  refine nwM 215 rfl ?_
  refine nwM 216 rfl ?_
  refine nwM 217 rfl ?_
  refine nwM 218 rfl ?_
  refine nwM 219 rfl ?_
  refine nwM 220 rfl ?_
  refine nwM 221 rfl ?_
  refine nwM 222 rfl ?_
  refine nwM 223 rfl ?_
  exact hQ
end MAKEM
