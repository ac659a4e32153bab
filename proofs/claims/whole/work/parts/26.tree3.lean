/-! ===== class Tree: the whole text ===== -/
section TREE3
variable {ro : Nat × (Int → Int)} {d : Nat} {Q : Option AV → AH → Prop} {hB : List AC} {tb : Int → Int} {tz : Int} {tk : Int → Int → Int} {tks : Int → Int} {tc tt : Int} {iu nm ou so pl : Int → Int} {nd : Int} {pa ba de en : Int → Int} {sc rsz fp ss cu os : Int} {a1 a2 a3 : Int → Int} {a4 : Int → Int64} {a5 b1 b2 b3 : Int → Int} {b4 : Int → Int64} {b5 : Int → Int} {le fi : Int} {xi0 : Int → Int} {xf0 xz0 xl0 : Int} {xi1 : Int → Int} {xf1 xz1 xl1 : Int} {xi2 : Int → Int} {xf2 xz2 xl2 : Int} {xi3 : Int → Int} {xf3 xz3 xl3 : Int}
/-- behind the last byte, or the fault -/
def EndC (Q : Option AV → AH → Prop) (hB : List AC) (tb : Int → Int) (tz : Int) (tk : Int → Int → Int) (tks : Int → Int) (tc tt : Int) (a1 a2 a3 : Int → Int) (a4 : Int → Int64) (a5 b1 b2 b3 : Int → Int) (b4 : Int → Int64) (b5 : Int → Int) (le fi : Int) (xi0 : Int → Int) (xf0 xz0 xl0 : Int) (xi1 : Int → Int) (xf1 xz1 xl1 : Int) (xi2 : Int → Int) (xf2 xz2 xl2 : Int) (xi3 : Int → Int) (xf3 xz3 xl3 : Int) (fa nd' sc' : Int) (iu' nm' so' ou' pl' ar' ex' en' : Int → Int) : Prop :=
  (fa = -1 → ∀ ss' os' de', TI ss' 0 os' nd' sc' iu' nm' so' ou' pl' ar' ex' de' en' → Q none ((heapC tb tz tk tks tc tt iu' nm' ou' so' pl' nd' ar' ex' de' en' sc' tz (-1) ss' 0 os' a1 a2 a3 a4 a5 b1 b2 b3 b4 b5 le fi xi0 xf0 xz0 xl0 xi1 xf1 xz1 xl1 xi2 xf2 xz2 xl2 xi3 xf3 xz3 xl3), hB)) ∧
  (fa ≠ -1 → ∀ ss' cu' os' de', RTr iu' nm' so' ou' pl' ar' ex' ∧ rI en' 0 1 → Q none ((heapC tb tz tk tks tc tt iu' nm' ou' so' pl' 0 (upZ ar' 0 (-1)) (upZ ex' 0 (-1)) (upZ de' 0 0) (upZ en' 0 0) 1 tz fa ss' cu' os' a1 a2 a3 a4 a5 b1 b2 b3 b4 b5 le fi xi0 xf0 xz0 xl0 xi1 xf1 xz1 xl1 xi2 xf2 xz2 xl2 xi3 xf3 xz3 xl3), hB))
set_option maxRecDepth 100000 in
set_option maxHeartbeats 4000000 in
theorem readAll_fault {i fa : Int} (hfa : rg fa) (hfa2 : fa ≠ -1) (hss : rg ss) (hcu : rg cu) (hQ : Q none ((heapC tb tz tk tks tc tt iu nm ou so pl 0 (upZ pa 0 (-1)) (upZ ba 0 (-1)) (upZ de 0 0) (upZ en 0 0) 1 tz fa ss cu os a1 a2 a3 a4 a5 b1 b2 b3 b4 b5 le fi xi0 xf0 xz0 xl0 xi1 xf1 xz1 xl1 xi2 xf2 xz2 xl2 xi3 xf3 xz3 xl3), hB)) : WPm ro (d + 5) (RNd ro (d + 5)) 40 0 0 Q 55 [vR 25, vR 1, vI i] [] ((heapC tb tz tk tks tc tt iu nm ou so pl nd pa ba de en sc tz fa ss cu os a1 a2 a3 a4 a5 b1 b2 b3 b4 b5 le fi xi0 xf0 xz0 xl0 xi1 xf1 xz1 xl1 xi2 xf2 xz2 xl2 xi3 xf3 xz3 xl3), hB) 0 0 := by
  have tail : ∀ c : Int, rg c → WPm ro (d + 5) (RNd ro (d + 5)) 40 0 0 Q 75 [vR 25, vR 1, vI c] [] ((heapC tb tz tk tks tc tt iu nm ou so pl nd pa ba de en sc tz fa ss cu os a1 a2 a3 a4 a5 b1 b2 b3 b4 b5 le fi xi0 xf0 xz0 xl0 xi1 xf1 xz1 xl1 xi2 xf2 xz2 xl2 xi3 xf3 xz3 xl3), hB) 0 0 := by
    intro c hc
    refine WP_run [] 60 ?_
    refine t2 ?_ (by omega) hfa
    refine f2 ?_ (by omega) hfa
    refine t_openText ?_
    exact hQ
  refine WP_run [75] 60 ?_
  refine c1 (fun q => ?_) (fun q => ?_) hcu
  · exact tail 0 rg_0
  · refine c1 (fun q2 => ?_) (fun q2 => ?_) hss
    · exact tail 0 rg_0
    · exact tail 1 (by unfold rg; omega)
set_option maxRecDepth 100000 in
set_option maxHeartbeats 4000000 in
theorem readAll_loop (htz : 0 ≤ tz ∧ tz ≤ 100) (htb : rI tb 0 255) :
    ∀ (f : Nat) (i ss cu os nd sc : Int) (iu nm so ou pl pa ba de en : Int → Int), (f : Int) = tz - i → 0 ≤ i → TI ss cu os nd sc iu nm so ou pl pa ba de en →
      parse tb tz (EndC Q hB tb tz tk tks tc tt a1 a2 a3 a4 a5 b1 b2 b3 b4 b5 le fi xi0 xf0 xz0 xl0 xi1 xf1 xz1 xl1 xi2 xf2 xz2 xl2 xi3 xf3 xz3 xl3) f i (hr ss) cu (if ss = 4 then os else 0) nd sc iu nm so ou pl pa ba en →
      WPm ro (d + 5) (RNd ro (d + 5)) 40 0 0 Q 14 [vR 25, vR 1, vI i] [] ((heapC tb tz tk tks tc tt iu nm ou so pl nd pa ba de en sc tz (-1) ss cu os a1 a2 a3 a4 a5 b1 b2 b3 b4 b5 le fi xi0 xf0 xz0 xl0 xi1 xf1 xz1 xl1 xi2 xf2 xz2 xl2 xi3 xf3 xz3 xl3), hB) 0 0 := by
  intro f
  induction f with
  | zero =>
    intro i ss cu os nd sc iu nm so ou pl pa ba de en hf hi hT hq
    obtain ⟨g1, g2, g3, g4, g5, g6, g7, g8, g9, g10, g11, g12⟩ := id hT
    have hq : EndC Q hB tb tz tk tks tc tt a1 a2 a3 a4 a5 b1 b2 b3 b4 b5 le fi xi0 xf0 xz0 xl0 xi1 xf1 xz1 xl1 xi2 xf2 xz2 xl2 xi3 xf3 xz3 xl3 (if cu ≠ 0 ∨ hr ss = 1 ∨ hr ss = 2 then tz else -1) nd sc iu nm so ou pl pa ba en := hq
    refine WP_first [14] 60 ?_
    refine t2 ?_
    refine c1 (fun q => ?_) (fun q => ?_)
    · rw [if_pos (Or.inl q)] at hq
      refine f2 ?_
      refine f1 ?_
      refine f2 ?_
      refine t_openText ?_
      exact hq.2 (by omega) ss cu os de ⟨g12, g9⟩
    · refine c1 (fun q2 => ?_) (fun q2 => ?_)
      · have h34 : ss = 3 ∨ ss = 4 := by omega
        rw [if_pos (Or.inr (by rcases h34 with rfl | rfl <;> decide))] at hq
        refine f2 ?_
        refine f1 ?_
        refine f2 ?_
        refine t_openText ?_
        exact hq.2 (by omega) ss cu os de ⟨g12, g9⟩
      · subst q2
        rw [if_neg (fun z => z.elim (fun z => z q) (fun z => z.elim (fun z => absurd z (by decide)) (fun z => absurd z (by decide))))] at hq
        refine f2 ?_
        refine t1 ?_
        refine t2 ?_
        subst q
        exact hq.1 rfl 0 os de hT
  | succ f ih =>
    intro i ss cu os nd sc iu nm so ou pl pa ba de en hf hi hT hq
    obtain ⟨g1, g2, g3, g4, g5, g6, g7, g8, g9, g10, g11, g12⟩ := id hT
    have hb := htb i
    refine WP_first [14, 55] 60 ?_
    refine f2 ?_
    refine f2 ?_
    refine ix ?_
    refine t_goesOn hb (by omega) hT ?_
    have hq : pstep (tb i) i (hr ss) cu (if ss = 4 then os else 0) nd sc iu nm so ou pl pa ba en (EndC Q hB tb tz tk tks tc tt a1 a2 a3 a4 a5 b1 b2 b3 b4 b5 le fi xi0 xf0 xz0 xl0 xi1 xf1 xz1 xl1 xi2 xf2 xz2 xl2 xi3 xf3 xz3 xl3 i nd sc iu nm so ou pl pa ba en) (fun he at_ out nd sc iu nm so ou pl ar ex en => parse tb tz (EndC Q hB tb tz tk tks tc tt a1 a2 a3 a4 a5 b1 b2 b3 b4 b5 le fi xi0 xf0 xz0 xl0 xi1 xf1 xz1 xl1 xi2 xf2 xz2 xl2 xi3 xf3 xz3 xl3) f (i + 1) he at_ out nd sc iu nm so ou pl ar ex en) := hq
    refine pstep_mono (fun hF => ?_) (fun he' at' out' nd' sc' iu' nm' so' ou' pl' ar' ex' en' hK => ?_) hq
    · intro os' de'
      refine f1 ?_
      refine WP_run [55] 60 ?_
      refine c2 (fun q => ?_) (fun q => ?_)
      · exact readAll_fault (by unfold rg; omega) (by omega) (by unfold rg; omega) (by unfold rg; omega) (hF.2 (by omega) ss cu os' de' ⟨g12, g9⟩)
      · refine t2 ?_
        exact readAll_fault (by unfold rg; omega) (by omega) (by unfold rg; omega) (by unfold rg; omega) (hF.2 (by omega) ss cu os' de' ⟨g12, g9⟩)
    · intro ss' os' de' e1 e2 hT'
      refine t1 ?_
      subst e1
      subst e2
      exact ih (i + 1) ss' at' os' nd' sc' iu' nm' so' ou' pl' ar' ex' de' en' (by omega) (by omega) hT' hK
/-- what holds of the rows of a tree before it reads -/
def RT0 (iu nm so ou pl pa ba en : Int → Int) : Prop := rI iu 0 1 ∧ rI nm 0 25 ∧ rI so 0 9 ∧ rI ou 0 3 ∧ rI pl 0 99 ∧ rI pa (-1) 9 ∧ rI ba (-1) 9 ∧ (∀ s, 1 ≤ s → pa s < s) ∧ (∀ s, 1 ≤ s → ba s < s) ∧ rI en 0 1
set_option maxRecDepth 100000 in
set_option maxHeartbeats 4000000 in
theorem TI_begin (h : RT0 iu nm so ou pl pa ba en) : TI 0 0 0 0 1 iu nm so ou pl (upZ pa 0 (-1)) (upZ ba 0 (-1)) (upZ de 0 0) (upZ en 0 0) := by
  obtain ⟨r1, r2, r3, r4, r5, r6, r7, r8, r9, r10⟩ := h
  refine ⟨by omega, by omega, by omega, by omega, by omega, fun q => by omega, upZ_s, fun s s1 s2 => by omega, rI_up r10 (by omega) (by omega), fun s w s1 s2 _ => ?_, fun k k1 k2 => by omega, r1, r2, r3, r4, r5, rI_up r6 (by omega) (by omega), rI_up r7 (by omega) (by omega), fun s s1 => ?_, fun s s1 => ?_⟩
  · rw [show s = 0 by omega, upZ_s, bt_0]
    exact ⟨fun z => (by cases z), fun z => (by cases z)⟩
  · by_cases e : s = 0
    · rw [e, upZ_s]; omega
    · rw [upZ_n e]; exact r8 s (by omega)
  · by_cases e : s = 0
    · rw [e, upZ_s]; omega
    · rw [upZ_n e]; exact r9 s (by omega)
set_option maxRecDepth 100000 in
set_option maxHeartbeats 4000000 in
theorem t_readAll (htz : 0 ≤ tz ∧ tz ≤ 100) (htb : rI tb 0 255) (h0 : RT0 iu nm so ou pl pa ba en) (hq : parse tb tz (EndC Q hB tb tz tk tks tc tt a1 a2 a3 a4 a5 b1 b2 b3 b4 b5 le fi xi0 xf0 xz0 xl0 xi1 xf1 xz1 xl1 xi2 xf2 xz2 xl2 xi3 xf3 xz3 xl3) tz.toNat 0 0 0 0 0 1 iu nm so ou pl (upZ pa 0 (-1)) (upZ ba 0 (-1)) (upZ en 0 0)) : RNd ro (d + 6) 40 [vR 25, vR 1] ((heapC tb tz tk tks tc tt iu nm ou so pl nd pa ba de en sc rsz fp ss cu os a1 a2 a3 a4 a5 b1 b2 b3 b4 b5 le fi xi0 xf0 xz0 xl0 xi1 xf1 xz1 xl1 xi2 xf2 xz2 xl2 xi3 xf3 xz3 xl3), hB) Q := by
  refine WP_run [14] 60 ?_
  refine t_begin ?_
  refine readAll_loop htz htb tz.toNat 0 0 0 0 0 1 iu nm so ou pl (upZ pa 0 (-1)) (upZ ba 0 (-1)) (upZ de 0 0) (upZ en 0 0) (by omega) (by omega) (TI_begin h0) hq
end TREE3
