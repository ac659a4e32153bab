/-! ===== the class: all that it reads ===== -/
/-- none, or a declaration of that name -/
def DL (nd : Int) (IU nn : Int → Int) (w v : Int) : Prop := v = -1 ∨ (0 ≤ v ∧ v < nd ∧ IU v = 0 ∧ nn v = w)
set_option maxRecDepth 100000 in
set_option maxHeartbeats 4000000 in
theorem TBd_dl {nd : Int} {IU SO nn : Int → Int} {s w : Int} : DL nd IU nn w (TBd nd IU SO nn s w) := by
  rcases TBk_in nd IU SO nn s w 0 with ⟨a1, -⟩ | ⟨a1, a2, a3, -⟩
  · exact Or.inl a1
  · obtain ⟨m1, -, m3⟩ := mat_iff.mp a3
    exact Or.inr ⟨a1, a2, m1, m3⟩
set_option maxRecDepth 100000 in
set_option maxHeartbeats 4000000 in
theorem lkp_dl {nd m : Int} {IU nn nx : Int → Int} {T : Int → Int → Int} {w : Int} (hnx : ∀ s, 0 ≤ s → s < m → nx s < s) (hT : ∀ s, 0 ≤ s → s < m → DL nd IU nn w (T s w)) : ∀ (f : Nat) (s : Int), s < m → DL nd IU nn w (lkp nx T w f s)
  | 0, s, _ => Or.inl rfl
  | f + 1, s, h => by
    by_cases h0 : s < 0
    · rw [lkp_neg h0]; exact Or.inl rfl
    · rw [lkp, if_neg h0]
      split
      · exact lkp_dl hnx hT f (nx s) (by have := hnx s (by omega) h; omega)
      · exact hT s (by omega) h
set_option maxRecDepth 100000 in
set_option maxHeartbeats 4000000 in
theorem OW_dl {nd sc : Int} {IU SO PA BA nn : Int → Int} {s w : Int} (h : TS nd sc IU SO PA BA) (hs : s < sc) : DL nd IU nn w (OW nd IU SO BA nn s w) :=
  lkp_dl (m := sc) (fun s s0 s1 => (h.2.2.2 s s0 s1).2.2) (fun s _ _ => TBd_dl) 10 s hs
set_option maxRecDepth 100000 in
set_option maxHeartbeats 4000000 in
theorem BN_dl {nd sc : Int} {IU SO PA BA nn : Int → Int} {s o w : Int} (h : TS nd sc IU SO PA BA) (hs : s < sc) : DL nd IU nn w (BN nd IU SO PA BA nn s o w) :=
  lkp_dl (m := sc) (fun s s0 s1 => (h.2.2.2 s s0 s1).1.2) (fun s _ s1 => OW_dl h s1) 10 _ (goOut_lt (fun s s0 s1 => (h.2.2.2 s s0 s1).1.2) _ s hs)
set_option maxRecDepth 100000 in
set_option maxHeartbeats 4000000 in
theorem SFok_OW {nd sc : Int} {IU SO PA BA nn : Int → Int} (h : TS nd sc IU SO PA BA) : SFok nd IU (SFv IU SO BA nn (OW nd IU SO BA nn)) := by
  intro k k0 k1
  obtain ⟨S1, S2, S3, S4⟩ := id h
  obtain ⟨S31, S32⟩ := S3 k k0 k1
  have e4 := (S4 (SO k) S32.1 S32.2).2
  unfold SFv
  split
  · exact ⟨by omega, by omega, fun z => absurd rfl z⟩
  · rename_i hc
    rcases OW_dl (nn := nn) (w := nn k) h (s := BA (SO k)) (by omega) with e | ⟨a1, a2, a3, a4⟩
    · rw [e]
      exact ⟨by omega, by omega, fun z => absurd rfl z⟩
    · exact ⟨by omega, a2, fun _ => ⟨by omega, a3⟩⟩
set_option maxRecDepth 100000 in
set_option maxHeartbeats 4000000 in
theorem SFv_ext {nd sc : Int} {IU SO PA BA nn nn' : Int → Int} {T T' : Int → Int → Int} {k : Int} (h : TS nd sc IU SO PA BA) (k0 : 0 ≤ k) (k1 : k < nd) (hn : ∀ k, 0 ≤ k → k < nd → nn k = nn' k ∧ 0 ≤ nn k ∧ nn k < 26) (hT : ∀ s w, 0 ≤ s → s < sc → 0 ≤ w → w < 26 → T s w = T' s w) : SFv IU SO BA nn T k = SFv IU SO BA nn' T' k := by
  obtain ⟨S1, S2, S3, S4⟩ := id h
  obtain ⟨S31, S32⟩ := S3 k k0 k1
  have e4 := (S4 (SO k) S32.1 S32.2).2
  obtain ⟨n1, n2, n3⟩ := hn k k0 k1
  unfold SFv
  split
  · rfl
  · rw [← n1]
    exact hT _ _ (by omega) (by omega) n2 n3
set_option maxRecDepth 100000 in
set_option maxHeartbeats 4000000 in
theorem TS_U01 {nd sc : Int} {IU SO PA BA : Int → Int} (h : TS nd sc IU SO PA BA) : U01 nd IU := fun k a b => (h.2.2.1 k a b).1
set_option maxRecDepth 100000 in
set_option maxHeartbeats 4000000 in
theorem KinOK_ext {nd : Int} {IU F F' : Int → Int} {kin : Int → Int64} (h : KinOK nd IU F kin) (hF : ∀ k, 0 ≤ k → k < nd → F k = F' k) : KinOK nd IU F' kin := by
  intro j i j0 j1 i0 i1
  rw [h j i j0 j1 i0 i1]
  constructor
  · rintro ⟨x1, x2 | ⟨x2, x3, x4⟩⟩
    · exact ⟨x1, Or.inl x2⟩
    · exact ⟨x1, Or.inr ⟨x2, x3, by rw [← hF i i0 x1, ← hF j j0 j1]; exact x4⟩⟩
  · rintro ⟨x1, x2 | ⟨x2, x3, x4⟩⟩
    · exact ⟨x1, Or.inl x2⟩
    · exact ⟨x1, Or.inr ⟨x2, x3, by rw [hF i i0 x1, hF j j0 j1]; exact x4⟩⟩
/-- the class's rows as they are when the text was read -/
def CRd (tx : Int → Int) (n fp nd sc rsz : Int) (iu nm so ou pl pa ba en a1 a2 a3 : Int → Int) (a4 : Int → Int64) (a5 : Int → Int) : Prop :=
  (fp = cFA tx n ∧ nd = cND tx n ∧ sc = cSC tx n ∧ rsz = n) ∧ TS nd sc (cIU tx n) (cSO tx n) (cAR tx n) (cEX tx n) ∧ TAg nd sc iu so pa ba (cIU tx n) (cSO tx n) (cAR tx n) (cEX tx n) ∧
  (∀ k, 0 ≤ k → k < nd → nm k = cNM tx n k ∧ ou k = cOU tx n k ∧ pl k = cPL tx n k) ∧ (∀ k, 0 ≤ k → k < nd → a1 k = cNM tx n k ∧ a2 k = cOU tx n k ∧ a3 k = cBT tx n k) ∧
  (∀ s w, 0 ≤ s → s < sc → 0 ≤ w → w < 26 → a5 (s * 26 + w) = cOW tx n (cNM tx n) s w) ∧ KinOK nd (cIU tx n) (cFM tx n (cNM tx n)) a4 ∧ RT0 iu nm so ou pl pa ba en ∧ rI a1 0 25 ∧ rI a2 0 3 ∧ rI a3 (-1) 59 ∧ rI a5 (-1) 59
set_option maxRecDepth 100000 in
set_option maxHeartbeats 4000000 in
theorem cpZ_60 {f g : Int → Int} {k : Int} (a : 0 ≤ k) (b : k < 60) : cpZ f g 0 0 60 k = f k := by
  unfold cpZ
  rw [if_pos (by omega), show 0 + (k - 0) = k by omega]
section REREAD
variable {ro : Nat × (Int → Int)} {d : Nat} {Q : Option AV → AH → Prop} {hB : List AC} {tb : Int → Int} {tz : Int} {tk : Int → Int → Int} {tks : Int → Int} {tc tt : Int} {iu nm ou so pl : Int → Int} {nd : Int} {pa ba de en : Int → Int} {sc rsz fp ss cu os : Int} {a1 a2 a3 : Int → Int} {a4 : Int → Int64} {a5 b1 b2 b3 : Int → Int} {b4 : Int → Int64} {b5 : Int → Int} {le fi : Int} {xi0 : Int → Int} {xf0 xz0 xl0 : Int} {xi1 : Int → Int} {xf1 xz1 xl1 : Int} {xi2 : Int → Int} {xf2 xz2 xl2 : Int} {xi3 : Int → Int} {xf3 xz3 xl3 : Int} {IU SO PA BA : Int → Int}
set_option maxRecDepth 100000 in
set_option maxHeartbeats 4000000 in
theorem t_takeWritten (hS : TS nd sc IU SO PA BA) (hA : TAg nd sc iu so pa ba IU SO PA BA) (hn : rI nm 0 25) (ho : rI ou 0 3) (h1 : rI a1 0 25) (h2 : rI a2 0 3) (h5 : rI a5 (-1) 59)
    (hQ : ∀ t kin, rI t (-1) 59 → (∀ s w, 0 ≤ s → s < sc → 0 ≤ w → w < 26 → t (s * 26 + w) = OW nd IU SO BA (cpZ nm a1 0 0 60) s w) → KinOK nd IU (famN IU (SFv IU SO BA (cpZ nm a1 0 0 60) (OW nd IU SO BA (cpZ nm a1 0 0 60))) nd.toNat) kin →
      Q none ((heapC tb tz tk tks tc tt iu nm ou so pl nd pa ba de en sc rsz fp ss cu os (cpZ nm a1 0 0 60) (cpZ ou a2 0 0 60) (fb a3 (fun k => if IU k = 1 then BN nd IU SO PA BA (cpZ nm a1 0 0 60) (SO k) (cpZ ou a2 0 0 60 k) (cpZ nm a1 0 0 60 k) else k) 0 nd) kin t b1 b2 b3 b4 b5 le fi xi0 xf0 xz0 xl0 xi1 xf1 xz1 xl1 xi2 xf2 xz2 xl2 xi3 xf3 xz3 xl3), hB)) : RNd ro (d + 3) 1 [vR 35] ((heapC tb tz tk tks tc tt iu nm ou so pl nd pa ba de en sc rsz fp ss cu os a1 a2 a3 a4 a5 b1 b2 b3 b4 b5 le fi xi0 xf0 xz0 xl0 xi1 xf1 xz1 xl1 xi2 xf2 xz2 xl2 xi3 xf3 xz3 xl3), hB) Q := by
  have g1 : rI (cpZ nm a1 0 0 60) 0 25 := rI_cp hn h1
  have g2 : rI (cpZ ou a2 0 0 60) 0 3 := rI_cp ho h2
  refine WP_run [] 40 ?_
  refine cp ?_
  refine cp ?_
  refine t_fillTable_now hS hA g1 h5 (fun t ht hT => ⟨fun _ => ?_, fun _ => ?_⟩)
  · refine t_bindAll_now hS hA g1 g2 hT ht ?_
    refine t_joinFamilies_now hS hA g1 ht hT (SFok_OW hS) (fun kin hK => ?_)
    exact hQ t kin ht hT hK
  · refine t_bindAll_now hS hA g1 g2 hT ht ?_
    refine t_joinFamilies_now hS hA g1 ht hT (SFok_OW hS) (fun kin hK => ?_)
    exact hQ t kin ht hT hK
set_option maxRecDepth 100000 in
set_option maxHeartbeats 4000000 in
theorem t_takeRead (hh : fp = cFA tb tz ∧ nd = cND tb tz ∧ sc = cSC tb tz ∧ rsz = tz) (hS : TS nd sc (cIU tb tz) (cSO tb tz) (cAR tb tz) (cEX tb tz)) (hA : TAg nd sc iu so pa ba (cIU tb tz) (cSO tb tz) (cAR tb tz) (cEX tb tz)) (hN : ∀ k, 0 ≤ k → k < nd → nm k = cNM tb tz k ∧ ou k = cOU tb tz k ∧ pl k = cPL tb tz k)
    (hR : RT0 iu nm so ou pl pa ba en) (h1 : rI a1 0 25) (h2 : rI a2 0 3) (h3 : rI a3 (-1) 59) (h5 : rI a5 (-1) 59)
    (hQ : ∀ a1' a2' a3' a4' a5', CRd tb tz fp nd sc rsz iu nm so ou pl pa ba en a1' a2' a3' a4' a5' → Q none ((heapC tb tz tk tks tc tt iu nm ou so pl nd pa ba de en sc rsz fp ss cu os a1' a2' a3' a4' a5' b1 b2 b3 b4 b5 le fi xi0 xf0 xz0 xl0 xi1 xf1 xz1 xl1 xi2 xf2 xz2 xl2 xi3 xf3 xz3 xl3), hB)) : RNd ro (d + 3) 1 [vR 35] ((heapC tb tz tk tks tc tt iu nm ou so pl nd pa ba de en sc rsz fp ss cu os a1 a2 a3 a4 a5 b1 b2 b3 b4 b5 le fi xi0 xf0 xz0 xl0 xi1 xf1 xz1 xl1 xi2 xf2 xz2 xl2 xi3 xf3 xz3 xl3), hB) Q := by
  obtain ⟨S1, S2, S3, S4⟩ := id hS
  have g1 : rI (cpZ nm a1 0 0 60) 0 25 := rI_cp hR.2.1 h1
  have g2 : rI (cpZ ou a2 0 0 60) 0 3 := rI_cp hR.2.2.2.1 h2
  have enn : ∀ k, 0 ≤ k → k < nd → cpZ nm a1 0 0 60 k = cNM tb tz k := fun k a b => by rw [cpZ_60 a (by omega)]; exact (hN k a b).1
  have eon : ∀ k, 0 ≤ k → k < nd → cpZ ou a2 0 0 60 k = cOU tb tz k := fun k a b => by rw [cpZ_60 a (by omega)]; exact (hN k a b).2.1
  refine t_takeWritten hS hA hR.2.1 hR.2.2.2.1 h1 h2 h5 (fun t kin ht hT hK => ?_)
  have eow : ∀ s w, s < sc → OW nd (cIU tb tz) (cSO tb tz) (cEX tb tz) (cpZ nm a1 0 0 60) s w = cOW tb tz (cNM tb tz) s w := fun s w b => by unfold cOW; rw [← hh.2.1]; exact OW_ext hS enn b
  refine hQ _ _ _ _ _ ⟨hh, hS, hA, hN, fun k a b => ⟨enn k a b, eon k a b, ?_⟩, fun s w a b c e => ?_, KinOK_ext hK (fun k a b => ?_), hR, g1, g2, rI_fb h3 (fun k a b => ?_), ht⟩
  · rw [fb_in a b]
    show (if cIU tb tz k = 1 then _ else k) = _
    unfold cBT cBN
    rw [enn k a b, eon k a b, BN_ext hS enn (S3 k a b).2.2, ← hh.2.1]
  · rw [hT s w a b c e, eow s w b]
  · unfold cFM
    rw [← hh.2.1]
    refine famN_ext (fun k a b => ?_) nd.toNat (by omega) k a b
    obtain ⟨f1', f2', f3'⟩ := SFok_OW (nn := cpZ nm a1 0 0 60) hS k a b
    refine ⟨?_, f1', f2'⟩
    unfold cSF
    exact SFv_ext hS a b (fun k a b => ⟨enn k a b, by have := g1 k; omega, by have := g1 k; omega⟩) (fun s w a b c e => eow s w b)
  · show -1 ≤ (if cIU tb tz k = 1 then _ else k) ∧ (if cIU tb tz k = 1 then _ else k) ≤ 59
    split
    · rcases BN_dl (nn := cpZ nm a1 0 0 60) (o := cpZ ou a2 0 0 60 k) (w := cpZ nm a1 0 0 60 k) hS (S3 k a b).2.2 with e | ⟨e1, e2, -⟩
      · rw [e]; omega
      · omega
    · omega
set_option maxRecDepth 100000 in
set_option maxHeartbeats 4000000 in
theorem t_reread (htz : 0 ≤ tz ∧ tz ≤ 100) (htb : rI tb 0 255) (h0 : RT0 iu nm so ou pl pa ba en) (h1 : rI a1 0 25) (h2 : rI a2 0 3) (h3 : rI a3 (-1) 59) (h5 : rI a5 (-1) 59)
    (hQ : ∀ fp' nd' sc' rsz' iu' nm' so' ou' pl' pa' ba' de' en' ss' cu' os' a1' a2' a3' a4' a5', CRd tb tz fp' nd' sc' rsz' iu' nm' so' ou' pl' pa' ba' en' a1' a2' a3' a4' a5' → Q none ((heapC tb tz tk tks tc tt iu' nm' ou' so' pl' nd' pa' ba' de' en' sc' rsz' fp' ss' cu' os' a1' a2' a3' a4' a5' b1 b2 b3 b4 b5 le fi xi0 xf0 xz0 xl0 xi1 xf1 xz1 xl1 xi2 xf2 xz2 xl2 xi3 xf3 xz3 xl3), hB)) : RNd ro (d + 7) 88 [vR 0] ((heapC tb tz tk tks tc tt iu nm ou so pl nd pa ba de en sc rsz fp ss cu os a1 a2 a3 a4 a5 b1 b2 b3 b4 b5 le fi xi0 xf0 xz0 xl0 xi1 xf1 xz1 xl1 xi2 xf2 xz2 xl2 xi3 xf3 xz3 xl3), hB) Q := by
  refine WP_run [] 20 ?_
  refine t_readAll htz htb h0 ?_
  refine parse_canon (fun iu1 nm1 so1 ou1 pl1 ar1 ex1 en1 hAg => ?_)
  unfold AgP at hAg
  obtain ⟨ag1, ag2⟩ := hAg
  refine ⟨fun hfa ss' os' de' hT => ?_, fun hfa ss' cu' os' de' hRr => ?_⟩
  · obtain ⟨i1, i2, i3, i4, i5, i6, i7, i8, i9, i10, i11, i12⟩ := hT
    obtain ⟨r1, r2, r3, r4, r5, r6, r7, r8, r9⟩ := id i12
    have ea1 : cFA tb tz = -1 := hfa
    have eb1 : (pr0 tb tz).2.1 = cND tb tz := by unfold cND; rw [if_pos ea1]
    have ec1 : (pr0 tb tz).2.2.1 = cSC tb tz := by unfold cSC; rw [if_pos ea1]
    have har : cAR tb tz = (pr0 tb tz).2.2.2.2.2.2.2.2.1 := by unfold cAR; rw [if_pos ea1]
    have hex : cEX tb tz = (pr0 tb tz).2.2.2.2.2.2.2.2.2.1 := by unfold cEX; rw [if_pos ea1]
    have hTA : TAg (pr0 tb tz).2.1 (pr0 tb tz).2.2.1 iu1 so1 ar1 ex1 (cIU tb tz) (cSO tb tz) (cAR tb tz) (cEX tb tz) := by
      rw [har, hex]
      exact ⟨fun k a b => ⟨(ag1 k a b).1.symm, (ag1 k a b).2.2.1.symm⟩, fun s a b => ⟨(ag2 s a b).1.symm, (ag2 s a b).2.1.symm⟩⟩
    have hTS : TS (pr0 tb tz).2.1 (pr0 tb tz).2.2.1 (cIU tb tz) (cSO tb tz) (cAR tb tz) (cEX tb tz) := by
      refine ⟨i5, by omega, fun k a b => ?_, fun s a b => ?_⟩
      · obtain ⟨z1, z2⟩ := hTA.1 k a b
        rw [← z1, ← z2]
        exact ⟨r1 k, (r3 k).1, i11 k a b⟩
      · obtain ⟨z1, z2⟩ := hTA.2 s a b
        rw [← z1, ← z2]
        exact ⟨⟨(r6 s).1, r8 s a⟩, (r7 s).1, r9 s a⟩
    refine t_takeRead ⟨by rw [ea1], eb1, ec1, rfl⟩ hTS hTA (fun k a b => ⟨(ag1 k a b).2.1.symm, (ag1 k a b).2.2.2.1.symm, (ag1 k a b).2.2.2.2.symm⟩) ⟨r1, r2, r3, r4, r5, r6, r7, fun s s1 => r8 s (by omega), fun s s1 => r9 s (by omega), i9⟩ h1 h2 h3 h5 (fun a1' a2' a3' a4' a5' hC => ?_)
    exact hQ _ _ _ _ _ _ _ _ _ _ _ _ _ _ _ _ _ _ _ _ _ hC
  · obtain ⟨⟨r1, r2, r3, r4, r5, r6, r7, r8, r9⟩, r10⟩ := hRr
    have ea1 : ¬ cFA tb tz = -1 := hfa
    have hND : cND tb tz = 0 := by unfold cND; rw [if_neg ea1]
    have hSC : cSC tb tz = 1 := by unfold cSC; rw [if_neg ea1]
    have har : cAR tb tz = fun _ => -1 := by unfold cAR; rw [if_neg ea1]
    have hex : cEX tb tz = fun _ => -1 := by unfold cEX; rw [if_neg ea1]
    have hTA : TAg 0 1 iu1 so1 (upZ ar1 0 (-1)) (upZ ex1 0 (-1)) (cIU tb tz) (cSO tb tz) (cAR tb tz) (cEX tb tz) := by
      rw [har, hex]
      refine ⟨fun k a b => by omega, fun s a b => ?_⟩
      rw [show s = 0 by omega, upZ_s, upZ_s]
      exact ⟨rfl, rfl⟩
    have hTS : TS 0 1 (cIU tb tz) (cSO tb tz) (cAR tb tz) (cEX tb tz) := by
      rw [har, hex]
      exact ⟨by omega, by omega, fun k a b => by omega, fun s a b => (show (-1 ≤ (-1:Int) ∧ (-1:Int) < s) ∧ (-1 ≤ (-1:Int) ∧ (-1:Int) < s) by omega)⟩
    have hR0 : RT0 iu1 nm1 so1 ou1 pl1 (upZ ar1 0 (-1)) (upZ ex1 0 (-1)) (upZ en1 0 0) := by
      refine ⟨r1, r2, r3, r4, r5, rI_up r6 (by omega) (by omega), rI_up r7 (by omega) (by omega), fun s s1 => ?_, fun s s1 => ?_, rI_up r10 (by omega) (by omega)⟩
      · rw [upZ_n (by omega)]; exact r8 s (by omega)
      · rw [upZ_n (by omega)]; exact r9 s (by omega)
    refine t_takeRead ⟨rfl, hND.symm, hSC.symm, rfl⟩ hTS hTA (fun k a b => by omega) hR0 h1 h2 h3 h5 (fun a1' a2' a3' a4' a5' hC => ?_)
    exact hQ _ _ _ _ _ _ _ _ _ _ _ _ _ _ _ _ _ _ _ _ _ hC
end REREAD
