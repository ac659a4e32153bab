/-! ===== the law: its start ===== -/
section LAW2
variable {ro : Nat × (Int → Int)} {d : Nat} {Q : Option AV → AH → Prop}
set_option maxRecDepth 100000 in
set_option maxHeartbeats 4000000 in
theorem sh_0 (t : Int) : ShR (fun _ => 0) 0 0 1 t (fun _ => 0) (fun _ => 0) (fun _ => 0) (fun _ => 0) := ⟨⟨rfl, by omega, by omega⟩, ⟨rfl, by omega, by omega⟩, ⟨rfl, by omega, by omega⟩, fun _ _ _ => rfl, fun _ => ⟨by show (-2147483648 : Int) ≤ 0; omega, by show (0 : Int) ≤ 2147483647; omega⟩⟩
set_option maxRecDepth 100000 in
set_option maxHeartbeats 4000000 in
theorem lx_start (hro : ∀ j, rg (ro.2 j)) (hlen : ro.1 ≤ 3072) (hQ : ∀ h, Q (some (vI 1)) h) : WPm ro (d + 12) (RNd ro (d + 12)) 189 600000 7302250 Q 0 [vR 900, vN, vN, vN] [] ([], []) 0 0 := by
  refine WP_run [18] 40 ?_
  refine ⟨0, rfl, by decide, ?_⟩
  refine n_graph (fun fp' nd' sc' rsz' iu' nm' so' ou' pl' pa' ba' de' en' ss' cu' os' a1' a2' a3' a4' a5' hC => ?_)
  refine ⟨rfl, ?_⟩
  refine n_model ?_
  refine lx_loop hro hlen hQ 0 _ _ (mkSR ⟨rfl, rfl⟩ (by omega) (rI_z (by omega) (by omega)) hC ⟨⟨rI_z (by omega) (by omega), rI_z (by omega) (by omega), rI_z (by omega) (by omega), rI_z (by omega) (by omega), rI_z (by omega) (by omega), rI_z (by omega) (by omega), rI_z (by omega) (by omega), fun s h => by show (0 : Int) < s; omega, fun s h => by show (0 : Int) < s; omega, rI_z (by omega) (by omega)⟩, rI_z (by omega) (by omega), rI_z (by omega) (by omega), rI_z (by omega) (by omega), rI_z (by omega) (by omega), rI_z (by omega) (by omega), rI_z (by omega) (by omega)⟩ ⟨rI_z (by omega) (by omega), rI_z (by omega) (by omega), rI_z (by omega) (by omega), rI_z (by omega) (by omega)⟩ ⟨⟨rfl, by omega, by omega⟩, by omega, by omega, fun h => absurd h (by omega), fun _ => rI_z (by omega) (by omega), rI_z (by omega) (by omega), fun j a b => absurd b (by omega)⟩ ⟨rI_z (by omega) (by omega), rI_z (by omega) (by omega), rI_z (by omega) (by omega), fun _ => by unfold rg; omega⟩ ⟨sh_0 0, sh_0 1, sh_0 2, sh_0 3⟩ ⟨rfl, by omega, by omega⟩) (by omega) (by omega)
end LAW2
