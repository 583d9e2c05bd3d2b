section PP6
set_option maxHeartbeats 1000000 in
theorem pp_trace : PP_trace := by
  intro X h n hi
  obtain ⟨D, w, S, L, W, K, ⟨hm1, bk, hb, hb1, hb2⟩, hc, hl, hs, hn, hw, hk, ha, hx, hh, hp⟩ := id hi
  obtain ⟨r, hr, hr1, hr2, hr3⟩ := id hx
  have key : ∀ V : Int32, (∀ j, j < r → n = nI j → V = h.1 52 j) → (¬ isLt n r → V = -1) → ∀ v, v = nI r → E X 59 FM_trace 12 [.ref 57, .int n] (.int v :: .int 0 :: .int n :: []) h (fun r2 h2 => V = r2 ∧ Inv h2) := by
    intro V V1 V2 v hv
    subst hv
    refine (FM_trace_12 (FM_trace_13 (FM_trace_14 (Nat.le_of_ble_eq_true rfl) ?_)))
    refine FM_in_w rfl rfl (by omega) (fun j u e => ?_) (fun q => ?_)
    · subst e
      refine (FM_trace_17 (fun z => absurd z (by decide)) (fun _ => (FM_trace_20 (FM_trace_21 (FM_trace_24 (FM_trace_25n (by first | assumption | exact rfl) (by omega) (FM_trace_26 (FM_trace_30 ?_))))))))
      exact ⟨(V1 j u rfl).trans (hr3 j u), hi⟩
    · refine (FM_trace_17 (fun _ => (FM_trace_29 (FM_trace_30 ?_))) (fun z => absurd z (by decide)))
      exact ⟨V2 q, hi⟩
  have key2 : ∀ V : Int32, (∀ j, j < r → n = nI j → V = h.1 52 j) → (¬ isLt n r → V = -1) → E X 59 FM_trace 0 [.ref 57, .int n] [] h (fun r2 h2 => V = r2 ∧ Inv h2) := by
    intro V V1 V2
    refine (FM_trace_0 (FM_trace_1 (FM_trace_2 (FM_trace_3 (FM_trace_4 (FM_trace_7 (FM_trace_9 (Nat.le_of_ble_eq_true rfl) ?_)))))))
    refine FM_least_c (fun _ => key V V1 V2 _ hr2) (fun c => key V V1 V2 _ ?_)
    rw [hr2] at c
    have := fun z => c ((ltN rfl (show (50 : Int32) = nI 50 from rfl) (by omega) (by omega)).mpr z)
    have h50 : r = 50 := by
      rcases Nat.lt_or_ge r 50 with y | y
      · exact absurd y this
      · omega
    rw [h50]; rfl
  refine (FC_trace_0 (FC_trace_1 (FC_trace_2 (FC_trace_3 (FC_trace_6 (FC_trace_9 (FC_trace_10 (FC_trace_11 (Nat.le_of_ble_eq_true rfl) ?_))))))))
  refine FC_within_w rfl (congrArg (· - 1) hr1) (by omega) (fun j u e => ?_) (fun q => ?_)
  · subst e
    refine (FC_trace_14 (fun z => absurd z (by decide)) (fun _ => (FC_trace_17 (FC_trace_18 (FC_trace_21 (FC_trace_24 (FC_trace_25n (by first | assumption | exact rfl) (by omega) (FC_trace_26 (FC_trace_30 ?_)))))))))
    exact key2 _ (fun j' u' e' => by rw [nI_inj e' (by omega) (by omega)]) (fun q => absurd ⟨j, u, rfl⟩ q)
  · refine (FC_trace_14 (fun _ => (FC_trace_29 (FC_trace_30 ?_))) (fun z => absurd z (by decide)))
    exact key2 _ (fun j' u' e' => absurd ⟨j', u', e'⟩ q) (fun _ => rfl)
end PP6
