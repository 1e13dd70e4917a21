/-! ===== what each stretch of each constructor does (by program wip/gen/s13c.py) ===== -/
-- LastStirred$Flock.<init>()V
set_option maxRecDepth 1000000 in
set_option maxHeartbeats 8000000 in
theorem t_0_0 (call : Nat → List Value → Sto → Option Rr) (again : Nat → j_L → List Value → Sto → Option Rr) (σ : Sto) (v0 : Nat) :
    j_seg k_0 h_0 call again 2000 0 [some (.ref v0)] [] σ =
    if (j_k 4) < 0 ∨ 100000 < (j_k 4).toNatClampNeg then none else
    let τ1 : Sto := s_al σ (.inr (.int, (j_k 4).toNatClampNeg)) (j_k 4).toNatClampNeg;
    if v0 < j_b then j_oc τ1 0 v0 (let τ2 : Sto := s_uP τ1 v0 0 (some (s_n σ));
    if (j_k 4) < 0 ∨ 100000 < (j_k 4).toNatClampNeg then none else
    let τ3 : Sto := s_al τ2 (.inr (.int, (j_k 4).toNatClampNeg)) (j_k 4).toNatClampNeg;
    if v0 < j_b then j_oc τ3 0 v0 (let τ4 : Sto := s_uP τ3 v0 1 (some (s_n τ2));
    if (j_k 4) < 0 ∨ 100000 < (j_k 4).toNatClampNeg then none else
    let τ5 : Sto := s_al τ4 (.inr (.int, (j_k 4).toNatClampNeg)) (j_k 4).toNatClampNeg;
    if v0 < j_b then j_oc τ5 0 v0 (let τ6 : Sto := s_uP τ5 v0 2 (some (s_n τ4));
    if v0 < j_b then j_oc τ6 0 v0 (let τ7 : Sto := s_uI τ6 v0 4 (j_k (-9));
    if v0 < j_b then j_oc τ7 0 v0 (let τ8 : Sto := s_uI τ7 v0 5 (j_k (-9));
    if v0 < j_b then j_oc τ8 0 v0 (let τ9 : Sto := s_uI τ8 v0 6 (j_k (-9));
    if v0 < j_b then j_oc τ9 0 v0 (let τ10 : Sto := s_uI τ9 v0 7 (j_k (-9));
    some (none, τ10)) else none) else none) else none) else none) else none) else none) else none := rfl

-- LastStirred$Ground.<init>()V
set_option maxRecDepth 1000000 in
set_option maxHeartbeats 8000000 in
theorem t_32_0 (call : Nat → List Value → Sto → Option Rr) (again : Nat → j_L → List Value → Sto → Option Rr) (σ : Sto) (v0 : Nat) :
    j_seg k_32 h_32 call again 2000 0 [some (.ref v0)] [] σ =
    if (j_k 30) < 0 ∨ 100000 < (j_k 30).toNatClampNeg then none else
    let τ1 : Sto := s_al σ (.inr (.int, (j_k 30).toNatClampNeg)) (j_k 30).toNatClampNeg;
    if v0 < j_b then j_oc τ1 1 v0 (let τ2 : Sto := s_uP τ1 v0 0 (some (s_n σ));
    if (j_k 30) < 0 ∨ 100000 < (j_k 30).toNatClampNeg then none else
    let τ3 : Sto := s_al τ2 (.inr (.int, (j_k 30).toNatClampNeg)) (j_k 30).toNatClampNeg;
    if v0 < j_b then j_oc τ3 1 v0 (let τ4 : Sto := s_uP τ3 v0 1 (some (s_n τ2));
    if (j_k 30) < 0 ∨ 100000 < (j_k 30).toNatClampNeg then none else
    let τ5 : Sto := s_al τ4 (.inr (.int, (j_k 30).toNatClampNeg)) (j_k 30).toNatClampNeg;
    if v0 < j_b then j_oc τ5 1 v0 (let τ6 : Sto := s_uP τ5 v0 2 (some (s_n τ4));
    some (none, τ6)) else none) else none) else none := rfl

-- LastStirred$Reader.<init>()V
set_option maxRecDepth 1000000 in
set_option maxHeartbeats 8000000 in
theorem t_42_0 (call : Nat → List Value → Sto → Option Rr) (again : Nat → j_L → List Value → Sto → Option Rr) (σ : Sto) (v0 : Nat) :
    j_seg k_42 h_42 call again 2000 0 [some (.ref v0)] [] σ =
    let τ1 : Sto := s_al σ (.inl 1) 6;
    j_c0 call 32 [.ref (s_n σ)] τ1 (fun τ2 =>
    if v0 < j_b then j_oc τ2 2 v0 (let τ3 : Sto := s_uP τ2 v0 0 (some (s_n σ));
    let τ4 : Sto := s_al τ3 (.inl 0) 10;
    j_c0 call 0 [.ref (s_n τ3)] τ4 (fun τ5 =>
    if v0 < j_b then j_oc τ5 2 v0 (let τ6 : Sto := s_uP τ5 v0 1 (some (s_n τ3));
    if (j_k 0) < 0 ∨ 100000 < (j_k 0).toNatClampNeg then none else
    let τ7 : Sto := s_al τ6 (.inr (.int, (j_k 0).toNatClampNeg)) (j_k 0).toNatClampNeg;
    if v0 < j_b then j_oc τ7 2 v0 (let τ8 : Sto := s_uP τ7 v0 2 (some (s_n τ6));
    some (none, τ8)) else none) else none)) else none) := rfl

-- LastStirred$Search.<init>()V
set_option maxRecDepth 1000000 in
set_option maxHeartbeats 8000000 in
theorem t_51_0 (call : Nat → List Value → Sto → Option Rr) (again : Nat → j_L → List Value → Sto → Option Rr) (σ : Sto) (v0 : Nat) :
    j_seg k_51 h_51 call again 2000 0 [some (.ref v0)] [] σ =
    if (j_k 4) < 0 ∨ 100000 < (j_k 4).toNatClampNeg then none else
    let τ1 : Sto := s_al σ (.inr (.object RX0, (j_k 4).toNatClampNeg)) (j_k 4).toNatClampNeg;
    let τ2 : Sto := s_al τ1 (.inl 0) 10;
    j_c0 call 0 [.ref (s_n τ1)] τ2 (fun τ3 =>
    j_qs τ3 (s_n σ) (j_k 0) (s_n τ1) (let τ4 : Sto := s_uP τ3 (s_n σ) (j_k 0).toNatClampNeg (some (s_n τ1));
    let τ5 : Sto := s_al τ4 (.inl 0) 10;
    j_c0 call 0 [.ref (s_n τ4)] τ5 (fun τ6 =>
    j_qs τ6 (s_n σ) (j_k 1) (s_n τ4) (let τ7 : Sto := s_uP τ6 (s_n σ) (j_k 1).toNatClampNeg (some (s_n τ4));
    let τ8 : Sto := s_al τ7 (.inl 0) 10;
    j_c0 call 0 [.ref (s_n τ7)] τ8 (fun τ9 =>
    j_qs τ9 (s_n σ) (j_k 2) (s_n τ7) (let τ10 : Sto := s_uP τ9 (s_n σ) (j_k 2).toNatClampNeg (some (s_n τ7));
    let τ11 : Sto := s_al τ10 (.inl 0) 10;
    j_c0 call 0 [.ref (s_n τ10)] τ11 (fun τ12 =>
    j_qs τ12 (s_n σ) (j_k 3) (s_n τ10) (let τ13 : Sto := s_uP τ12 (s_n σ) (j_k 3).toNatClampNeg (some (s_n τ10));
    if v0 < j_b then j_oc τ13 3 v0 (let τ14 : Sto := s_uP τ13 v0 0 (some (s_n σ));
    if (j_k 4) < 0 ∨ 100000 < (j_k 4).toNatClampNeg then none else
    let τ15 : Sto := s_al τ14 (.inr (.int, (j_k 4).toNatClampNeg)) (j_k 4).toNatClampNeg;
    if v0 < j_b then j_oc τ15 3 v0 (let τ16 : Sto := s_uP τ15 v0 1 (some (s_n τ14));
    some (none, τ16)) else none) else none)))))))) := rfl

-- LastStirred$Shelf.<init>([[I)V
set_option maxRecDepth 1000000 in
set_option maxHeartbeats 8000000 in
theorem t_59_0 (call : Nat → List Value → Sto → Option Rr) (again : Nat → j_L → List Value → Sto → Option Rr) (σ : Sto) (v0 : Nat) (v1 : Nat) :
    j_seg k_59 h_59 call again 2000 0 [some (.ref v0), some (.ref v1)] [] σ =
    if v0 < j_b then j_oc σ 4 v0 (let τ1 : Sto := s_uP σ v0 0 (some v1);
    j_len τ1 v1 (fun n2 =>
    if n2 < 0 ∨ 100000 < n2.toNatClampNeg then none else
    let τ3 : Sto := s_al τ1 (.inr (.int, n2.toNatClampNeg)) n2.toNatClampNeg;
    if v0 < j_b then j_oc τ3 4 v0 (let τ4 : Sto := s_uP τ3 v0 1 (some (s_n τ1));
    j_gP τ4 4 v0 1 (fun a5 =>
    j_c0 call 127 [.ref a5, .int (j_k (-1))] τ4 (fun τ6 =>
    some (none, τ6)))) else none)) else none := rfl

-- LastStirred$Watch.<init>()V
set_option maxRecDepth 1000000 in
set_option maxHeartbeats 8000000 in
theorem t_64_0 (call : Nat → List Value → Sto → Option Rr) (again : Nat → j_L → List Value → Sto → Option Rr) (σ : Sto) (v0 : Nat) :
    j_seg k_64 h_64 call again 2000 0 [some (.ref v0)] [] σ =
    if (j_k 3) < 0 ∨ 100000 < (j_k 3).toNatClampNeg then none else
    let τ1 : Sto := s_al σ (.inr (.object RX0, (j_k 3).toNatClampNeg)) (j_k 3).toNatClampNeg;
    let τ2 : Sto := s_al τ1 (.inl 0) 10;
    j_c0 call 0 [.ref (s_n τ1)] τ2 (fun τ3 =>
    j_qs τ3 (s_n σ) (j_k 0) (s_n τ1) (let τ4 : Sto := s_uP τ3 (s_n σ) (j_k 0).toNatClampNeg (some (s_n τ1));
    let τ5 : Sto := s_al τ4 (.inl 0) 10;
    j_c0 call 0 [.ref (s_n τ4)] τ5 (fun τ6 =>
    j_qs τ6 (s_n σ) (j_k 1) (s_n τ4) (let τ7 : Sto := s_uP τ6 (s_n σ) (j_k 1).toNatClampNeg (some (s_n τ4));
    let τ8 : Sto := s_al τ7 (.inl 0) 10;
    j_c0 call 0 [.ref (s_n τ7)] τ8 (fun τ9 =>
    j_qs τ9 (s_n σ) (j_k 2) (s_n τ7) (let τ10 : Sto := s_uP τ9 (s_n σ) (j_k 2).toNatClampNeg (some (s_n τ7));
    if v0 < j_b then j_oc τ10 5 v0 (let τ11 : Sto := s_uP τ10 v0 0 (some (s_n σ));
    some (none, τ11)) else none)))))) := rfl

-- LastStirred.<init>()V
set_option maxRecDepth 1000000 in
set_option maxHeartbeats 8000000 in
theorem t_68_0 (call : Nat → List Value → Sto → Option Rr) (again : Nat → j_L → List Value → Sto → Option Rr) (σ : Sto) (v0 : Nat) :
    j_seg k_68 h_68 call again 2000 0 [some (.ref v0)] [] σ =
    let τ1 : Sto := s_al σ (.inl 4) 2;
    if (j_k 6) < 0 ∨ (j_k 60) < 0 ∨ 1000 < (j_k 6).toNatClampNeg ∨ 1000 < (j_k 60).toNatClampNeg then none else
    let τ2 : Sto := s_mn τ1 (j_k 6).toNatClampNeg (j_k 60).toNatClampNeg;
    j_c0 call 59 [.ref (s_n σ), .ref (s_n τ1)] τ2 (fun τ3 =>
    if v0 < j_b then j_oc τ3 6 v0 (let τ4 : Sto := s_uP τ3 v0 0 (some (s_n σ));
    let τ5 : Sto := s_al τ4 (.inl 4) 2;
    if (j_k 4) < 0 ∨ (j_k 80) < 0 ∨ 1000 < (j_k 4).toNatClampNeg ∨ 1000 < (j_k 80).toNatClampNeg then none else
    let τ6 : Sto := s_mn τ5 (j_k 4).toNatClampNeg (j_k 80).toNatClampNeg;
    j_c0 call 59 [.ref (s_n τ4), .ref (s_n τ5)] τ6 (fun τ7 =>
    if v0 < j_b then j_oc τ7 6 v0 (let τ8 : Sto := s_uP τ7 v0 1 (some (s_n τ4));
    let τ9 : Sto := s_al τ8 (.inl 2) 5;
    j_c0 call 42 [.ref (s_n τ8)] τ9 (fun τ10 =>
    if v0 < j_b then j_oc τ10 6 v0 (let τ11 : Sto := s_uP τ10 v0 2 (some (s_n τ8));
    let τ12 : Sto := s_al τ11 (.inl 1) 6;
    j_c0 call 32 [.ref (s_n τ11)] τ12 (fun τ13 =>
    if v0 < j_b then j_oc τ13 6 v0 (let τ14 : Sto := s_uP τ13 v0 3 (some (s_n τ11));
    let τ15 : Sto := s_al τ14 (.inl 0) 10;
    j_c0 call 0 [.ref (s_n τ14)] τ15 (fun τ16 =>
    if v0 < j_b then j_oc τ16 6 v0 (let τ17 : Sto := s_uP τ16 v0 4 (some (s_n τ14));
    if (j_k 3) < 0 ∨ 100000 < (j_k 3).toNatClampNeg then none else
    let τ18 : Sto := s_al τ17 (.inr (.object RX0, (j_k 3).toNatClampNeg)) (j_k 3).toNatClampNeg;
    let τ19 : Sto := s_al τ18 (.inl 0) 10;
    j_c0 call 0 [.ref (s_n τ18)] τ19 (fun τ20 =>
    j_qs τ20 (s_n τ17) (j_k 0) (s_n τ18) (let τ21 : Sto := s_uP τ20 (s_n τ17) (j_k 0).toNatClampNeg (some (s_n τ18));
    let τ22 : Sto := s_al τ21 (.inl 0) 10;
    j_c0 call 0 [.ref (s_n τ21)] τ22 (fun τ23 =>
    j_qs τ23 (s_n τ17) (j_k 1) (s_n τ21) (let τ24 : Sto := s_uP τ23 (s_n τ17) (j_k 1).toNatClampNeg (some (s_n τ21));
    let τ25 : Sto := s_al τ24 (.inl 0) 10;
    j_c0 call 0 [.ref (s_n τ24)] τ25 (fun τ26 =>
    j_qs τ26 (s_n τ17) (j_k 2) (s_n τ24) (let τ27 : Sto := s_uP τ26 (s_n τ17) (j_k 2).toNatClampNeg (some (s_n τ24));
    if v0 < j_b then j_oc τ27 6 v0 (let τ28 : Sto := s_uP τ27 v0 5 (some (s_n τ17));
    let τ29 : Sto := s_al τ28 (.inl 0) 10;
    j_c0 call 0 [.ref (s_n τ28)] τ29 (fun τ30 =>
    if v0 < j_b then j_oc τ30 6 v0 (let τ31 : Sto := s_uP τ30 v0 6 (some (s_n τ28));
    if (j_k 201) < 0 ∨ 100000 < (j_k 201).toNatClampNeg then none else
    let τ32 : Sto := s_al τ31 (.inr (.long, (j_k 201).toNatClampNeg)) (j_k 201).toNatClampNeg;
    if v0 < j_b then j_oc τ32 6 v0 (let τ33 : Sto := s_uP τ32 v0 7 (some (s_n τ31));
    let τ34 : Sto := s_al τ33 (.inl 3) 9;
    j_c0 call 51 [.ref (s_n τ33)] τ34 (fun τ35 =>
    if v0 < j_b then j_oc τ35 6 v0 (let τ36 : Sto := s_uP τ35 v0 8 (some (s_n τ33));
    let τ37 : Sto := s_al τ36 (.inl 5) 4;
    j_c0 call 64 [.ref (s_n τ36)] τ37 (fun τ38 =>
    if v0 < j_b then j_oc τ38 6 v0 (let τ39 : Sto := s_uP τ38 v0 9 (some (s_n τ36));
    if (j_k 6) < 0 ∨ 100000 < (j_k 6).toNatClampNeg then none else
    let τ40 : Sto := s_al τ39 (.inr (.int, (j_k 6).toNatClampNeg)) (j_k 6).toNatClampNeg;
    if v0 < j_b then j_oc τ40 6 v0 (let τ41 : Sto := s_uP τ40 v0 10 (some (s_n τ39));
    if v0 < j_b then j_oc τ41 6 v0 (let τ42 : Sto := s_uJ τ41 v0 15 (Int64.ofNat 1);
    some (none, τ42)) else none) else none) else none)) else none)) else none) else none)) else none))))))) else none)) else none)) else none)) else none)) else none) := rfl

