/-! ===== what each stretch of each method does (by program wip/gen) ===== -/
-- LastStirredLaw.law([I)Z
set_option maxRecDepth 1000000 in
set_option maxHeartbeats 8000000 in
theorem t_137_0 (call : Nat → List Value → Sto → Option Rr) (again : Nat → j_L → List Value → Sto → Option Rr) (σ : Sto) (v0 : Nat) :
    j_seg k_137 h_137 call again 2000 0 [some (.ref v0), none, none, none, none, none, none, none, none, none, none, none, none, none, none, none, none] [] σ =
    let τ1 : Sto := s_al σ (.inl 6) 16;
    j_c0 call 68 [.ref (s_n σ)] τ1 (fun τ2 =>
    if (j_k 64) < 0 ∨ 100000 < (j_k 64).toNatClampNeg then none else
    let τ3 : Sto := s_al τ2 (.inr (.int, (j_k 64).toNatClampNeg)) (j_k 64).toNatClampNeg;
    j_c0 call 130 [.ref v0, .int (j_k 10), .int (j_k 4), .ref (s_n τ2)] τ3 (fun τ4 =>
    j_c1 call 131 [.ref (s_n σ), .ref (s_n τ2)] τ4 (fun x6 τ5 =>
    if x6 = 0 then (if (j_k 0) = 0 ∨ (j_k 0) = 1 then some (some (.int (j_k 0)), τ5) else none)
    else j_ia τ5 (s_n τ2) (j_k 40) (
    if (j_k 4) < 0 ∨ 100000 < (j_k 4).toNatClampNeg then none else
    let τ7 : Sto := s_al τ5 (.inr (.int, (j_k 4).toNatClampNeg)) (j_k 4).toNatClampNeg;
    if (j_k 4) < 0 ∨ 100000 < (j_k 4).toNatClampNeg then none else
    let τ8 : Sto := s_al τ7 (.inr (.int, (j_k 4).toNatClampNeg)) (j_k 4).toNatClampNeg;
    again 49 [some (.ref v0), some (.ref (s_n σ)), some (.ref (s_n τ2)), some (.int (s_I τ5 (s_n τ2) (j_k 40).toNatClampNeg)), some (.ref (s_n τ5)), some (.ref (s_n τ7)), some (.int (j_k 0)), none, none, none, none, none, none, none, none, none, none] [] τ8)))) := rfl

set_option maxRecDepth 1000000 in
set_option maxHeartbeats 8000000 in
theorem t_137_49 (call : Nat → List Value → Sto → Option Rr) (again : Nat → j_L → List Value → Sto → Option Rr) (σ : Sto) (v0 : Nat) (v1 : Nat) (v2 : Nat) (v3 : Int32) (v4 : Nat) (v5 : Nat) (v6 : Int32) :
    j_seg k_137 h_137 call again 2000 49 [some (.ref v0), some (.ref v1), some (.ref v2), some (.int v3), some (.ref v4), some (.ref v5), some (.int v6), none, none, none, none, none, none, none, none, none, none] [] σ =
    if v6 < v3 then (j_ia σ v2 ((j_k 45) + v6) (
     j_is σ v4 v6 (let τ1 : Sto := s_uI σ v4 v6.toNatClampNeg (s_I σ v2 ((j_k 45) + v6).toNatClampNeg);
     again 49 [some (.ref v0), some (.ref v1), some (.ref v2), some (.int v3), some (.ref v4), some (.ref v5), some (.int (v6 + (j_k 1))), none, none, none, none, none, none, none, none, none, none] [] τ1)))
    else j_oc σ 6 v1 (j_c1 call 100 [.ref v1] σ (fun x3 τ2 =>
    j_oc τ2 6 v1 (j_c1 call 105 [.ref v1] τ2 (fun x5 τ4 =>
    again 88 [some (.ref v0), some (.ref v1), some (.ref v2), some (.int v3), some (.ref v4), some (.ref v5), some (.int x3), some (.int x5), some (.int (j_k 0)), none, none, none, none, none, none, none, none] [] τ4)))) := rfl

set_option maxRecDepth 1000000 in
set_option maxHeartbeats 8000000 in
theorem t_137_88 (call : Nat → List Value → Sto → Option Rr) (again : Nat → j_L → List Value → Sto → Option Rr) (σ : Sto) (v0 : Nat) (v1 : Nat) (v2 : Nat) (v3 : Int32) (v4 : Nat) (v5 : Nat) (v6 : Int32) (v7 : Int32) (v8 : Int32) :
    j_seg k_137 h_137 call again 2000 88 [some (.ref v0), some (.ref v1), some (.ref v2), some (.int v3), some (.ref v4), some (.ref v5), some (.int v6), some (.int v7), some (.int v8), none, none, none, none, none, none, none, none] [] σ =
    if v8 < (j_k 8) then (j_c1 call 128 [.ref v0, .int ((j_k 60) + v8)] σ (fun x2 τ1 =>
     if 0 < v3 then (if (j_k 3) = 0 then none else
      if (x2 - x2 / (j_k 3) * (j_k 3)) = 0 then (if (j_k 4) = 0 then none else
       if v3 = 0 then none else
       if (j_k 16) = 0 then none else
       if (j_k 4) = 0 then none else
       j_oc τ1 6 v1 (j_c1 call 84 [.ref v1, .int ((x2 / (j_k 4)) - (x2 / (j_k 4)) / v3 * v3), .int ((x2 / (j_k 16)) - (x2 / (j_k 16)) / (j_k 4) * (j_k 4))] τ1 (fun x4 τ3 =>
       if x4 < 0 then (j_oc τ3 6 v1 (j_c1 call 85 [.ref v1, .int (j_k 1)] τ3 (fun x6 τ5 =>
        again 209 [some (.ref v0), some (.ref v1), some (.ref v2), some (.int v3), some (.ref v4), some (.ref v5), some (.int v6), some (.int v7), some (.int v8), some (.int x2), some (.int x6), some (.int (j_k 0)), some (.int (j_k 0)), none, none, none, none] [] τ5)))
       else j_ia τ3 v5 ((x2 / (j_k 4)) - (x2 / (j_k 4)) / v3 * v3) (
       j_is τ3 v5 ((x2 / (j_k 4)) - (x2 / (j_k 4)) / v3 * v3) (let τ7 : Sto := s_uI τ3 v5 ((x2 / (j_k 4)) - (x2 / (j_k 4)) / v3 * v3).toNatClampNeg ((s_I τ3 v5 ((x2 / (j_k 4)) - (x2 / (j_k 4)) / v3 * v3).toNatClampNeg) + (j_k 1));
       j_ia τ7 v2 ((j_k 2) + x4) (
       if (s_I τ7 v2 ((j_k 2) + x4).toNatClampNeg) = (j_k 2) then (j_is τ7 v4 ((x2 / (j_k 4)) - (x2 / (j_k 4)) / v3 * v3) (let τ8 : Sto := s_uI τ7 v4 ((x2 / (j_k 4)) - (x2 / (j_k 4)) / v3 * v3).toNatClampNeg (j_k (-9));
        j_oc τ8 6 v1 (j_c1 call 83 [.ref v1] τ8 (fun x10 τ9 =>
        if x10 = ((x2 / (j_k 4)) - (x2 / (j_k 4)) / v3 * v3) then (j_oc τ9 6 v1 (j_c1 call 105 [.ref v1] τ9 (fun x12 τ11 =>
         if x12 = x4 then (j_oc τ11 6 v1 (j_c1 call 85 [.ref v1, .int (j_k 1)] τ11 (fun x14 τ13 =>
          again 209 [some (.ref v0), some (.ref v1), some (.ref v2), some (.int v3), some (.ref v4), some (.ref v5), some (.int v6), some (.int v7), some (.int v8), some (.int x2), some (.int x14), some (.int (j_k 0)), some (.int (j_k 0)), none, none, none, none] [] τ13)))
         else if (j_k 0) = 0 ∨ (j_k 0) = 1 then some (some (.int (j_k 0)), τ11) else none)))
        else if (j_k 0) = 0 ∨ (j_k 0) = 1 then some (some (.int (j_k 0)), τ9) else none))))
       else j_is τ7 v4 ((x2 / (j_k 4)) - (x2 / (j_k 4)) / v3 * v3) (let τ15 : Sto := s_uI τ7 v4 ((x2 / (j_k 4)) - (x2 / (j_k 4)) / v3 * v3).toNatClampNeg x4;
       j_oc τ15 6 v1 (j_c1 call 83 [.ref v1] τ15 (fun x17 τ16 =>
       if x17 = ((x2 / (j_k 4)) - (x2 / (j_k 4)) / v3 * v3) then (j_oc τ16 6 v1 (j_c1 call 105 [.ref v1] τ16 (fun x19 τ18 =>
        if x19 = x4 then (j_oc τ18 6 v1 (j_c1 call 85 [.ref v1, .int (j_k 1)] τ18 (fun x21 τ20 =>
         again 209 [some (.ref v0), some (.ref v1), some (.ref v2), some (.int v3), some (.ref v4), some (.ref v5), some (.int v6), some (.int v7), some (.int v8), some (.int x2), some (.int x21), some (.int (j_k 0)), some (.int (j_k 0)), none, none, none, none] [] τ20)))
        else if (j_k 0) = 0 ∨ (j_k 0) = 1 then some (some (.int (j_k 0)), τ18) else none)))
       else if (j_k 0) = 0 ∨ (j_k 0) = 1 then some (some (.int (j_k 0)), τ16) else none)))))))))
      else j_oc τ1 6 v1 (j_c1 call 85 [.ref v1, .int (j_k 1)] τ1 (fun x23 τ22 =>
      again 209 [some (.ref v0), some (.ref v1), some (.ref v2), some (.int v3), some (.ref v4), some (.ref v5), some (.int v6), some (.int v7), some (.int v8), some (.int x2), some (.int x23), some (.int (j_k 0)), some (.int (j_k 0)), none, none, none, none] [] τ22)))
     else j_oc τ1 6 v1 (j_c1 call 85 [.ref v1, .int (j_k 1)] τ1 (fun x25 τ24 =>
     again 209 [some (.ref v0), some (.ref v1), some (.ref v2), some (.int v3), some (.ref v4), some (.ref v5), some (.int v6), some (.int v7), some (.int v8), some (.int x2), some (.int x25), some (.int (j_k 0)), some (.int (j_k 0)), none, none, none, none] [] τ24))))
    else if 0 < v6 then (if (j_k 10) = 0 then none else
     if (j_k 10) = 0 then none else
     j_ia σ v4 (v7 / (j_k 10)) (
     if (s_I σ v4 (v7 / (j_k 10)).toNatClampNeg) < 0 then (j_oc σ 6 v1 (j_c1 call 90 [.ref v1, .int (j_k 0)] σ (fun x27 τ26 =>
      if x27 < 0 then (if (j_k 0) = 0 ∨ (j_k 0) = 1 then some (some (.int (j_k 0)), τ26) else none)
      else j_oc τ26 6 v1 (j_c2 call 111 [.ref v1] τ26 (fun x29 τ28 =>
      j_c1 call 134 [.ref v1] τ28 (fun x31 τ30 =>
      if x31 = 0 then (if (j_k 0) = 0 ∨ (j_k 0) = 1 then some (some (.int (j_k 0)), τ30) else none)
      else j_c1 call 135 [.ref v1, .int v3] τ30 (fun x33 τ32 =>
      if x33 = 0 then (if (j_k 0) = 0 ∨ (j_k 0) = 1 then some (some (.int (j_k 0)), τ32) else none)
      else j_c1 call 136 [.ref v1, .int v3] τ32 (fun x35 τ34 =>
      if x35 = 0 then (if (j_k 0) = 0 ∨ (j_k 0) = 1 then some (some (.int (j_k 0)), τ34) else none)
      else j_oc τ34 6 v1 (j_c1 call 91 [.ref v1, .int (j_k 0)] τ34 (fun x37 τ36 =>
      if x37 < 0 then (if (j_k 0) = 0 ∨ (j_k 0) = 1 then some (some (.int (j_k 0)), τ36) else none)
      else j_oc τ36 6 v1 (j_c2 call 111 [.ref v1] τ36 (fun x39 τ38 =>
      if (lg_cmp x39 x29) = 0 then (if (j_k 1) = 0 ∨ (j_k 1) = 1 then some (some (.int (j_k 1)), τ38) else none)
      else if (j_k 0) = 0 ∨ (j_k 0) = 1 then some (some (.int (j_k 0)), τ38) else none))))))))))))
     else j_ia σ v4 (v7 - v7 / (j_k 10) * (j_k 10)) (
     if (s_I σ v4 (v7 - v7 / (j_k 10) * (j_k 10)).toNatClampNeg) < 0 then (j_oc σ 6 v1 (j_c1 call 90 [.ref v1, .int (j_k 0)] σ (fun x41 τ40 =>
      if x41 < 0 then (if (j_k 0) = 0 ∨ (j_k 0) = 1 then some (some (.int (j_k 0)), τ40) else none)
      else j_oc τ40 6 v1 (j_c2 call 111 [.ref v1] τ40 (fun x43 τ42 =>
      j_c1 call 134 [.ref v1] τ42 (fun x45 τ44 =>
      if x45 = 0 then (if (j_k 0) = 0 ∨ (j_k 0) = 1 then some (some (.int (j_k 0)), τ44) else none)
      else j_c1 call 135 [.ref v1, .int v3] τ44 (fun x47 τ46 =>
      if x47 = 0 then (if (j_k 0) = 0 ∨ (j_k 0) = 1 then some (some (.int (j_k 0)), τ46) else none)
      else j_c1 call 136 [.ref v1, .int v3] τ46 (fun x49 τ48 =>
      if x49 = 0 then (if (j_k 0) = 0 ∨ (j_k 0) = 1 then some (some (.int (j_k 0)), τ48) else none)
      else j_oc τ48 6 v1 (j_c1 call 91 [.ref v1, .int (j_k 0)] τ48 (fun x51 τ50 =>
      if x51 < 0 then (if (j_k 0) = 0 ∨ (j_k 0) = 1 then some (some (.int (j_k 0)), τ50) else none)
      else j_oc τ50 6 v1 (j_c2 call 111 [.ref v1] τ50 (fun x53 τ52 =>
      if (lg_cmp x53 x43) = 0 then (if (j_k 1) = 0 ∨ (j_k 1) = 1 then some (some (.int (j_k 1)), τ52) else none)
      else if (j_k 0) = 0 ∨ (j_k 0) = 1 then some (some (.int (j_k 0)), τ52) else none))))))))))))
     else j_ia σ v4 (v7 / (j_k 10)) (
     j_ia σ v4 (v7 - v7 / (j_k 10) * (j_k 10)) (
     j_c1 call 132 [.ref v2, .int (s_I σ v4 (v7 / (j_k 10)).toNatClampNeg), .int (s_I σ v4 (v7 - v7 / (j_k 10) * (j_k 10)).toNatClampNeg)] σ (fun x55 τ54 =>
     if x55 < (j_k 2) then (if (j_k 0) = 0 ∨ (j_k 0) = 1 then some (some (.int (j_k 0)), τ54) else none)
     else j_oc τ54 6 v1 (j_c1 call 90 [.ref v1, .int (j_k 0)] τ54 (fun x57 τ56 =>
     if x57 < 0 then (if (j_k 0) = 0 ∨ (j_k 0) = 1 then some (some (.int (j_k 0)), τ56) else none)
     else j_oc τ56 6 v1 (j_c2 call 111 [.ref v1] τ56 (fun x59 τ58 =>
     j_c1 call 134 [.ref v1] τ58 (fun x61 τ60 =>
     if x61 = 0 then (if (j_k 0) = 0 ∨ (j_k 0) = 1 then some (some (.int (j_k 0)), τ60) else none)
     else j_c1 call 135 [.ref v1, .int v3] τ60 (fun x63 τ62 =>
     if x63 = 0 then (if (j_k 0) = 0 ∨ (j_k 0) = 1 then some (some (.int (j_k 0)), τ62) else none)
     else j_c1 call 136 [.ref v1, .int v3] τ62 (fun x65 τ64 =>
     if x65 = 0 then (if (j_k 0) = 0 ∨ (j_k 0) = 1 then some (some (.int (j_k 0)), τ64) else none)
     else j_oc τ64 6 v1 (j_c1 call 91 [.ref v1, .int (j_k 0)] τ64 (fun x67 τ66 =>
     if x67 < 0 then (if (j_k 0) = 0 ∨ (j_k 0) = 1 then some (some (.int (j_k 0)), τ66) else none)
     else j_oc τ66 6 v1 (j_c2 call 111 [.ref v1] τ66 (fun x69 τ68 =>
     if (lg_cmp x69 x59) = 0 then (if (j_k 1) = 0 ∨ (j_k 1) = 1 then some (some (.int (j_k 1)), τ68) else none)
     else if (j_k 0) = 0 ∨ (j_k 0) = 1 then some (some (.int (j_k 0)), τ68) else none)))))))))))))))))
    else j_oc σ 6 v1 (j_c1 call 90 [.ref v1, .int (j_k 0)] σ (fun x71 τ70 =>
    if x71 < 0 then (if (j_k 0) = 0 ∨ (j_k 0) = 1 then some (some (.int (j_k 0)), τ70) else none)
    else j_oc τ70 6 v1 (j_c2 call 111 [.ref v1] τ70 (fun x73 τ72 =>
    j_c1 call 134 [.ref v1] τ72 (fun x75 τ74 =>
    if x75 = 0 then (if (j_k 0) = 0 ∨ (j_k 0) = 1 then some (some (.int (j_k 0)), τ74) else none)
    else j_c1 call 135 [.ref v1, .int v3] τ74 (fun x77 τ76 =>
    if x77 = 0 then (if (j_k 0) = 0 ∨ (j_k 0) = 1 then some (some (.int (j_k 0)), τ76) else none)
    else j_c1 call 136 [.ref v1, .int v3] τ76 (fun x79 τ78 =>
    if x79 = 0 then (if (j_k 0) = 0 ∨ (j_k 0) = 1 then some (some (.int (j_k 0)), τ78) else none)
    else j_oc τ78 6 v1 (j_c1 call 91 [.ref v1, .int (j_k 0)] τ78 (fun x81 τ80 =>
    if x81 < 0 then (if (j_k 0) = 0 ∨ (j_k 0) = 1 then some (some (.int (j_k 0)), τ80) else none)
    else j_oc τ80 6 v1 (j_c2 call 111 [.ref v1] τ80 (fun x83 τ82 =>
    if (lg_cmp x83 x73) = 0 then (if (j_k 1) = 0 ∨ (j_k 1) = 1 then some (some (.int (j_k 1)), τ82) else none)
    else if (j_k 0) = 0 ∨ (j_k 0) = 1 then some (some (.int (j_k 0)), τ82) else none))))))))))) := rfl

set_option maxRecDepth 1000000 in
set_option maxHeartbeats 8000000 in
theorem t_137_209 (call : Nat → List Value → Sto → Option Rr) (again : Nat → j_L → List Value → Sto → Option Rr) (σ : Sto) (v0 : Nat) (v1 : Nat) (v2 : Nat) (v3 : Int32) (v4 : Nat) (v5 : Nat) (v6 : Int32) (v7 : Int32) (v8 : Int32) (v9 : Int32) (v10 : Int32) (v11 : Int32) (v12 : Int32) :
    j_seg k_137 h_137 call again 2000 209 [some (.ref v0), some (.ref v1), some (.ref v2), some (.int v3), some (.ref v4), some (.ref v5), some (.int v6), some (.int v7), some (.int v8), some (.int v9), some (.int v10), some (.int v11), some (.int v12), none, none, none, none] [] σ =
    if v12 < v3 then (j_oc σ 6 v1 (j_c1 call 81 [.ref v1, .int v12, .int (j_k 1)] σ (fun x2 τ1 =>
     j_c1 call 133 [.ref v1, .int x2] τ1 (fun x4 τ3 =>
     j_oc τ3 6 v1 (j_c1 call 81 [.ref v1, .int v12, .int (j_k 2)] τ3 (fun x6 τ5 =>
     j_c1 call 133 [.ref v1, .int x6] τ5 (fun x8 τ7 =>
     if ((v10 >>> (v12 &&& 31)) &&& (j_k 1)) = (j_k 1) then (if x4 < 0 then (j_ia τ7 v5 v12 (
       if (j_k 1) = 0 then (if x8 = ((s_I τ7 v5 v12.toNatClampNeg) + (j_k 0)) then (j_ia τ7 v4 v12 (
         if (s_I τ7 v4 v12.toNatClampNeg) < 0 then (if x4 < 0 then (if (j_k 1) = 0 then (if x4 < 0 then (again 367 [some (.ref v0), some (.ref v1), some (.ref v2), some (.int v3), some (.ref v4), some (.ref v5), some (.int v6), some (.int v7), some (.int v8), some (.int v9), some (.int v10), some (.int (v11 + (j_k 1))), some (.int v12), some (.int x4), some (.int x8), some (.int (j_k 1)), some (.int (j_k 0))] [] τ7)
            else j_ia τ7 v2 ((j_k 2) + x4) (
            if (s_I τ7 v2 ((j_k 2) + x4).toNatClampNeg) = (j_k 1) then (if (j_k 0) = 0 ∨ (j_k 0) = 1 then some (some (.int (j_k 0)), τ7) else none)
            else j_ia τ7 v2 ((j_k 2) + x4) (
            if (s_I τ7 v2 ((j_k 2) + x4).toNatClampNeg) = (j_k 2) then (if (j_k 0) = 0 ∨ (j_k 0) = 1 then some (some (.int (j_k 0)), τ7) else none)
            else j_ia τ7 v4 v12 (
            j_c1 call 132 [.ref v2, .int x4, .int (s_I τ7 v4 v12.toNatClampNeg)] τ7 (fun x10 τ9 =>
            if (j_k 1) = 0 then (if x10 = (j_k 0) then (again 367 [some (.ref v0), some (.ref v1), some (.ref v2), some (.int v3), some (.ref v4), some (.ref v5), some (.int v6), some (.int v7), some (.int v8), some (.int v9), some (.int v10), some (.int (v11 + (j_k 1))), some (.int v12), some (.int x4), some (.int x8), some (.int (j_k 1)), some (.int (j_k 0))] [] τ9)
             else if (j_k 0) = 0 ∨ (j_k 0) = 1 then some (some (.int (j_k 0)), τ9) else none)
            else if x10 = (j_k 1) then (again 367 [some (.ref v0), some (.ref v1), some (.ref v2), some (.int v3), some (.ref v4), some (.ref v5), some (.int v6), some (.int v7), some (.int v8), some (.int v9), some (.int v10), some (.int (v11 + (j_k 1))), some (.int v12), some (.int x4), some (.int x8), some (.int (j_k 1)), some (.int (j_k 0))] [] τ9)
            else if (j_k 0) = 0 ∨ (j_k 0) = 1 then some (some (.int (j_k 0)), τ9) else none)))))
           else if (j_k 0) = 0 ∨ (j_k 0) = 1 then some (some (.int (j_k 0)), τ7) else none)
          else if (j_k 0) = 0 ∨ (j_k 0) = 1 then some (some (.int (j_k 0)), τ7) else none)
         else if x4 < 0 then (again 367 [some (.ref v0), some (.ref v1), some (.ref v2), some (.int v3), some (.ref v4), some (.ref v5), some (.int v6), some (.int v7), some (.int v8), some (.int v9), some (.int v10), some (.int (v11 + (j_k 1))), some (.int v12), some (.int x4), some (.int x8), some (.int (j_k 1)), some (.int (j_k 0))] [] τ7)
         else j_ia τ7 v2 ((j_k 2) + x4) (
         if (s_I τ7 v2 ((j_k 2) + x4).toNatClampNeg) = (j_k 1) then (if (j_k 0) = 0 ∨ (j_k 0) = 1 then some (some (.int (j_k 0)), τ7) else none)
         else j_ia τ7 v2 ((j_k 2) + x4) (
         if (s_I τ7 v2 ((j_k 2) + x4).toNatClampNeg) = (j_k 2) then (if (j_k 0) = 0 ∨ (j_k 0) = 1 then some (some (.int (j_k 0)), τ7) else none)
         else j_ia τ7 v4 v12 (
         j_c1 call 132 [.ref v2, .int x4, .int (s_I τ7 v4 v12.toNatClampNeg)] τ7 (fun x12 τ11 =>
         if (j_k 1) = 0 then (if x12 = (j_k 0) then (again 367 [some (.ref v0), some (.ref v1), some (.ref v2), some (.int v3), some (.ref v4), some (.ref v5), some (.int v6), some (.int v7), some (.int v8), some (.int v9), some (.int v10), some (.int (v11 + (j_k 1))), some (.int v12), some (.int x4), some (.int x8), some (.int (j_k 1)), some (.int (j_k 0))] [] τ11)
          else if (j_k 0) = 0 ∨ (j_k 0) = 1 then some (some (.int (j_k 0)), τ11) else none)
         else if x12 = (j_k 1) then (again 367 [some (.ref v0), some (.ref v1), some (.ref v2), some (.int v3), some (.ref v4), some (.ref v5), some (.int v6), some (.int v7), some (.int v8), some (.int v9), some (.int v10), some (.int (v11 + (j_k 1))), some (.int v12), some (.int x4), some (.int x8), some (.int (j_k 1)), some (.int (j_k 0))] [] τ11)
         else if (j_k 0) = 0 ∨ (j_k 0) = 1 then some (some (.int (j_k 0)), τ11) else none))))))
        else if (j_k 0) = 0 ∨ (j_k 0) = 1 then some (some (.int (j_k 0)), τ7) else none)
       else if x8 = ((s_I τ7 v5 v12.toNatClampNeg) + (j_k 1)) then (j_ia τ7 v4 v12 (
        if (s_I τ7 v4 v12.toNatClampNeg) < 0 then (if x4 < 0 then (if (j_k 1) = 0 then (if x4 < 0 then (again 367 [some (.ref v0), some (.ref v1), some (.ref v2), some (.int v3), some (.ref v4), some (.ref v5), some (.int v6), some (.int v7), some (.int v8), some (.int v9), some (.int v10), some (.int (v11 + (j_k 1))), some (.int v12), some (.int x4), some (.int x8), some (.int (j_k 1)), some (.int (j_k 0))] [] τ7)
           else j_ia τ7 v2 ((j_k 2) + x4) (
           if (s_I τ7 v2 ((j_k 2) + x4).toNatClampNeg) = (j_k 1) then (if (j_k 0) = 0 ∨ (j_k 0) = 1 then some (some (.int (j_k 0)), τ7) else none)
           else j_ia τ7 v2 ((j_k 2) + x4) (
           if (s_I τ7 v2 ((j_k 2) + x4).toNatClampNeg) = (j_k 2) then (if (j_k 0) = 0 ∨ (j_k 0) = 1 then some (some (.int (j_k 0)), τ7) else none)
           else j_ia τ7 v4 v12 (
           j_c1 call 132 [.ref v2, .int x4, .int (s_I τ7 v4 v12.toNatClampNeg)] τ7 (fun x14 τ13 =>
           if (j_k 1) = 0 then (if x14 = (j_k 0) then (again 367 [some (.ref v0), some (.ref v1), some (.ref v2), some (.int v3), some (.ref v4), some (.ref v5), some (.int v6), some (.int v7), some (.int v8), some (.int v9), some (.int v10), some (.int (v11 + (j_k 1))), some (.int v12), some (.int x4), some (.int x8), some (.int (j_k 1)), some (.int (j_k 0))] [] τ13)
            else if (j_k 0) = 0 ∨ (j_k 0) = 1 then some (some (.int (j_k 0)), τ13) else none)
           else if x14 = (j_k 1) then (again 367 [some (.ref v0), some (.ref v1), some (.ref v2), some (.int v3), some (.ref v4), some (.ref v5), some (.int v6), some (.int v7), some (.int v8), some (.int v9), some (.int v10), some (.int (v11 + (j_k 1))), some (.int v12), some (.int x4), some (.int x8), some (.int (j_k 1)), some (.int (j_k 0))] [] τ13)
           else if (j_k 0) = 0 ∨ (j_k 0) = 1 then some (some (.int (j_k 0)), τ13) else none)))))
          else if (j_k 0) = 0 ∨ (j_k 0) = 1 then some (some (.int (j_k 0)), τ7) else none)
         else if (j_k 0) = 0 ∨ (j_k 0) = 1 then some (some (.int (j_k 0)), τ7) else none)
        else if x4 < 0 then (again 367 [some (.ref v0), some (.ref v1), some (.ref v2), some (.int v3), some (.ref v4), some (.ref v5), some (.int v6), some (.int v7), some (.int v8), some (.int v9), some (.int v10), some (.int (v11 + (j_k 1))), some (.int v12), some (.int x4), some (.int x8), some (.int (j_k 1)), some (.int (j_k 0))] [] τ7)
        else j_ia τ7 v2 ((j_k 2) + x4) (
        if (s_I τ7 v2 ((j_k 2) + x4).toNatClampNeg) = (j_k 1) then (if (j_k 0) = 0 ∨ (j_k 0) = 1 then some (some (.int (j_k 0)), τ7) else none)
        else j_ia τ7 v2 ((j_k 2) + x4) (
        if (s_I τ7 v2 ((j_k 2) + x4).toNatClampNeg) = (j_k 2) then (if (j_k 0) = 0 ∨ (j_k 0) = 1 then some (some (.int (j_k 0)), τ7) else none)
        else j_ia τ7 v4 v12 (
        j_c1 call 132 [.ref v2, .int x4, .int (s_I τ7 v4 v12.toNatClampNeg)] τ7 (fun x16 τ15 =>
        if (j_k 1) = 0 then (if x16 = (j_k 0) then (again 367 [some (.ref v0), some (.ref v1), some (.ref v2), some (.int v3), some (.ref v4), some (.ref v5), some (.int v6), some (.int v7), some (.int v8), some (.int v9), some (.int v10), some (.int (v11 + (j_k 1))), some (.int v12), some (.int x4), some (.int x8), some (.int (j_k 1)), some (.int (j_k 0))] [] τ15)
         else if (j_k 0) = 0 ∨ (j_k 0) = 1 then some (some (.int (j_k 0)), τ15) else none)
        else if x16 = (j_k 1) then (again 367 [some (.ref v0), some (.ref v1), some (.ref v2), some (.int v3), some (.ref v4), some (.ref v5), some (.int v6), some (.int v7), some (.int v8), some (.int v9), some (.int v10), some (.int (v11 + (j_k 1))), some (.int v12), some (.int x4), some (.int x8), some (.int (j_k 1)), some (.int (j_k 0))] [] τ15)
        else if (j_k 0) = 0 ∨ (j_k 0) = 1 then some (some (.int (j_k 0)), τ15) else none))))))
       else if (j_k 0) = 0 ∨ (j_k 0) = 1 then some (some (.int (j_k 0)), τ7) else none))
      else j_ia τ7 v5 v12 (
      if (j_k 1) = 0 then (if x8 = ((s_I τ7 v5 v12.toNatClampNeg) + (j_k 0)) then (j_ia τ7 v4 v12 (
        if (s_I τ7 v4 v12.toNatClampNeg) < 0 then (if x4 < 0 then (if (j_k 1) = 0 then (if x4 < 0 then (again 367 [some (.ref v0), some (.ref v1), some (.ref v2), some (.int v3), some (.ref v4), some (.ref v5), some (.int v6), some (.int v7), some (.int v8), some (.int v9), some (.int v10), some (.int (v11 + (j_k 0))), some (.int v12), some (.int x4), some (.int x8), some (.int (j_k 1)), some (.int (j_k 0))] [] τ7)
           else j_ia τ7 v2 ((j_k 2) + x4) (
           if (s_I τ7 v2 ((j_k 2) + x4).toNatClampNeg) = (j_k 1) then (if (j_k 0) = 0 ∨ (j_k 0) = 1 then some (some (.int (j_k 0)), τ7) else none)
           else j_ia τ7 v2 ((j_k 2) + x4) (
           if (s_I τ7 v2 ((j_k 2) + x4).toNatClampNeg) = (j_k 2) then (if (j_k 0) = 0 ∨ (j_k 0) = 1 then some (some (.int (j_k 0)), τ7) else none)
           else j_ia τ7 v4 v12 (
           j_c1 call 132 [.ref v2, .int x4, .int (s_I τ7 v4 v12.toNatClampNeg)] τ7 (fun x18 τ17 =>
           if (j_k 1) = 0 then (if x18 = (j_k 0) then (again 367 [some (.ref v0), some (.ref v1), some (.ref v2), some (.int v3), some (.ref v4), some (.ref v5), some (.int v6), some (.int v7), some (.int v8), some (.int v9), some (.int v10), some (.int (v11 + (j_k 0))), some (.int v12), some (.int x4), some (.int x8), some (.int (j_k 1)), some (.int (j_k 0))] [] τ17)
            else if (j_k 0) = 0 ∨ (j_k 0) = 1 then some (some (.int (j_k 0)), τ17) else none)
           else if x18 = (j_k 1) then (again 367 [some (.ref v0), some (.ref v1), some (.ref v2), some (.int v3), some (.ref v4), some (.ref v5), some (.int v6), some (.int v7), some (.int v8), some (.int v9), some (.int v10), some (.int (v11 + (j_k 0))), some (.int v12), some (.int x4), some (.int x8), some (.int (j_k 1)), some (.int (j_k 0))] [] τ17)
           else if (j_k 0) = 0 ∨ (j_k 0) = 1 then some (some (.int (j_k 0)), τ17) else none)))))
          else if (j_k 0) = 0 ∨ (j_k 0) = 1 then some (some (.int (j_k 0)), τ7) else none)
         else if (j_k 0) = 0 ∨ (j_k 0) = 1 then some (some (.int (j_k 0)), τ7) else none)
        else if x4 < 0 then (again 367 [some (.ref v0), some (.ref v1), some (.ref v2), some (.int v3), some (.ref v4), some (.ref v5), some (.int v6), some (.int v7), some (.int v8), some (.int v9), some (.int v10), some (.int (v11 + (j_k 0))), some (.int v12), some (.int x4), some (.int x8), some (.int (j_k 1)), some (.int (j_k 0))] [] τ7)
        else j_ia τ7 v2 ((j_k 2) + x4) (
        if (s_I τ7 v2 ((j_k 2) + x4).toNatClampNeg) = (j_k 1) then (if (j_k 0) = 0 ∨ (j_k 0) = 1 then some (some (.int (j_k 0)), τ7) else none)
        else j_ia τ7 v2 ((j_k 2) + x4) (
        if (s_I τ7 v2 ((j_k 2) + x4).toNatClampNeg) = (j_k 2) then (if (j_k 0) = 0 ∨ (j_k 0) = 1 then some (some (.int (j_k 0)), τ7) else none)
        else j_ia τ7 v4 v12 (
        j_c1 call 132 [.ref v2, .int x4, .int (s_I τ7 v4 v12.toNatClampNeg)] τ7 (fun x20 τ19 =>
        if (j_k 1) = 0 then (if x20 = (j_k 0) then (again 367 [some (.ref v0), some (.ref v1), some (.ref v2), some (.int v3), some (.ref v4), some (.ref v5), some (.int v6), some (.int v7), some (.int v8), some (.int v9), some (.int v10), some (.int (v11 + (j_k 0))), some (.int v12), some (.int x4), some (.int x8), some (.int (j_k 1)), some (.int (j_k 0))] [] τ19)
         else if (j_k 0) = 0 ∨ (j_k 0) = 1 then some (some (.int (j_k 0)), τ19) else none)
        else if x20 = (j_k 1) then (again 367 [some (.ref v0), some (.ref v1), some (.ref v2), some (.int v3), some (.ref v4), some (.ref v5), some (.int v6), some (.int v7), some (.int v8), some (.int v9), some (.int v10), some (.int (v11 + (j_k 0))), some (.int v12), some (.int x4), some (.int x8), some (.int (j_k 1)), some (.int (j_k 0))] [] τ19)
        else if (j_k 0) = 0 ∨ (j_k 0) = 1 then some (some (.int (j_k 0)), τ19) else none))))))
       else if (j_k 0) = 0 ∨ (j_k 0) = 1 then some (some (.int (j_k 0)), τ7) else none)
      else if x8 = ((s_I τ7 v5 v12.toNatClampNeg) + (j_k 1)) then (j_ia τ7 v4 v12 (
       if (s_I τ7 v4 v12.toNatClampNeg) < 0 then (if x4 < 0 then (if (j_k 1) = 0 then (if x4 < 0 then (again 367 [some (.ref v0), some (.ref v1), some (.ref v2), some (.int v3), some (.ref v4), some (.ref v5), some (.int v6), some (.int v7), some (.int v8), some (.int v9), some (.int v10), some (.int (v11 + (j_k 0))), some (.int v12), some (.int x4), some (.int x8), some (.int (j_k 1)), some (.int (j_k 0))] [] τ7)
          else j_ia τ7 v2 ((j_k 2) + x4) (
          if (s_I τ7 v2 ((j_k 2) + x4).toNatClampNeg) = (j_k 1) then (if (j_k 0) = 0 ∨ (j_k 0) = 1 then some (some (.int (j_k 0)), τ7) else none)
          else j_ia τ7 v2 ((j_k 2) + x4) (
          if (s_I τ7 v2 ((j_k 2) + x4).toNatClampNeg) = (j_k 2) then (if (j_k 0) = 0 ∨ (j_k 0) = 1 then some (some (.int (j_k 0)), τ7) else none)
          else j_ia τ7 v4 v12 (
          j_c1 call 132 [.ref v2, .int x4, .int (s_I τ7 v4 v12.toNatClampNeg)] τ7 (fun x22 τ21 =>
          if (j_k 1) = 0 then (if x22 = (j_k 0) then (again 367 [some (.ref v0), some (.ref v1), some (.ref v2), some (.int v3), some (.ref v4), some (.ref v5), some (.int v6), some (.int v7), some (.int v8), some (.int v9), some (.int v10), some (.int (v11 + (j_k 0))), some (.int v12), some (.int x4), some (.int x8), some (.int (j_k 1)), some (.int (j_k 0))] [] τ21)
           else if (j_k 0) = 0 ∨ (j_k 0) = 1 then some (some (.int (j_k 0)), τ21) else none)
          else if x22 = (j_k 1) then (again 367 [some (.ref v0), some (.ref v1), some (.ref v2), some (.int v3), some (.ref v4), some (.ref v5), some (.int v6), some (.int v7), some (.int v8), some (.int v9), some (.int v10), some (.int (v11 + (j_k 0))), some (.int v12), some (.int x4), some (.int x8), some (.int (j_k 1)), some (.int (j_k 0))] [] τ21)
          else if (j_k 0) = 0 ∨ (j_k 0) = 1 then some (some (.int (j_k 0)), τ21) else none)))))
         else if (j_k 0) = 0 ∨ (j_k 0) = 1 then some (some (.int (j_k 0)), τ7) else none)
        else if (j_k 0) = 0 ∨ (j_k 0) = 1 then some (some (.int (j_k 0)), τ7) else none)
       else if x4 < 0 then (again 367 [some (.ref v0), some (.ref v1), some (.ref v2), some (.int v3), some (.ref v4), some (.ref v5), some (.int v6), some (.int v7), some (.int v8), some (.int v9), some (.int v10), some (.int (v11 + (j_k 0))), some (.int v12), some (.int x4), some (.int x8), some (.int (j_k 1)), some (.int (j_k 0))] [] τ7)
       else j_ia τ7 v2 ((j_k 2) + x4) (
       if (s_I τ7 v2 ((j_k 2) + x4).toNatClampNeg) = (j_k 1) then (if (j_k 0) = 0 ∨ (j_k 0) = 1 then some (some (.int (j_k 0)), τ7) else none)
       else j_ia τ7 v2 ((j_k 2) + x4) (
       if (s_I τ7 v2 ((j_k 2) + x4).toNatClampNeg) = (j_k 2) then (if (j_k 0) = 0 ∨ (j_k 0) = 1 then some (some (.int (j_k 0)), τ7) else none)
       else j_ia τ7 v4 v12 (
       j_c1 call 132 [.ref v2, .int x4, .int (s_I τ7 v4 v12.toNatClampNeg)] τ7 (fun x24 τ23 =>
       if (j_k 1) = 0 then (if x24 = (j_k 0) then (again 367 [some (.ref v0), some (.ref v1), some (.ref v2), some (.int v3), some (.ref v4), some (.ref v5), some (.int v6), some (.int v7), some (.int v8), some (.int v9), some (.int v10), some (.int (v11 + (j_k 0))), some (.int v12), some (.int x4), some (.int x8), some (.int (j_k 1)), some (.int (j_k 0))] [] τ23)
        else if (j_k 0) = 0 ∨ (j_k 0) = 1 then some (some (.int (j_k 0)), τ23) else none)
       else if x24 = (j_k 1) then (again 367 [some (.ref v0), some (.ref v1), some (.ref v2), some (.int v3), some (.ref v4), some (.ref v5), some (.int v6), some (.int v7), some (.int v8), some (.int v9), some (.int v10), some (.int (v11 + (j_k 0))), some (.int v12), some (.int x4), some (.int x8), some (.int (j_k 1)), some (.int (j_k 0))] [] τ23)
       else if (j_k 0) = 0 ∨ (j_k 0) = 1 then some (some (.int (j_k 0)), τ23) else none))))))
      else if (j_k 0) = 0 ∨ (j_k 0) = 1 then some (some (.int (j_k 0)), τ7) else none))
     else if x4 < 0 then (j_ia τ7 v5 v12 (
      if (j_k 0) = 0 then (if x8 = ((s_I τ7 v5 v12.toNatClampNeg) + (j_k 0)) then (j_ia τ7 v4 v12 (
        if (s_I τ7 v4 v12.toNatClampNeg) < 0 then (if x4 < 0 then (if (j_k 0) = 0 then (if x4 < 0 then (again 367 [some (.ref v0), some (.ref v1), some (.ref v2), some (.int v3), some (.ref v4), some (.ref v5), some (.int v6), some (.int v7), some (.int v8), some (.int v9), some (.int v10), some (.int (v11 + (j_k 1))), some (.int v12), some (.int x4), some (.int x8), some (.int (j_k 0)), some (.int (j_k 0))] [] τ7)
           else j_ia τ7 v2 ((j_k 2) + x4) (
           if (s_I τ7 v2 ((j_k 2) + x4).toNatClampNeg) = (j_k 1) then (if (j_k 0) = 0 ∨ (j_k 0) = 1 then some (some (.int (j_k 0)), τ7) else none)
           else j_ia τ7 v2 ((j_k 2) + x4) (
           if (s_I τ7 v2 ((j_k 2) + x4).toNatClampNeg) = (j_k 2) then (if (j_k 0) = 0 ∨ (j_k 0) = 1 then some (some (.int (j_k 0)), τ7) else none)
           else j_ia τ7 v4 v12 (
           j_c1 call 132 [.ref v2, .int x4, .int (s_I τ7 v4 v12.toNatClampNeg)] τ7 (fun x26 τ25 =>
           if (j_k 0) = 0 then (if x26 = (j_k 0) then (again 367 [some (.ref v0), some (.ref v1), some (.ref v2), some (.int v3), some (.ref v4), some (.ref v5), some (.int v6), some (.int v7), some (.int v8), some (.int v9), some (.int v10), some (.int (v11 + (j_k 1))), some (.int v12), some (.int x4), some (.int x8), some (.int (j_k 0)), some (.int (j_k 0))] [] τ25)
            else if (j_k 0) = 0 ∨ (j_k 0) = 1 then some (some (.int (j_k 0)), τ25) else none)
           else if x26 = (j_k 1) then (again 367 [some (.ref v0), some (.ref v1), some (.ref v2), some (.int v3), some (.ref v4), some (.ref v5), some (.int v6), some (.int v7), some (.int v8), some (.int v9), some (.int v10), some (.int (v11 + (j_k 1))), some (.int v12), some (.int x4), some (.int x8), some (.int (j_k 0)), some (.int (j_k 0))] [] τ25)
           else if (j_k 0) = 0 ∨ (j_k 0) = 1 then some (some (.int (j_k 0)), τ25) else none)))))
          else if (j_k 0) = 0 ∨ (j_k 0) = 1 then some (some (.int (j_k 0)), τ7) else none)
         else if (j_k 0) = 0 ∨ (j_k 0) = 1 then some (some (.int (j_k 0)), τ7) else none)
        else if x4 < 0 then (again 367 [some (.ref v0), some (.ref v1), some (.ref v2), some (.int v3), some (.ref v4), some (.ref v5), some (.int v6), some (.int v7), some (.int v8), some (.int v9), some (.int v10), some (.int (v11 + (j_k 1))), some (.int v12), some (.int x4), some (.int x8), some (.int (j_k 0)), some (.int (j_k 0))] [] τ7)
        else j_ia τ7 v2 ((j_k 2) + x4) (
        if (s_I τ7 v2 ((j_k 2) + x4).toNatClampNeg) = (j_k 1) then (if (j_k 0) = 0 ∨ (j_k 0) = 1 then some (some (.int (j_k 0)), τ7) else none)
        else j_ia τ7 v2 ((j_k 2) + x4) (
        if (s_I τ7 v2 ((j_k 2) + x4).toNatClampNeg) = (j_k 2) then (if (j_k 0) = 0 ∨ (j_k 0) = 1 then some (some (.int (j_k 0)), τ7) else none)
        else j_ia τ7 v4 v12 (
        j_c1 call 132 [.ref v2, .int x4, .int (s_I τ7 v4 v12.toNatClampNeg)] τ7 (fun x28 τ27 =>
        if (j_k 0) = 0 then (if x28 = (j_k 0) then (again 367 [some (.ref v0), some (.ref v1), some (.ref v2), some (.int v3), some (.ref v4), some (.ref v5), some (.int v6), some (.int v7), some (.int v8), some (.int v9), some (.int v10), some (.int (v11 + (j_k 1))), some (.int v12), some (.int x4), some (.int x8), some (.int (j_k 0)), some (.int (j_k 0))] [] τ27)
         else if (j_k 0) = 0 ∨ (j_k 0) = 1 then some (some (.int (j_k 0)), τ27) else none)
        else if x28 = (j_k 1) then (again 367 [some (.ref v0), some (.ref v1), some (.ref v2), some (.int v3), some (.ref v4), some (.ref v5), some (.int v6), some (.int v7), some (.int v8), some (.int v9), some (.int v10), some (.int (v11 + (j_k 1))), some (.int v12), some (.int x4), some (.int x8), some (.int (j_k 0)), some (.int (j_k 0))] [] τ27)
        else if (j_k 0) = 0 ∨ (j_k 0) = 1 then some (some (.int (j_k 0)), τ27) else none))))))
       else if (j_k 0) = 0 ∨ (j_k 0) = 1 then some (some (.int (j_k 0)), τ7) else none)
      else if x8 = ((s_I τ7 v5 v12.toNatClampNeg) + (j_k 1)) then (j_ia τ7 v4 v12 (
       if (s_I τ7 v4 v12.toNatClampNeg) < 0 then (if x4 < 0 then (if (j_k 0) = 0 then (if x4 < 0 then (again 367 [some (.ref v0), some (.ref v1), some (.ref v2), some (.int v3), some (.ref v4), some (.ref v5), some (.int v6), some (.int v7), some (.int v8), some (.int v9), some (.int v10), some (.int (v11 + (j_k 1))), some (.int v12), some (.int x4), some (.int x8), some (.int (j_k 0)), some (.int (j_k 0))] [] τ7)
          else j_ia τ7 v2 ((j_k 2) + x4) (
          if (s_I τ7 v2 ((j_k 2) + x4).toNatClampNeg) = (j_k 1) then (if (j_k 0) = 0 ∨ (j_k 0) = 1 then some (some (.int (j_k 0)), τ7) else none)
          else j_ia τ7 v2 ((j_k 2) + x4) (
          if (s_I τ7 v2 ((j_k 2) + x4).toNatClampNeg) = (j_k 2) then (if (j_k 0) = 0 ∨ (j_k 0) = 1 then some (some (.int (j_k 0)), τ7) else none)
          else j_ia τ7 v4 v12 (
          j_c1 call 132 [.ref v2, .int x4, .int (s_I τ7 v4 v12.toNatClampNeg)] τ7 (fun x30 τ29 =>
          if (j_k 0) = 0 then (if x30 = (j_k 0) then (again 367 [some (.ref v0), some (.ref v1), some (.ref v2), some (.int v3), some (.ref v4), some (.ref v5), some (.int v6), some (.int v7), some (.int v8), some (.int v9), some (.int v10), some (.int (v11 + (j_k 1))), some (.int v12), some (.int x4), some (.int x8), some (.int (j_k 0)), some (.int (j_k 0))] [] τ29)
           else if (j_k 0) = 0 ∨ (j_k 0) = 1 then some (some (.int (j_k 0)), τ29) else none)
          else if x30 = (j_k 1) then (again 367 [some (.ref v0), some (.ref v1), some (.ref v2), some (.int v3), some (.ref v4), some (.ref v5), some (.int v6), some (.int v7), some (.int v8), some (.int v9), some (.int v10), some (.int (v11 + (j_k 1))), some (.int v12), some (.int x4), some (.int x8), some (.int (j_k 0)), some (.int (j_k 0))] [] τ29)
          else if (j_k 0) = 0 ∨ (j_k 0) = 1 then some (some (.int (j_k 0)), τ29) else none)))))
         else if (j_k 0) = 0 ∨ (j_k 0) = 1 then some (some (.int (j_k 0)), τ7) else none)
        else if (j_k 0) = 0 ∨ (j_k 0) = 1 then some (some (.int (j_k 0)), τ7) else none)
       else if x4 < 0 then (again 367 [some (.ref v0), some (.ref v1), some (.ref v2), some (.int v3), some (.ref v4), some (.ref v5), some (.int v6), some (.int v7), some (.int v8), some (.int v9), some (.int v10), some (.int (v11 + (j_k 1))), some (.int v12), some (.int x4), some (.int x8), some (.int (j_k 0)), some (.int (j_k 0))] [] τ7)
       else j_ia τ7 v2 ((j_k 2) + x4) (
       if (s_I τ7 v2 ((j_k 2) + x4).toNatClampNeg) = (j_k 1) then (if (j_k 0) = 0 ∨ (j_k 0) = 1 then some (some (.int (j_k 0)), τ7) else none)
       else j_ia τ7 v2 ((j_k 2) + x4) (
       if (s_I τ7 v2 ((j_k 2) + x4).toNatClampNeg) = (j_k 2) then (if (j_k 0) = 0 ∨ (j_k 0) = 1 then some (some (.int (j_k 0)), τ7) else none)
       else j_ia τ7 v4 v12 (
       j_c1 call 132 [.ref v2, .int x4, .int (s_I τ7 v4 v12.toNatClampNeg)] τ7 (fun x32 τ31 =>
       if (j_k 0) = 0 then (if x32 = (j_k 0) then (again 367 [some (.ref v0), some (.ref v1), some (.ref v2), some (.int v3), some (.ref v4), some (.ref v5), some (.int v6), some (.int v7), some (.int v8), some (.int v9), some (.int v10), some (.int (v11 + (j_k 1))), some (.int v12), some (.int x4), some (.int x8), some (.int (j_k 0)), some (.int (j_k 0))] [] τ31)
        else if (j_k 0) = 0 ∨ (j_k 0) = 1 then some (some (.int (j_k 0)), τ31) else none)
       else if x32 = (j_k 1) then (again 367 [some (.ref v0), some (.ref v1), some (.ref v2), some (.int v3), some (.ref v4), some (.ref v5), some (.int v6), some (.int v7), some (.int v8), some (.int v9), some (.int v10), some (.int (v11 + (j_k 1))), some (.int v12), some (.int x4), some (.int x8), some (.int (j_k 0)), some (.int (j_k 0))] [] τ31)
       else if (j_k 0) = 0 ∨ (j_k 0) = 1 then some (some (.int (j_k 0)), τ31) else none))))))
      else if (j_k 0) = 0 ∨ (j_k 0) = 1 then some (some (.int (j_k 0)), τ7) else none))
     else j_ia τ7 v5 v12 (
     if (j_k 0) = 0 then (if x8 = ((s_I τ7 v5 v12.toNatClampNeg) + (j_k 0)) then (j_ia τ7 v4 v12 (
       if (s_I τ7 v4 v12.toNatClampNeg) < 0 then (if x4 < 0 then (if (j_k 0) = 0 then (if x4 < 0 then (again 367 [some (.ref v0), some (.ref v1), some (.ref v2), some (.int v3), some (.ref v4), some (.ref v5), some (.int v6), some (.int v7), some (.int v8), some (.int v9), some (.int v10), some (.int (v11 + (j_k 0))), some (.int v12), some (.int x4), some (.int x8), some (.int (j_k 0)), some (.int (j_k 0))] [] τ7)
          else j_ia τ7 v2 ((j_k 2) + x4) (
          if (s_I τ7 v2 ((j_k 2) + x4).toNatClampNeg) = (j_k 1) then (if (j_k 0) = 0 ∨ (j_k 0) = 1 then some (some (.int (j_k 0)), τ7) else none)
          else j_ia τ7 v2 ((j_k 2) + x4) (
          if (s_I τ7 v2 ((j_k 2) + x4).toNatClampNeg) = (j_k 2) then (if (j_k 0) = 0 ∨ (j_k 0) = 1 then some (some (.int (j_k 0)), τ7) else none)
          else j_ia τ7 v4 v12 (
          j_c1 call 132 [.ref v2, .int x4, .int (s_I τ7 v4 v12.toNatClampNeg)] τ7 (fun x34 τ33 =>
          if (j_k 0) = 0 then (if x34 = (j_k 0) then (again 367 [some (.ref v0), some (.ref v1), some (.ref v2), some (.int v3), some (.ref v4), some (.ref v5), some (.int v6), some (.int v7), some (.int v8), some (.int v9), some (.int v10), some (.int (v11 + (j_k 0))), some (.int v12), some (.int x4), some (.int x8), some (.int (j_k 0)), some (.int (j_k 0))] [] τ33)
           else if (j_k 0) = 0 ∨ (j_k 0) = 1 then some (some (.int (j_k 0)), τ33) else none)
          else if x34 = (j_k 1) then (again 367 [some (.ref v0), some (.ref v1), some (.ref v2), some (.int v3), some (.ref v4), some (.ref v5), some (.int v6), some (.int v7), some (.int v8), some (.int v9), some (.int v10), some (.int (v11 + (j_k 0))), some (.int v12), some (.int x4), some (.int x8), some (.int (j_k 0)), some (.int (j_k 0))] [] τ33)
          else if (j_k 0) = 0 ∨ (j_k 0) = 1 then some (some (.int (j_k 0)), τ33) else none)))))
         else if (j_k 0) = 0 ∨ (j_k 0) = 1 then some (some (.int (j_k 0)), τ7) else none)
        else if (j_k 0) = 0 ∨ (j_k 0) = 1 then some (some (.int (j_k 0)), τ7) else none)
       else if x4 < 0 then (again 367 [some (.ref v0), some (.ref v1), some (.ref v2), some (.int v3), some (.ref v4), some (.ref v5), some (.int v6), some (.int v7), some (.int v8), some (.int v9), some (.int v10), some (.int (v11 + (j_k 0))), some (.int v12), some (.int x4), some (.int x8), some (.int (j_k 0)), some (.int (j_k 0))] [] τ7)
       else j_ia τ7 v2 ((j_k 2) + x4) (
       if (s_I τ7 v2 ((j_k 2) + x4).toNatClampNeg) = (j_k 1) then (if (j_k 0) = 0 ∨ (j_k 0) = 1 then some (some (.int (j_k 0)), τ7) else none)
       else j_ia τ7 v2 ((j_k 2) + x4) (
       if (s_I τ7 v2 ((j_k 2) + x4).toNatClampNeg) = (j_k 2) then (if (j_k 0) = 0 ∨ (j_k 0) = 1 then some (some (.int (j_k 0)), τ7) else none)
       else j_ia τ7 v4 v12 (
       j_c1 call 132 [.ref v2, .int x4, .int (s_I τ7 v4 v12.toNatClampNeg)] τ7 (fun x36 τ35 =>
       if (j_k 0) = 0 then (if x36 = (j_k 0) then (again 367 [some (.ref v0), some (.ref v1), some (.ref v2), some (.int v3), some (.ref v4), some (.ref v5), some (.int v6), some (.int v7), some (.int v8), some (.int v9), some (.int v10), some (.int (v11 + (j_k 0))), some (.int v12), some (.int x4), some (.int x8), some (.int (j_k 0)), some (.int (j_k 0))] [] τ35)
        else if (j_k 0) = 0 ∨ (j_k 0) = 1 then some (some (.int (j_k 0)), τ35) else none)
       else if x36 = (j_k 1) then (again 367 [some (.ref v0), some (.ref v1), some (.ref v2), some (.int v3), some (.ref v4), some (.ref v5), some (.int v6), some (.int v7), some (.int v8), some (.int v9), some (.int v10), some (.int (v11 + (j_k 0))), some (.int v12), some (.int x4), some (.int x8), some (.int (j_k 0)), some (.int (j_k 0))] [] τ35)
       else if (j_k 0) = 0 ∨ (j_k 0) = 1 then some (some (.int (j_k 0)), τ35) else none))))))
      else if (j_k 0) = 0 ∨ (j_k 0) = 1 then some (some (.int (j_k 0)), τ7) else none)
     else if x8 = ((s_I τ7 v5 v12.toNatClampNeg) + (j_k 1)) then (j_ia τ7 v4 v12 (
      if (s_I τ7 v4 v12.toNatClampNeg) < 0 then (if x4 < 0 then (if (j_k 0) = 0 then (if x4 < 0 then (again 367 [some (.ref v0), some (.ref v1), some (.ref v2), some (.int v3), some (.ref v4), some (.ref v5), some (.int v6), some (.int v7), some (.int v8), some (.int v9), some (.int v10), some (.int (v11 + (j_k 0))), some (.int v12), some (.int x4), some (.int x8), some (.int (j_k 0)), some (.int (j_k 0))] [] τ7)
         else j_ia τ7 v2 ((j_k 2) + x4) (
         if (s_I τ7 v2 ((j_k 2) + x4).toNatClampNeg) = (j_k 1) then (if (j_k 0) = 0 ∨ (j_k 0) = 1 then some (some (.int (j_k 0)), τ7) else none)
         else j_ia τ7 v2 ((j_k 2) + x4) (
         if (s_I τ7 v2 ((j_k 2) + x4).toNatClampNeg) = (j_k 2) then (if (j_k 0) = 0 ∨ (j_k 0) = 1 then some (some (.int (j_k 0)), τ7) else none)
         else j_ia τ7 v4 v12 (
         j_c1 call 132 [.ref v2, .int x4, .int (s_I τ7 v4 v12.toNatClampNeg)] τ7 (fun x38 τ37 =>
         if (j_k 0) = 0 then (if x38 = (j_k 0) then (again 367 [some (.ref v0), some (.ref v1), some (.ref v2), some (.int v3), some (.ref v4), some (.ref v5), some (.int v6), some (.int v7), some (.int v8), some (.int v9), some (.int v10), some (.int (v11 + (j_k 0))), some (.int v12), some (.int x4), some (.int x8), some (.int (j_k 0)), some (.int (j_k 0))] [] τ37)
          else if (j_k 0) = 0 ∨ (j_k 0) = 1 then some (some (.int (j_k 0)), τ37) else none)
         else if x38 = (j_k 1) then (again 367 [some (.ref v0), some (.ref v1), some (.ref v2), some (.int v3), some (.ref v4), some (.ref v5), some (.int v6), some (.int v7), some (.int v8), some (.int v9), some (.int v10), some (.int (v11 + (j_k 0))), some (.int v12), some (.int x4), some (.int x8), some (.int (j_k 0)), some (.int (j_k 0))] [] τ37)
         else if (j_k 0) = 0 ∨ (j_k 0) = 1 then some (some (.int (j_k 0)), τ37) else none)))))
        else if (j_k 0) = 0 ∨ (j_k 0) = 1 then some (some (.int (j_k 0)), τ7) else none)
       else if (j_k 0) = 0 ∨ (j_k 0) = 1 then some (some (.int (j_k 0)), τ7) else none)
      else if x4 < 0 then (again 367 [some (.ref v0), some (.ref v1), some (.ref v2), some (.int v3), some (.ref v4), some (.ref v5), some (.int v6), some (.int v7), some (.int v8), some (.int v9), some (.int v10), some (.int (v11 + (j_k 0))), some (.int v12), some (.int x4), some (.int x8), some (.int (j_k 0)), some (.int (j_k 0))] [] τ7)
      else j_ia τ7 v2 ((j_k 2) + x4) (
      if (s_I τ7 v2 ((j_k 2) + x4).toNatClampNeg) = (j_k 1) then (if (j_k 0) = 0 ∨ (j_k 0) = 1 then some (some (.int (j_k 0)), τ7) else none)
      else j_ia τ7 v2 ((j_k 2) + x4) (
      if (s_I τ7 v2 ((j_k 2) + x4).toNatClampNeg) = (j_k 2) then (if (j_k 0) = 0 ∨ (j_k 0) = 1 then some (some (.int (j_k 0)), τ7) else none)
      else j_ia τ7 v4 v12 (
      j_c1 call 132 [.ref v2, .int x4, .int (s_I τ7 v4 v12.toNatClampNeg)] τ7 (fun x40 τ39 =>
      if (j_k 0) = 0 then (if x40 = (j_k 0) then (again 367 [some (.ref v0), some (.ref v1), some (.ref v2), some (.int v3), some (.ref v4), some (.ref v5), some (.int v6), some (.int v7), some (.int v8), some (.int v9), some (.int v10), some (.int (v11 + (j_k 0))), some (.int v12), some (.int x4), some (.int x8), some (.int (j_k 0)), some (.int (j_k 0))] [] τ39)
       else if (j_k 0) = 0 ∨ (j_k 0) = 1 then some (some (.int (j_k 0)), τ39) else none)
      else if x40 = (j_k 1) then (again 367 [some (.ref v0), some (.ref v1), some (.ref v2), some (.int v3), some (.ref v4), some (.ref v5), some (.int v6), some (.int v7), some (.int v8), some (.int v9), some (.int v10), some (.int (v11 + (j_k 0))), some (.int v12), some (.int x4), some (.int x8), some (.int (j_k 0)), some (.int (j_k 0))] [] τ39)
      else if (j_k 0) = 0 ∨ (j_k 0) = 1 then some (some (.int (j_k 0)), τ39) else none))))))
     else if (j_k 0) = 0 ∨ (j_k 0) = 1 then some (some (.int (j_k 0)), τ7) else none))))))))
    else j_oc σ 6 v1 (j_c1 call 108 [.ref v1, .int (j_k 2)] σ (fun x42 τ41 =>
    if x42 = v11 then (j_oc τ41 6 v1 (j_c1 call 88 [.ref v1, .int (j_k 0)] τ41 (fun x44 τ43 =>
     if x44 = v11 then (again 88 [some (.ref v0), some (.ref v1), some (.ref v2), some (.int v3), some (.ref v4), some (.ref v5), some (.int v6), some (.int v7), some (.int (v8 + (j_k 1))), none, none, none, none, none, none, none, none] [] τ43)
     else if (j_k 0) = 0 ∨ (j_k 0) = 1 then some (some (.int (j_k 0)), τ43) else none)))
    else if (j_k 0) = 0 ∨ (j_k 0) = 1 then some (some (.int (j_k 0)), τ41) else none)) := rfl

set_option maxRecDepth 1000000 in
set_option maxHeartbeats 8000000 in
theorem t_137_367 (call : Nat → List Value → Sto → Option Rr) (again : Nat → j_L → List Value → Sto → Option Rr) (σ : Sto) (v0 : Nat) (v1 : Nat) (v2 : Nat) (v3 : Int32) (v4 : Nat) (v5 : Nat) (v6 : Int32) (v7 : Int32) (v8 : Int32) (v9 : Int32) (v10 : Int32) (v11 : Int32) (v12 : Int32) (v13 : Int32) (v14 : Int32) (v15 : Int32) (v16 : Int32) :
    j_seg k_137 h_137 call again 2000 367 [some (.ref v0), some (.ref v1), some (.ref v2), some (.int v3), some (.ref v4), some (.ref v5), some (.int v6), some (.int v7), some (.int v8), some (.int v9), some (.int v10), some (.int v11), some (.int v12), some (.int v13), some (.int v14), some (.int v15), some (.int v16)] [] σ =
    if v16 < v12 then (if v13 < 0 then (again 367 [some (.ref v0), some (.ref v1), some (.ref v2), some (.int v3), some (.ref v4), some (.ref v5), some (.int v6), some (.int v7), some (.int v8), some (.int v9), some (.int v10), some (.int v11), some (.int v12), some (.int v13), some (.int v14), some (.int v15), some (.int (v16 + (j_k 1)))] [] σ)
     else j_oc σ 6 v1 (j_c1 call 81 [.ref v1, .int v16, .int (j_k 1)] σ (fun x2 τ1 =>
     j_c1 call 133 [.ref v1, .int x2] τ1 (fun x4 τ3 =>
     if v13 = x4 then (if (j_k 0) = 0 ∨ (j_k 0) = 1 then some (some (.int (j_k 0)), τ3) else none)
     else again 367 [some (.ref v0), some (.ref v1), some (.ref v2), some (.int v3), some (.ref v4), some (.ref v5), some (.int v6), some (.int v7), some (.int v8), some (.int v9), some (.int v10), some (.int v11), some (.int v12), some (.int v13), some (.int v14), some (.int v15), some (.int (v16 + (j_k 1)))] [] τ3))))
    else j_is σ v4 v12 (let τ5 : Sto := s_uI σ v4 v12.toNatClampNeg v13;
    j_is τ5 v5 v12 (let τ6 : Sto := s_uI τ5 v5 v12.toNatClampNeg v14;
    again 209 [some (.ref v0), some (.ref v1), some (.ref v2), some (.int v3), some (.ref v4), some (.ref v5), some (.int v6), some (.int v7), some (.int v8), some (.int v9), some (.int v10), some (.int v11), some (.int (v12 + (j_k 1))), none, none, none, none] [] τ6)) := rfl

