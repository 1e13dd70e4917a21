/-! ===== what each stretch of each method does (by program wip/gen) ===== -/
-- LastStirredLaw.law([I)Z
set_option maxRecDepth 1000000 in
set_option maxHeartbeats 8000000 in
theorem t_236_0 (call : Nat → List Value → Sto → Option Rr) (again : Nat → j_L → List Value → Sto → Option Rr) (σ : Sto) (v0 : Nat) :
    j_seg k_236 h_236 call again 2000 0 [some (.ref v0), none, none, none] [] σ =
    let τ1 : Sto := s_al σ (.inl 6) 16;
    j_c0 call 68 [.ref (s_n σ)] τ1 (fun τ2 =>
    let τ3 : Sto := s_al τ2 (.inl 7) 39;
    j_c0 call 126 [.ref (s_n τ2)] τ3 (fun τ4 =>
    again 18 [some (.ref v0), some (.ref (s_n σ)), some (.ref (s_n τ2)), some (.int (j_k 0))] [] τ4)) := rfl

set_option maxRecDepth 1000000 in
set_option maxHeartbeats 8000000 in
theorem t_236_18 (call : Nat → List Value → Sto → Option Rr) (again : Nat → j_L → List Value → Sto → Option Rr) (σ : Sto) (v0 : Nat) (v1 : Nat) (v2 : Nat) (v3 : Int32) :
    j_seg k_236 h_236 call again 2000 18 [some (.ref v0), some (.ref v1), some (.ref v2), some (.int v3)] [] σ =
    j_len σ v0 (fun n1 =>
    if (n1 - (j_k 6)) < v3 then (if (j_k 1) = 0 ∨ (j_k 1) = 1 then some (some (.int (j_k 1)), σ) else none)
    else j_ia σ v0 v3 (
    if ((s_I σ v0 v3.toNatClampNeg) &&& (j_k 63)) = (j_k 0) then (j_ia σ v0 (v3 + (j_k 1)) (
     j_ia σ v0 (v3 + (j_k 2)) (
     j_oc σ 6 v1 (j_c1 call 69 [.ref v1, .int (s_I σ v0 (v3 + (j_k 1)).toNatClampNeg), .int (s_I σ v0 (v3 + (j_k 2)).toNatClampNeg)] σ (fun x3 τ2 =>
     j_ia τ2 v0 (v3 + (j_k 1)) (
     j_ia τ2 v0 (v3 + (j_k 2)) (
     j_oc τ2 7 v2 (j_c1 call 141 [.ref v2, .int (s_I τ2 v0 (v3 + (j_k 1)).toNatClampNeg), .int (s_I τ2 v0 (v3 + (j_k 2)).toNatClampNeg)] τ2 (fun x5 τ4 =>
     if x3 = x5 then (again 18 [some (.ref v0), some (.ref v1), some (.ref v2), some (.int (v3 + (j_k 6)))] [] τ4)
     else if (j_k 0) = 0 ∨ (j_k 0) = 1 then some (some (.int (j_k 0)), τ4) else none)))))))))
    else if ((s_I σ v0 v3.toNatClampNeg) &&& (j_k 63)) = (j_k 1) then (j_ia σ v0 (v3 + (j_k 1)) (
     j_ia σ v0 (v3 + (j_k 2)) (
     j_ia σ v0 (v3 + (j_k 3)) (
     j_oc σ 6 v1 (j_c1 call 70 [.ref v1, .int (s_I σ v0 (v3 + (j_k 1)).toNatClampNeg), .int (s_I σ v0 (v3 + (j_k 2)).toNatClampNeg), .int (s_I σ v0 (v3 + (j_k 3)).toNatClampNeg)] σ (fun x7 τ6 =>
     j_ia τ6 v0 (v3 + (j_k 1)) (
     j_ia τ6 v0 (v3 + (j_k 2)) (
     j_ia τ6 v0 (v3 + (j_k 3)) (
     j_oc τ6 7 v2 (j_c1 call 142 [.ref v2, .int (s_I τ6 v0 (v3 + (j_k 1)).toNatClampNeg), .int (s_I τ6 v0 (v3 + (j_k 2)).toNatClampNeg), .int (s_I τ6 v0 (v3 + (j_k 3)).toNatClampNeg)] τ6 (fun x9 τ8 =>
     if x7 = x9 then (again 18 [some (.ref v0), some (.ref v1), some (.ref v2), some (.int (v3 + (j_k 6)))] [] τ8)
     else if (j_k 0) = 0 ∨ (j_k 0) = 1 then some (some (.int (j_k 0)), τ8) else none)))))))))))
    else if ((s_I σ v0 v3.toNatClampNeg) &&& (j_k 63)) = (j_k 2) then (j_ia σ v0 (v3 + (j_k 1)) (
     j_ia σ v0 (v3 + (j_k 2)) (
     j_oc σ 6 v1 (j_c1 call 71 [.ref v1, .int (s_I σ v0 (v3 + (j_k 1)).toNatClampNeg), .int (s_I σ v0 (v3 + (j_k 2)).toNatClampNeg)] σ (fun x11 τ10 =>
     j_ia τ10 v0 (v3 + (j_k 1)) (
     j_ia τ10 v0 (v3 + (j_k 2)) (
     j_oc τ10 7 v2 (j_c1 call 143 [.ref v2, .int (s_I τ10 v0 (v3 + (j_k 1)).toNatClampNeg), .int (s_I τ10 v0 (v3 + (j_k 2)).toNatClampNeg)] τ10 (fun x13 τ12 =>
     if x11 = x13 then (again 18 [some (.ref v0), some (.ref v1), some (.ref v2), some (.int (v3 + (j_k 6)))] [] τ12)
     else if (j_k 0) = 0 ∨ (j_k 0) = 1 then some (some (.int (j_k 0)), τ12) else none)))))))))
    else if ((s_I σ v0 v3.toNatClampNeg) &&& (j_k 63)) = (j_k 3) then (j_ia σ v0 (v3 + (j_k 1)) (
     j_oc σ 6 v1 (j_c1 call 72 [.ref v1, .int (s_I σ v0 (v3 + (j_k 1)).toNatClampNeg)] σ (fun x15 τ14 =>
     j_ia τ14 v0 (v3 + (j_k 1)) (
     j_oc τ14 7 v2 (j_c1 call 144 [.ref v2, .int (s_I τ14 v0 (v3 + (j_k 1)).toNatClampNeg)] τ14 (fun x17 τ16 =>
     if x15 = x17 then (again 18 [some (.ref v0), some (.ref v1), some (.ref v2), some (.int (v3 + (j_k 6)))] [] τ16)
     else if (j_k 0) = 0 ∨ (j_k 0) = 1 then some (some (.int (j_k 0)), τ16) else none)))))))
    else if ((s_I σ v0 v3.toNatClampNeg) &&& (j_k 63)) = (j_k 4) then (j_ia σ v0 (v3 + (j_k 1)) (
     j_ia σ v0 (v3 + (j_k 2)) (
     j_ia σ v0 (v3 + (j_k 3)) (
     j_ia σ v0 (v3 + (j_k 4)) (
     j_ia σ v0 (v3 + (j_k 5)) (
     j_oc σ 6 v1 (j_c1 call 73 [.ref v1, .int (s_I σ v0 (v3 + (j_k 1)).toNatClampNeg), .int (s_I σ v0 (v3 + (j_k 2)).toNatClampNeg), .int (s_I σ v0 (v3 + (j_k 3)).toNatClampNeg), .int (s_I σ v0 (v3 + (j_k 4)).toNatClampNeg), .int (s_I σ v0 (v3 + (j_k 5)).toNatClampNeg)] σ (fun x19 τ18 =>
     j_ia τ18 v0 (v3 + (j_k 1)) (
     j_ia τ18 v0 (v3 + (j_k 2)) (
     j_ia τ18 v0 (v3 + (j_k 3)) (
     j_ia τ18 v0 (v3 + (j_k 4)) (
     j_ia τ18 v0 (v3 + (j_k 5)) (
     j_oc τ18 7 v2 (j_c1 call 145 [.ref v2, .int (s_I τ18 v0 (v3 + (j_k 1)).toNatClampNeg), .int (s_I τ18 v0 (v3 + (j_k 2)).toNatClampNeg), .int (s_I τ18 v0 (v3 + (j_k 3)).toNatClampNeg), .int (s_I τ18 v0 (v3 + (j_k 4)).toNatClampNeg), .int (s_I τ18 v0 (v3 + (j_k 5)).toNatClampNeg)] τ18 (fun x21 τ20 =>
     if x19 = x21 then (again 18 [some (.ref v0), some (.ref v1), some (.ref v2), some (.int (v3 + (j_k 6)))] [] τ20)
     else if (j_k 0) = 0 ∨ (j_k 0) = 1 then some (some (.int (j_k 0)), τ20) else none)))))))))))))))
    else if ((s_I σ v0 v3.toNatClampNeg) &&& (j_k 63)) = (j_k 5) then (j_ia σ v0 (v3 + (j_k 1)) (
     j_oc σ 6 v1 (j_c1 call 74 [.ref v1, .int (s_I σ v0 (v3 + (j_k 1)).toNatClampNeg)] σ (fun x23 τ22 =>
     j_ia τ22 v0 (v3 + (j_k 1)) (
     j_oc τ22 7 v2 (j_c1 call 146 [.ref v2, .int (s_I τ22 v0 (v3 + (j_k 1)).toNatClampNeg)] τ22 (fun x25 τ24 =>
     if x23 = x25 then (again 18 [some (.ref v0), some (.ref v1), some (.ref v2), some (.int (v3 + (j_k 6)))] [] τ24)
     else if (j_k 0) = 0 ∨ (j_k 0) = 1 then some (some (.int (j_k 0)), τ24) else none)))))))
    else if ((s_I σ v0 v3.toNatClampNeg) &&& (j_k 63)) = (j_k 6) then (j_ia σ v0 (v3 + (j_k 1)) (
     j_ia σ v0 (v3 + (j_k 2)) (
     j_oc σ 6 v1 (j_c1 call 75 [.ref v1, .int (s_I σ v0 (v3 + (j_k 1)).toNatClampNeg), .int (s_I σ v0 (v3 + (j_k 2)).toNatClampNeg)] σ (fun x27 τ26 =>
     j_ia τ26 v0 (v3 + (j_k 1)) (
     j_ia τ26 v0 (v3 + (j_k 2)) (
     j_oc τ26 7 v2 (j_c1 call 148 [.ref v2, .int (s_I τ26 v0 (v3 + (j_k 1)).toNatClampNeg), .int (s_I τ26 v0 (v3 + (j_k 2)).toNatClampNeg)] τ26 (fun x29 τ28 =>
     if x27 = x29 then (again 18 [some (.ref v0), some (.ref v1), some (.ref v2), some (.int (v3 + (j_k 6)))] [] τ28)
     else if (j_k 0) = 0 ∨ (j_k 0) = 1 then some (some (.int (j_k 0)), τ28) else none)))))))))
    else if ((s_I σ v0 v3.toNatClampNeg) &&& (j_k 63)) = (j_k 7) then (j_ia σ v0 (v3 + (j_k 1)) (
     j_ia σ v0 (v3 + (j_k 2)) (
     j_ia σ v0 (v3 + (j_k 3)) (
     j_oc σ 6 v1 (j_c1 call 76 [.ref v1, .int (s_I σ v0 (v3 + (j_k 1)).toNatClampNeg), .int (s_I σ v0 (v3 + (j_k 2)).toNatClampNeg), .int (s_I σ v0 (v3 + (j_k 3)).toNatClampNeg)] σ (fun x31 τ30 =>
     j_ia τ30 v0 (v3 + (j_k 1)) (
     j_ia τ30 v0 (v3 + (j_k 2)) (
     j_ia τ30 v0 (v3 + (j_k 3)) (
     j_oc τ30 7 v2 (j_c1 call 149 [.ref v2, .int (s_I τ30 v0 (v3 + (j_k 1)).toNatClampNeg), .int (s_I τ30 v0 (v3 + (j_k 2)).toNatClampNeg), .int (s_I τ30 v0 (v3 + (j_k 3)).toNatClampNeg)] τ30 (fun x33 τ32 =>
     if x31 = x33 then (again 18 [some (.ref v0), some (.ref v1), some (.ref v2), some (.int (v3 + (j_k 6)))] [] τ32)
     else if (j_k 0) = 0 ∨ (j_k 0) = 1 then some (some (.int (j_k 0)), τ32) else none)))))))))))
    else if ((s_I σ v0 v3.toNatClampNeg) &&& (j_k 63)) = (j_k 8) then (j_ia σ v0 (v3 + (j_k 1)) (
     j_oc σ 6 v1 (j_c1 call 77 [.ref v1, .int (s_I σ v0 (v3 + (j_k 1)).toNatClampNeg)] σ (fun x35 τ34 =>
     j_ia τ34 v0 (v3 + (j_k 1)) (
     j_oc τ34 7 v2 (j_c1 call 158 [.ref v2, .int (s_I τ34 v0 (v3 + (j_k 1)).toNatClampNeg)] τ34 (fun x37 τ36 =>
     if x35 = x37 then (again 18 [some (.ref v0), some (.ref v1), some (.ref v2), some (.int (v3 + (j_k 6)))] [] τ36)
     else if (j_k 0) = 0 ∨ (j_k 0) = 1 then some (some (.int (j_k 0)), τ36) else none)))))))
    else if ((s_I σ v0 v3.toNatClampNeg) &&& (j_k 63)) = (j_k 9) then (j_ia σ v0 (v3 + (j_k 1)) (
     j_oc σ 6 v1 (j_c1 call 78 [.ref v1, .int (s_I σ v0 (v3 + (j_k 1)).toNatClampNeg)] σ (fun x39 τ38 =>
     j_ia τ38 v0 (v3 + (j_k 1)) (
     j_oc τ38 7 v2 (j_c1 call 159 [.ref v2, .int (s_I τ38 v0 (v3 + (j_k 1)).toNatClampNeg)] τ38 (fun x41 τ40 =>
     if x39 = x41 then (again 18 [some (.ref v0), some (.ref v1), some (.ref v2), some (.int (v3 + (j_k 6)))] [] τ40)
     else if (j_k 0) = 0 ∨ (j_k 0) = 1 then some (some (.int (j_k 0)), τ40) else none)))))))
    else if ((s_I σ v0 v3.toNatClampNeg) &&& (j_k 63)) = (j_k 10) then (j_ia σ v0 (v3 + (j_k 1)) (
     j_oc σ 6 v1 (j_c1 call 79 [.ref v1, .int (s_I σ v0 (v3 + (j_k 1)).toNatClampNeg)] σ (fun x43 τ42 =>
     j_ia τ42 v0 (v3 + (j_k 1)) (
     j_oc τ42 7 v2 (j_c1 call 169 [.ref v2, .int (s_I τ42 v0 (v3 + (j_k 1)).toNatClampNeg)] τ42 (fun x45 τ44 =>
     if x43 = x45 then (again 18 [some (.ref v0), some (.ref v1), some (.ref v2), some (.int (v3 + (j_k 6)))] [] τ44)
     else if (j_k 0) = 0 ∨ (j_k 0) = 1 then some (some (.int (j_k 0)), τ44) else none)))))))
    else if ((s_I σ v0 v3.toNatClampNeg) &&& (j_k 63)) = (j_k 11) then (j_ia σ v0 (v3 + (j_k 1)) (
     j_ia σ v0 (v3 + (j_k 2)) (
     j_oc σ 6 v1 (j_c1 call 80 [.ref v1, .int (s_I σ v0 (v3 + (j_k 1)).toNatClampNeg), .int (s_I σ v0 (v3 + (j_k 2)).toNatClampNeg)] σ (fun x47 τ46 =>
     j_ia τ46 v0 (v3 + (j_k 1)) (
     j_ia τ46 v0 (v3 + (j_k 2)) (
     j_oc τ46 7 v2 (j_c1 call 170 [.ref v2, .int (s_I τ46 v0 (v3 + (j_k 1)).toNatClampNeg), .int (s_I τ46 v0 (v3 + (j_k 2)).toNatClampNeg)] τ46 (fun x49 τ48 =>
     if x47 = x49 then (again 18 [some (.ref v0), some (.ref v1), some (.ref v2), some (.int (v3 + (j_k 6)))] [] τ48)
     else if (j_k 0) = 0 ∨ (j_k 0) = 1 then some (some (.int (j_k 0)), τ48) else none)))))))))
    else if ((s_I σ v0 v3.toNatClampNeg) &&& (j_k 63)) = (j_k 12) then (j_ia σ v0 (v3 + (j_k 1)) (
     j_ia σ v0 (v3 + (j_k 2)) (
     j_oc σ 6 v1 (j_c1 call 81 [.ref v1, .int (s_I σ v0 (v3 + (j_k 1)).toNatClampNeg), .int (s_I σ v0 (v3 + (j_k 2)).toNatClampNeg)] σ (fun x51 τ50 =>
     j_ia τ50 v0 (v3 + (j_k 1)) (
     j_ia τ50 v0 (v3 + (j_k 2)) (
     j_oc τ50 7 v2 (j_c1 call 172 [.ref v2, .int (s_I τ50 v0 (v3 + (j_k 1)).toNatClampNeg), .int (s_I τ50 v0 (v3 + (j_k 2)).toNatClampNeg)] τ50 (fun x53 τ52 =>
     if x51 = x53 then (again 18 [some (.ref v0), some (.ref v1), some (.ref v2), some (.int (v3 + (j_k 6)))] [] τ52)
     else if (j_k 0) = 0 ∨ (j_k 0) = 1 then some (some (.int (j_k 0)), τ52) else none)))))))))
    else if ((s_I σ v0 v3.toNatClampNeg) &&& (j_k 63)) = (j_k 13) then (j_ia σ v0 (v3 + (j_k 1)) (
     j_ia σ v0 (v3 + (j_k 2)) (
     j_oc σ 6 v1 (j_c1 call 82 [.ref v1, .int (s_I σ v0 (v3 + (j_k 1)).toNatClampNeg), .int (s_I σ v0 (v3 + (j_k 2)).toNatClampNeg)] σ (fun x55 τ54 =>
     j_ia τ54 v0 (v3 + (j_k 1)) (
     j_ia τ54 v0 (v3 + (j_k 2)) (
     j_oc τ54 7 v2 (j_c1 call 178 [.ref v2, .int (s_I τ54 v0 (v3 + (j_k 1)).toNatClampNeg), .int (s_I τ54 v0 (v3 + (j_k 2)).toNatClampNeg)] τ54 (fun x57 τ56 =>
     if x55 = x57 then (again 18 [some (.ref v0), some (.ref v1), some (.ref v2), some (.int (v3 + (j_k 6)))] [] τ56)
     else if (j_k 0) = 0 ∨ (j_k 0) = 1 then some (some (.int (j_k 0)), τ56) else none)))))))))
    else if ((s_I σ v0 v3.toNatClampNeg) &&& (j_k 63)) = (j_k 14) then (j_oc σ 6 v1 (j_c1 call 83 [.ref v1] σ (fun x59 τ58 =>
     j_oc τ58 7 v2 (j_c1 call 179 [.ref v2] τ58 (fun x61 τ60 =>
     if x59 = x61 then (again 18 [some (.ref v0), some (.ref v1), some (.ref v2), some (.int (v3 + (j_k 6)))] [] τ60)
     else if (j_k 0) = 0 ∨ (j_k 0) = 1 then some (some (.int (j_k 0)), τ60) else none)))))
    else if ((s_I σ v0 v3.toNatClampNeg) &&& (j_k 63)) = (j_k 15) then (j_ia σ v0 (v3 + (j_k 1)) (
     j_ia σ v0 (v3 + (j_k 2)) (
     j_oc σ 6 v1 (j_c1 call 84 [.ref v1, .int (s_I σ v0 (v3 + (j_k 1)).toNatClampNeg), .int (s_I σ v0 (v3 + (j_k 2)).toNatClampNeg)] σ (fun x63 τ62 =>
     j_ia τ62 v0 (v3 + (j_k 1)) (
     j_ia τ62 v0 (v3 + (j_k 2)) (
     j_oc τ62 7 v2 (j_c1 call 190 [.ref v2, .int (s_I τ62 v0 (v3 + (j_k 1)).toNatClampNeg), .int (s_I τ62 v0 (v3 + (j_k 2)).toNatClampNeg)] τ62 (fun x65 τ64 =>
     if x63 = x65 then (again 18 [some (.ref v0), some (.ref v1), some (.ref v2), some (.int (v3 + (j_k 6)))] [] τ64)
     else if (j_k 0) = 0 ∨ (j_k 0) = 1 then some (some (.int (j_k 0)), τ64) else none)))))))))
    else if ((s_I σ v0 v3.toNatClampNeg) &&& (j_k 63)) = (j_k 16) then (j_ia σ v0 (v3 + (j_k 1)) (
     j_oc σ 6 v1 (j_c1 call 85 [.ref v1, .int (s_I σ v0 (v3 + (j_k 1)).toNatClampNeg)] σ (fun x67 τ66 =>
     j_ia τ66 v0 (v3 + (j_k 1)) (
     j_oc τ66 7 v2 (j_c1 call 191 [.ref v2, .int (s_I τ66 v0 (v3 + (j_k 1)).toNatClampNeg)] τ66 (fun x69 τ68 =>
     if x67 = x69 then (again 18 [some (.ref v0), some (.ref v1), some (.ref v2), some (.int (v3 + (j_k 6)))] [] τ68)
     else if (j_k 0) = 0 ∨ (j_k 0) = 1 then some (some (.int (j_k 0)), τ68) else none)))))))
    else if ((s_I σ v0 v3.toNatClampNeg) &&& (j_k 63)) = (j_k 17) then (j_oc σ 6 v1 (j_c1 call 86 [.ref v1] σ (fun x71 τ70 =>
     j_oc τ70 7 v2 (j_c1 call 192 [.ref v2] τ70 (fun x73 τ72 =>
     if x71 = x73 then (again 18 [some (.ref v0), some (.ref v1), some (.ref v2), some (.int (v3 + (j_k 6)))] [] τ72)
     else if (j_k 0) = 0 ∨ (j_k 0) = 1 then some (some (.int (j_k 0)), τ72) else none)))))
    else if ((s_I σ v0 v3.toNatClampNeg) &&& (j_k 63)) = (j_k 18) then (j_oc σ 6 v1 (j_c1 call 87 [.ref v1] σ (fun x75 τ74 =>
     j_oc τ74 7 v2 (j_c1 call 194 [.ref v2] τ74 (fun x77 τ76 =>
     if x75 = x77 then (again 18 [some (.ref v0), some (.ref v1), some (.ref v2), some (.int (v3 + (j_k 6)))] [] τ76)
     else if (j_k 0) = 0 ∨ (j_k 0) = 1 then some (some (.int (j_k 0)), τ76) else none)))))
    else if ((s_I σ v0 v3.toNatClampNeg) &&& (j_k 63)) = (j_k 19) then (j_ia σ v0 (v3 + (j_k 1)) (
     j_oc σ 6 v1 (j_c1 call 88 [.ref v1, .int (s_I σ v0 (v3 + (j_k 1)).toNatClampNeg)] σ (fun x79 τ78 =>
     j_ia τ78 v0 (v3 + (j_k 1)) (
     j_oc τ78 7 v2 (j_c1 call 195 [.ref v2, .int (s_I τ78 v0 (v3 + (j_k 1)).toNatClampNeg)] τ78 (fun x81 τ80 =>
     if x79 = x81 then (again 18 [some (.ref v0), some (.ref v1), some (.ref v2), some (.int (v3 + (j_k 6)))] [] τ80)
     else if (j_k 0) = 0 ∨ (j_k 0) = 1 then some (some (.int (j_k 0)), τ80) else none)))))))
    else if ((s_I σ v0 v3.toNatClampNeg) &&& (j_k 63)) = (j_k 20) then (j_oc σ 6 v1 (j_c1 call 89 [.ref v1] σ (fun x83 τ82 =>
     j_oc τ82 7 v2 (j_c1 call 197 [.ref v2] τ82 (fun x85 τ84 =>
     if x83 = x85 then (again 18 [some (.ref v0), some (.ref v1), some (.ref v2), some (.int (v3 + (j_k 6)))] [] τ84)
     else if (j_k 0) = 0 ∨ (j_k 0) = 1 then some (some (.int (j_k 0)), τ84) else none)))))
    else if ((s_I σ v0 v3.toNatClampNeg) &&& (j_k 63)) = (j_k 21) then (j_ia σ v0 (v3 + (j_k 1)) (
     j_oc σ 6 v1 (j_c1 call 90 [.ref v1, .int (s_I σ v0 (v3 + (j_k 1)).toNatClampNeg)] σ (fun x87 τ86 =>
     j_ia τ86 v0 (v3 + (j_k 1)) (
     j_oc τ86 7 v2 (j_c1 call 198 [.ref v2, .int (s_I τ86 v0 (v3 + (j_k 1)).toNatClampNeg)] τ86 (fun x89 τ88 =>
     if x87 = x89 then (again 18 [some (.ref v0), some (.ref v1), some (.ref v2), some (.int (v3 + (j_k 6)))] [] τ88)
     else if (j_k 0) = 0 ∨ (j_k 0) = 1 then some (some (.int (j_k 0)), τ88) else none)))))))
    else if ((s_I σ v0 v3.toNatClampNeg) &&& (j_k 63)) = (j_k 22) then (j_ia σ v0 (v3 + (j_k 1)) (
     j_oc σ 6 v1 (j_c1 call 91 [.ref v1, .int (s_I σ v0 (v3 + (j_k 1)).toNatClampNeg)] σ (fun x91 τ90 =>
     j_ia τ90 v0 (v3 + (j_k 1)) (
     j_oc τ90 7 v2 (j_c1 call 199 [.ref v2, .int (s_I τ90 v0 (v3 + (j_k 1)).toNatClampNeg)] τ90 (fun x93 τ92 =>
     if x91 = x93 then (again 18 [some (.ref v0), some (.ref v1), some (.ref v2), some (.int (v3 + (j_k 6)))] [] τ92)
     else if (j_k 0) = 0 ∨ (j_k 0) = 1 then some (some (.int (j_k 0)), τ92) else none)))))))
    else if ((s_I σ v0 v3.toNatClampNeg) &&& (j_k 63)) = (j_k 23) then (j_oc σ 6 v1 (j_c1 call 92 [.ref v1] σ (fun x95 τ94 =>
     j_oc τ94 7 v2 (j_c1 call 208 [.ref v2] τ94 (fun x97 τ96 =>
     if x95 = x97 then (again 18 [some (.ref v0), some (.ref v1), some (.ref v2), some (.int (v3 + (j_k 6)))] [] τ96)
     else if (j_k 0) = 0 ∨ (j_k 0) = 1 then some (some (.int (j_k 0)), τ96) else none)))))
    else if ((s_I σ v0 v3.toNatClampNeg) &&& (j_k 63)) = (j_k 24) then (j_ia σ v0 (v3 + (j_k 1)) (
     j_oc σ 6 v1 (j_c1 call 93 [.ref v1, .int (s_I σ v0 (v3 + (j_k 1)).toNatClampNeg)] σ (fun x99 τ98 =>
     j_ia τ98 v0 (v3 + (j_k 1)) (
     j_oc τ98 7 v2 (j_c1 call 209 [.ref v2, .int (s_I τ98 v0 (v3 + (j_k 1)).toNatClampNeg)] τ98 (fun x101 τ100 =>
     if x99 = x101 then (again 18 [some (.ref v0), some (.ref v1), some (.ref v2), some (.int (v3 + (j_k 6)))] [] τ100)
     else if (j_k 0) = 0 ∨ (j_k 0) = 1 then some (some (.int (j_k 0)), τ100) else none)))))))
    else if ((s_I σ v0 v3.toNatClampNeg) &&& (j_k 63)) = (j_k 25) then (j_oc σ 6 v1 (j_c1 call 94 [.ref v1] σ (fun x103 τ102 =>
     j_oc τ102 7 v2 (j_c1 call 210 [.ref v2] τ102 (fun x105 τ104 =>
     if x103 = x105 then (again 18 [some (.ref v0), some (.ref v1), some (.ref v2), some (.int (v3 + (j_k 6)))] [] τ104)
     else if (j_k 0) = 0 ∨ (j_k 0) = 1 then some (some (.int (j_k 0)), τ104) else none)))))
    else if ((s_I σ v0 v3.toNatClampNeg) &&& (j_k 63)) = (j_k 26) then (j_ia σ v0 (v3 + (j_k 1)) (
     j_ia σ v0 (v3 + (j_k 2)) (
     j_oc σ 6 v1 (j_c1 call 95 [.ref v1, .int (s_I σ v0 (v3 + (j_k 1)).toNatClampNeg), .int (s_I σ v0 (v3 + (j_k 2)).toNatClampNeg)] σ (fun x107 τ106 =>
     j_ia τ106 v0 (v3 + (j_k 1)) (
     j_ia τ106 v0 (v3 + (j_k 2)) (
     j_oc τ106 7 v2 (j_c1 call 211 [.ref v2, .int (s_I τ106 v0 (v3 + (j_k 1)).toNatClampNeg), .int (s_I τ106 v0 (v3 + (j_k 2)).toNatClampNeg)] τ106 (fun x109 τ108 =>
     if x107 = x109 then (again 18 [some (.ref v0), some (.ref v1), some (.ref v2), some (.int (v3 + (j_k 6)))] [] τ108)
     else if (j_k 0) = 0 ∨ (j_k 0) = 1 then some (some (.int (j_k 0)), τ108) else none)))))))))
    else if ((s_I σ v0 v3.toNatClampNeg) &&& (j_k 63)) = (j_k 27) then (j_ia σ v0 (v3 + (j_k 1)) (
     j_ia σ v0 (v3 + (j_k 2)) (
     j_oc σ 6 v1 (j_c1 call 96 [.ref v1, .int (s_I σ v0 (v3 + (j_k 1)).toNatClampNeg), .int (s_I σ v0 (v3 + (j_k 2)).toNatClampNeg)] σ (fun x111 τ110 =>
     j_ia τ110 v0 (v3 + (j_k 1)) (
     j_ia τ110 v0 (v3 + (j_k 2)) (
     j_oc τ110 7 v2 (j_c1 call 213 [.ref v2, .int (s_I τ110 v0 (v3 + (j_k 1)).toNatClampNeg), .int (s_I τ110 v0 (v3 + (j_k 2)).toNatClampNeg)] τ110 (fun x113 τ112 =>
     if x111 = x113 then (again 18 [some (.ref v0), some (.ref v1), some (.ref v2), some (.int (v3 + (j_k 6)))] [] τ112)
     else if (j_k 0) = 0 ∨ (j_k 0) = 1 then some (some (.int (j_k 0)), τ112) else none)))))))))
    else if ((s_I σ v0 v3.toNatClampNeg) &&& (j_k 63)) = (j_k 28) then (j_ia σ v0 (v3 + (j_k 1)) (
     j_oc σ 6 v1 (j_c1 call 97 [.ref v1, .int (s_I σ v0 (v3 + (j_k 1)).toNatClampNeg)] σ (fun x115 τ114 =>
     j_ia τ114 v0 (v3 + (j_k 1)) (
     j_oc τ114 7 v2 (j_c1 call 214 [.ref v2, .int (s_I τ114 v0 (v3 + (j_k 1)).toNatClampNeg)] τ114 (fun x117 τ116 =>
     if x115 = x117 then (again 18 [some (.ref v0), some (.ref v1), some (.ref v2), some (.int (v3 + (j_k 6)))] [] τ116)
     else if (j_k 0) = 0 ∨ (j_k 0) = 1 then some (some (.int (j_k 0)), τ116) else none)))))))
    else if ((s_I σ v0 v3.toNatClampNeg) &&& (j_k 63)) = (j_k 29) then (j_ia σ v0 (v3 + (j_k 1)) (
     j_oc σ 6 v1 (j_c1 call 98 [.ref v1, .int (s_I σ v0 (v3 + (j_k 1)).toNatClampNeg)] σ (fun x119 τ118 =>
     j_ia τ118 v0 (v3 + (j_k 1)) (
     j_oc τ118 7 v2 (j_c1 call 215 [.ref v2, .int (s_I τ118 v0 (v3 + (j_k 1)).toNatClampNeg)] τ118 (fun x121 τ120 =>
     if x119 = x121 then (again 18 [some (.ref v0), some (.ref v1), some (.ref v2), some (.int (v3 + (j_k 6)))] [] τ120)
     else if (j_k 0) = 0 ∨ (j_k 0) = 1 then some (some (.int (j_k 0)), τ120) else none)))))))
    else if ((s_I σ v0 v3.toNatClampNeg) &&& (j_k 63)) = (j_k 30) then (j_ia σ v0 (v3 + (j_k 1)) (
     j_ia σ v0 (v3 + (j_k 2)) (
     j_oc σ 6 v1 (j_c1 call 99 [.ref v1, .int (s_I σ v0 (v3 + (j_k 1)).toNatClampNeg), .int (s_I σ v0 (v3 + (j_k 2)).toNatClampNeg)] σ (fun x123 τ122 =>
     j_ia τ122 v0 (v3 + (j_k 1)) (
     j_ia τ122 v0 (v3 + (j_k 2)) (
     j_oc τ122 7 v2 (j_c1 call 218 [.ref v2, .int (s_I τ122 v0 (v3 + (j_k 1)).toNatClampNeg), .int (s_I τ122 v0 (v3 + (j_k 2)).toNatClampNeg)] τ122 (fun x125 τ124 =>
     if x123 = x125 then (again 18 [some (.ref v0), some (.ref v1), some (.ref v2), some (.int (v3 + (j_k 6)))] [] τ124)
     else if (j_k 0) = 0 ∨ (j_k 0) = 1 then some (some (.int (j_k 0)), τ124) else none)))))))))
    else if ((s_I σ v0 v3.toNatClampNeg) &&& (j_k 63)) = (j_k 31) then (j_oc σ 6 v1 (j_c1 call 100 [.ref v1] σ (fun x127 τ126 =>
     j_oc τ126 7 v2 (j_c1 call 219 [.ref v2] τ126 (fun x129 τ128 =>
     if x127 = x129 then (again 18 [some (.ref v0), some (.ref v1), some (.ref v2), some (.int (v3 + (j_k 6)))] [] τ128)
     else if (j_k 0) = 0 ∨ (j_k 0) = 1 then some (some (.int (j_k 0)), τ128) else none)))))
    else if ((s_I σ v0 v3.toNatClampNeg) &&& (j_k 63)) = (j_k 32) then (j_ia σ v0 (v3 + (j_k 1)) (
     j_ia σ v0 (v3 + (j_k 2)) (
     j_oc σ 6 v1 (j_c1 call 101 [.ref v1, .int (s_I σ v0 (v3 + (j_k 1)).toNatClampNeg), .int (s_I σ v0 (v3 + (j_k 2)).toNatClampNeg)] σ (fun x131 τ130 =>
     j_ia τ130 v0 (v3 + (j_k 1)) (
     j_ia τ130 v0 (v3 + (j_k 2)) (
     j_oc τ130 7 v2 (j_c1 call 224 [.ref v2, .int (s_I τ130 v0 (v3 + (j_k 1)).toNatClampNeg), .int (s_I τ130 v0 (v3 + (j_k 2)).toNatClampNeg)] τ130 (fun x133 τ132 =>
     if x131 = x133 then (again 18 [some (.ref v0), some (.ref v1), some (.ref v2), some (.int (v3 + (j_k 6)))] [] τ132)
     else if (j_k 0) = 0 ∨ (j_k 0) = 1 then some (some (.int (j_k 0)), τ132) else none)))))))))
    else if ((s_I σ v0 v3.toNatClampNeg) &&& (j_k 63)) = (j_k 33) then (j_ia σ v0 (v3 + (j_k 1)) (
     j_oc σ 6 v1 (j_c1 call 102 [.ref v1, .int (s_I σ v0 (v3 + (j_k 1)).toNatClampNeg)] σ (fun x135 τ134 =>
     j_ia τ134 v0 (v3 + (j_k 1)) (
     j_oc τ134 7 v2 (j_c1 call 226 [.ref v2, .int (s_I τ134 v0 (v3 + (j_k 1)).toNatClampNeg)] τ134 (fun x137 τ136 =>
     if x135 = x137 then (again 18 [some (.ref v0), some (.ref v1), some (.ref v2), some (.int (v3 + (j_k 6)))] [] τ136)
     else if (j_k 0) = 0 ∨ (j_k 0) = 1 then some (some (.int (j_k 0)), τ136) else none)))))))
    else if ((s_I σ v0 v3.toNatClampNeg) &&& (j_k 63)) = (j_k 34) then (j_ia σ v0 (v3 + (j_k 1)) (
     j_oc σ 6 v1 (j_c1 call 103 [.ref v1, .int (s_I σ v0 (v3 + (j_k 1)).toNatClampNeg)] σ (fun x139 τ138 =>
     j_ia τ138 v0 (v3 + (j_k 1)) (
     j_oc τ138 7 v2 (j_c1 call 227 [.ref v2, .int (s_I τ138 v0 (v3 + (j_k 1)).toNatClampNeg)] τ138 (fun x141 τ140 =>
     if x139 = x141 then (again 18 [some (.ref v0), some (.ref v1), some (.ref v2), some (.int (v3 + (j_k 6)))] [] τ140)
     else if (j_k 0) = 0 ∨ (j_k 0) = 1 then some (some (.int (j_k 0)), τ140) else none)))))))
    else if ((s_I σ v0 v3.toNatClampNeg) &&& (j_k 63)) = (j_k 35) then (j_ia σ v0 (v3 + (j_k 1)) (
     j_oc σ 6 v1 (j_c1 call 104 [.ref v1, .int (s_I σ v0 (v3 + (j_k 1)).toNatClampNeg)] σ (fun x143 τ142 =>
     j_ia τ142 v0 (v3 + (j_k 1)) (
     j_oc τ142 7 v2 (j_c1 call 228 [.ref v2, .int (s_I τ142 v0 (v3 + (j_k 1)).toNatClampNeg)] τ142 (fun x145 τ144 =>
     if x143 = x145 then (again 18 [some (.ref v0), some (.ref v1), some (.ref v2), some (.int (v3 + (j_k 6)))] [] τ144)
     else if (j_k 0) = 0 ∨ (j_k 0) = 1 then some (some (.int (j_k 0)), τ144) else none)))))))
    else if ((s_I σ v0 v3.toNatClampNeg) &&& (j_k 63)) = (j_k 36) then (j_oc σ 6 v1 (j_c1 call 105 [.ref v1] σ (fun x147 τ146 =>
     j_oc τ146 7 v2 (j_c1 call 135 [.ref v2] τ146 (fun x149 τ148 =>
     if x147 = x149 then (again 18 [some (.ref v0), some (.ref v1), some (.ref v2), some (.int (v3 + (j_k 6)))] [] τ148)
     else if (j_k 0) = 0 ∨ (j_k 0) = 1 then some (some (.int (j_k 0)), τ148) else none)))))
    else if ((s_I σ v0 v3.toNatClampNeg) &&& (j_k 63)) = (j_k 37) then (j_oc σ 6 v1 (j_c2 call 106 [.ref v1] σ (fun x151 τ150 =>
     j_oc τ150 7 v2 (j_c2 call 137 [.ref v2] τ150 (fun x153 τ152 =>
     if (lg_cmp x151 x153) = 0 then (again 18 [some (.ref v0), some (.ref v1), some (.ref v2), some (.int (v3 + (j_k 6)))] [] τ152)
     else if (j_k 0) = 0 ∨ (j_k 0) = 1 then some (some (.int (j_k 0)), τ152) else none)))))
    else if ((s_I σ v0 v3.toNatClampNeg) &&& (j_k 63)) = (j_k 38) then (j_oc σ 6 v1 (j_c2 call 107 [.ref v1] σ (fun x155 τ154 =>
     j_oc τ154 7 v2 (j_c2 call 138 [.ref v2] τ154 (fun x157 τ156 =>
     if (lg_cmp x155 x157) = 0 then (again 18 [some (.ref v0), some (.ref v1), some (.ref v2), some (.int (v3 + (j_k 6)))] [] τ156)
     else if (j_k 0) = 0 ∨ (j_k 0) = 1 then some (some (.int (j_k 0)), τ156) else none)))))
    else if ((s_I σ v0 v3.toNatClampNeg) &&& (j_k 63)) = (j_k 39) then (j_ia σ v0 (v3 + (j_k 1)) (
     j_oc σ 6 v1 (j_c1 call 108 [.ref v1, .int (s_I σ v0 (v3 + (j_k 1)).toNatClampNeg)] σ (fun x159 τ158 =>
     j_ia τ158 v0 (v3 + (j_k 1)) (
     j_oc τ158 7 v2 (j_c1 call 230 [.ref v2, .int (s_I τ158 v0 (v3 + (j_k 1)).toNatClampNeg)] τ158 (fun x161 τ160 =>
     if x159 = x161 then (again 18 [some (.ref v0), some (.ref v1), some (.ref v2), some (.int (v3 + (j_k 6)))] [] τ160)
     else if (j_k 0) = 0 ∨ (j_k 0) = 1 then some (some (.int (j_k 0)), τ160) else none)))))))
    else if ((s_I σ v0 v3.toNatClampNeg) &&& (j_k 63)) = (j_k 40) then (j_oc σ 6 v1 (j_c1 call 109 [.ref v1] σ (fun x163 τ162 =>
     j_oc τ162 7 v2 (j_c1 call 132 [.ref v2] τ162 (fun x165 τ164 =>
     if x163 = x165 then (again 18 [some (.ref v0), some (.ref v1), some (.ref v2), some (.int (v3 + (j_k 6)))] [] τ164)
     else if (j_k 0) = 0 ∨ (j_k 0) = 1 then some (some (.int (j_k 0)), τ164) else none)))))
    else if ((s_I σ v0 v3.toNatClampNeg) &&& (j_k 63)) = (j_k 41) then (j_ia σ v0 (v3 + (j_k 1)) (
     j_oc σ 6 v1 (j_c1 call 110 [.ref v1, .int (s_I σ v0 (v3 + (j_k 1)).toNatClampNeg)] σ (fun x167 τ166 =>
     j_ia τ166 v0 (v3 + (j_k 1)) (
     j_oc τ166 7 v2 (j_c1 call 133 [.ref v2, .int (s_I τ166 v0 (v3 + (j_k 1)).toNatClampNeg)] τ166 (fun x169 τ168 =>
     if x167 = x169 then (again 18 [some (.ref v0), some (.ref v1), some (.ref v2), some (.int (v3 + (j_k 6)))] [] τ168)
     else if (j_k 0) = 0 ∨ (j_k 0) = 1 then some (some (.int (j_k 0)), τ168) else none)))))))
    else if ((s_I σ v0 v3.toNatClampNeg) &&& (j_k 63)) = (j_k 42) then (j_oc σ 6 v1 (j_c2 call 111 [.ref v1] σ (fun x171 τ170 =>
     j_oc τ170 7 v2 (j_c2 call 233 [.ref v2] τ170 (fun x173 τ172 =>
     if (lg_cmp x171 x173) = 0 then (again 18 [some (.ref v0), some (.ref v1), some (.ref v2), some (.int (v3 + (j_k 6)))] [] τ172)
     else if (j_k 0) = 0 ∨ (j_k 0) = 1 then some (some (.int (j_k 0)), τ172) else none)))))
    else again 18 [some (.ref v0), some (.ref v1), some (.ref v2), some (.int (v3 + (j_k 6)))] [] σ)) := rfl

