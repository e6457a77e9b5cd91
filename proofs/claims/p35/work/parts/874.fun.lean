def z_Pno : yP := fun _ _ _ _ v _ _ => v = some (.int (-3))
def z_Pfull : yP := fun _ _ _ _ v _ _ => v = some (.int (-4))

