/-! calls that are not proved yet -/
