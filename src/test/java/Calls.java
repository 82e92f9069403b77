/** The calls of the document's face as lines that can be checked; all that name FAULTS are told so here. */
final class Calls {
    private Calls() { }

    static Line coast(Line.Maker maker, int... fine) {
        return new Line("coast", maker, (x, a) -> x.coast(a[0], a[1], a[2], a[3]), fine).namingFaults();
    }

    static Line ofPass(Line.Maker maker, int... fine) {
        return new Line("ofPass", maker, (x, a) -> x.ofPass(a[0], a[1]), fine);
    }

    static Line trim(Line.Maker maker, int... fine) {
        return new Line("trim", maker, (x, a) -> x.trim(a[0], a[1], a[2]), fine);
    }

    static Line slack(Line.Maker maker, int... fine) {
        return new Line("slack", maker, (x, a) -> x.slack(a[0]), fine);
    }

    static Line worn(Line.Maker maker, int... fine) {
        return new Line("worn", maker, (x, a) -> x.worn(a[0], a[1], a[2]), fine);
    }

    static Line off(Line.Maker maker, int... fine) {
        return new Line("off", maker, (x, a) -> x.off(a[0], a[1], a[2]), fine);
    }

    static Line fits(Line.Maker maker, int... fine) {
        return new Line("fits", maker, (x, a) -> x.fits(a[0], a[1]), fine);
    }

    static Line match(Line.Maker maker, int... fine) {
        return new Line("match", maker, (x, a) -> x.match(a[0], a[1]), fine);
    }

    static Line last(Line.Maker maker, int... fine) {
        return new Line("last", maker, (x, a) -> x.last(a[0]), fine);
    }

    static Line alike(Line.Maker maker, int... fine) {
        return new Line("alike", maker, (x, a) -> x.alike(a[0]), fine);
    }

    static Line most(Line.Maker maker) {
        return new Line("most", maker, (x, a) -> x.most());
    }

    static Line letGo(Line.Maker maker, int... fine) {
        return new Line("letGo", maker, (x, a) -> x.letGo(a[0], a[1]), fine);
    }

    static Line fewest(Line.Maker maker, int... fine) {
        return new Line("fewest", maker, (x, a) -> x.fewest(a[0]), fine);
    }

    static Line voyages(Line.Maker maker, int... fine) {
        return new Line("voyages", maker, (x, a) -> x.voyages(a[0], a[1], a[2], a[3], a[4], a[5]), fine)
            .namingFaults();
    }

    /** The last argument is 0, if they did not fit. */
    static Line reading(Line.Maker maker, int... fine) {
        return new Line("reading", maker, (x, a) -> x.reading(a[0], a[1], a[2], a[3] != 0), fine);
    }

    static Line back(Line.Maker maker, int... fine) {
        return new Line("back", maker, (x, a) -> x.back(a[0]), fine);
    }

    static Line edges(Line.Maker maker, int... fine) {
        return new Line("edges", maker, (x, a) -> x.edges(a[0], a[1]), fine);
    }

    static Line kinds(Line.Maker maker, int... fine) {
        return new Line("kinds", maker, (x, a) -> x.kinds(a[0]), fine);
    }

    static Line slacks(Line.Maker maker) {
        return new Line("slacks", maker, (x, a) -> x.slacks());
    }

    static Line odds(Line.Maker maker, int... fine) {
        return new Line("odds", maker, (x, a) -> x.odds(a[0], a[1], a[2]), fine).answeringLong();
    }

    static Line sheet(Line.Maker maker, int... fine) {
        return new Line("sheet", maker, (x, a) -> x.sheet(a[0], a[1], a[2]), fine).namingFaults();
    }

    static Line lose(Line.Maker maker, int... fine) {
        return new Line("lose", maker, (x, a) -> x.lose(a[0]), fine);
    }

    static Line put(Line.Maker maker, int... fine) {
        return new Line("put", maker, (x, a) -> x.put(a[0], a[1], a[2]), fine).namingFaults();
    }

    static Line cell(Line.Maker maker, int... fine) {
        return new Line("cell", maker, (x, a) -> x.cell(a[0], a[1], a[2]), fine).namingFaults().answeringLong();
    }

    static Line copy(Line.Maker maker, int... fine) {
        return new Line("copy", maker, (x, a) -> x.copy(a[0], a[1], a[2], a[3], a[4]), fine).namingFaults();
    }

    static Line tell(Line.Maker maker, int... fine) {
        return new Line("tell", maker, (x, a) -> x.tell(a[0]), fine);
    }

    static Line seal(Line.Maker maker, int... fine) {
        return new Line("seal", maker, (x, a) -> x.seal(a[0]), fine);
    }

    static Line as(Line.Maker maker, int... fine) {
        return new Line("as", maker, (x, a) -> x.as(a[0], a[1]), fine).namingFaults();
    }

    static Line trace(Line.Maker maker) {
        return new Line("trace", maker, (x, a) -> x.trace());
    }

    static Line many(Line.Maker maker, int... fine) {
        return new Line("many", maker, (x, a) -> x.many(a[0]), fine);
    }
}
