/** The calls of the face by number, so that a run of them can be drawn and told. */
final class Calls {
    static final String[] NAMES = {
        "page", "cell", "touched", "distance", "advert", "place", "takeOff", "advertsIn", "story", "lay", "lift",
        "change", "part", "person", "sign", "hold", "isReady", "close", "printed", "correct", "placeCorrection",
        "clean", "pass", "truck", "late", "word", "fit", "dropWords", "weigh", "crop", "wire", "take", "numbers",
        "solutions",
    };

    private Calls() {
    }

    private static long bit(boolean answer) {
        return answer ? 1 : 0;
    }

    /** Makes a call of a hall, with the arguments it needs out of six (a boolean is 0 or 1). */
    static long make(PressHall hall, int call, int[] a) {
        switch (NAMES[call]) {
            case "page":
                hall.page(a[0], a[1], a[2] == 1);
                return 0;
            case "cell": return hall.cell(a[0], a[1]);
            case "touched": return hall.touched();
            case "distance": return hall.distance(a[0], a[1]);
            case "advert": return hall.advert(a[0], a[1], a[2], a[3] == 1, a[4], a[5]);
            case "place": return hall.place(a[0]);
            case "takeOff": return hall.takeOff(a[0]);
            case "advertsIn": return hall.advertsIn(a[0]);
            case "story": return hall.story(a[0], a[1], a[2]);
            case "lay": return hall.lay(a[0]);
            case "lift": return hall.lift(a[0]);
            case "change": return hall.change(a[0], a[1]);
            case "part": return hall.part(a[0], a[1]);
            case "person": return bit(hall.person(a[0]));
            case "sign": return hall.sign(a[0], a[1]);
            case "hold": return bit(hall.hold(a[0], a[1]));
            case "isReady": return bit(hall.isReady(a[0]));
            case "close": return hall.close();
            case "printed": return hall.printed(a[0], a[1], a[2]);
            case "correct": return hall.correct(a[0], a[1]);
            case "placeCorrection": return hall.placeCorrection();
            case "clean": return hall.clean(a[0]);
            case "pass": return hall.pass(a[0]);
            case "truck": return hall.truck(a[0], a[1]);
            case "late": return hall.late(a[0], a[1]);
            case "word": return hall.word(a[0], a[1]);
            case "fit": return hall.fit(a[0]);
            case "dropWords": return hall.dropWords();
            case "weigh": return hall.weigh(a[0], a[1]);
            case "crop": return hall.crop(a[0], a[1]);
            case "wire": return hall.wire(a[0], a[1]);
            case "take": return hall.take();
            case "numbers":
                hall.numbers(a[0], a[1]);
                return 0;
            case "solutions": return hall.solutions();
            default: throw new UnsupportedOperationException(NAMES[call]);
        }
    }

    /** Makes a call of the model, with the same arguments. */
    static long make(Model model, int call, int[] a) {
        switch (NAMES[call]) {
            case "page": return model.page(a[0], a[1], a[2] == 1);
            case "cell": return model.cell(a[0], a[1]);
            case "touched": return model.touched();
            case "distance": return model.distance(a[0], a[1]);
            case "advert": return model.advert(a[0], a[1], a[2], a[3] == 1, a[4], a[5]);
            case "place": return model.place(a[0]);
            case "takeOff": return model.takeOff(a[0]);
            case "advertsIn": return model.advertsIn(a[0]);
            case "story": return model.story(a[0], a[1], a[2]);
            case "lay": return model.lay(a[0]);
            case "lift": return model.lift(a[0]);
            case "change": return model.change(a[0], a[1]);
            case "part": return model.part(a[0], a[1]);
            case "person": return bit(model.person(a[0]));
            case "sign": return model.sign(a[0], a[1]);
            case "hold": return bit(model.hold(a[0], a[1]));
            case "isReady": return bit(model.isReady(a[0]));
            case "close": return model.close();
            case "printed": return model.printed(a[0], a[1], a[2]);
            case "correct": return model.correct(a[0], a[1]);
            case "placeCorrection": return model.placeCorrection();
            case "clean": return model.clean(a[0]);
            case "pass": return model.pass(a[0]);
            case "truck": return model.truck(a[0], a[1]);
            case "late": return model.late(a[0], a[1]);
            case "word": return model.word(a[0], a[1]);
            case "fit": return model.fit(a[0]);
            case "dropWords": return model.dropWords();
            case "weigh": return model.weigh(a[0], a[1]);
            case "crop": return model.crop(a[0], a[1]);
            case "wire": return model.wire(a[0], a[1]);
            case "take": return model.take();
            case "numbers": return model.numbers(a[0], a[1]);
            case "solutions": return model.solutions();
            default: throw new UnsupportedOperationException(NAMES[call]);
        }
    }
}
