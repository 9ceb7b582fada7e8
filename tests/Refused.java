/** A house, and calls that must leave it as it is: those that it refuses, and those that only ask. */
final class Refused implements Codes {
    interface House {
        FuseBoards make();
    }

    interface Call {
        int on(FuseBoards x);
    }

    private final String name;
    private final House house;
    private final String before;
    private final String back;
    private final String onwards;

    Refused(String name, House house) {
        this.name = name;
        this.house = house;
        before = Look.at(house.make());
        back = Look.back(house.make());
        onwards = Look.onwards(house.make());
    }

    static void is(String name, House house, String call, int due, Call refused) {
        new Refused(name, house).is(call, due, refused);
    }

    /** The error is that which is due, and nothing at all is another thing then. */
    void is(String call, int due, Call refused) {
        Due.isTrue(name + ", " + call + ": an error is due", due <= NO_SUCH && due >= NOT_POSSIBLE);
        Due.is(name + ", " + call, refused.on(house.make()), due);
        asked(call, refused);
    }

    void asked(String call, Call question) {
        String what = name + ", " + call;
        Due.same(what + ": what there is", Look.at(after(question)), before);
        Due.same(what + ": history, slots, pad", Look.back(after(question)), back);
        Due.same(what + ": what comes", Look.onwards(after(question)), onwards);
    }

    private FuseBoards after(Call call) {
        FuseBoards x = house.make();
        call.on(x);
        return x;
    }
}
