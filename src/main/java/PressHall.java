/** A newspaper from the wire to the press; the promises of the document say what each call does. */
public final class PressHall {
    public static final int NONE = -1;

    private static final int PAGES = 10;
    /** The pages below this one are in each copy; behind them comes one last page for each zone. */
    private static final int COMMON_PAGES = 7;
    private static final int ZONES = 3;
    private static final int ROWS = 4;
    private static final int COLUMNS = 3;
    private static final int CELLS = 12;
    private static final int SECTIONS = 4;
    private static final int APART_OF_ZONES = 10;
    private static final int ALL_PLATES = 31;

    private static final int CATEGORIES = 4;
    private static final int MOST_DISTANCE = 9;
    private static final int MOST_ADVERTS = 20;
    private static final int MOST_STORIES = 20;
    private static final int MOST_PARAGRAPHS = 6;
    private static final int LINES_OF_CELL = 5;
    private static final int PARTS = 2;
    /** The section of the pages for the second part of any story. */
    private static final int SECTION_BEHIND = 0;

    private static final int FREE = 0;
    private static final int ADVERT_MARK = 100;
    private static final int STORY_MARK = 200;
    private static final int CORRECTION_MARK = 300;

    private static final int PEOPLE = 6;
    private static final int ALL_PEOPLE = 63;
    private static final int SIGNATURES_NEEDED = 2;
    private static final int MOST_EDITIONS = 8;
    private static final int MOST_OWED = 5;

    private static final int MOST_MINUTES = 100;
    private static final int LATEST_START = 1000;
    private static final int MOST_COPIES = 5000;
    private static final int COPIES_A_MINUTE = 50;
    private static final int MOST_TRUCKS = 6;

    private static final int MOST_WORDS = 5;
    private static final int MOST_WORD_WIDTH = 20;
    private static final int MOST_HEADLINE_WIDTH = 200;
    private static final int PICTURE_SIDE = 6;
    private static final int MOST_WEIGHTS = 999999;
    private static final int MOST_WIRE_WORDS = 65535;
    private static final int MOST_PRIORITY = 9;
    private static final int MOST_WAITING = 12;
    private static final int WORDS_ALIKE = 3;
    private static final int PUZZLE_SIDE = 4;
    private static final int PUZZLE_CELLS = 16;
    private static final int QUARTER_SIDE = 2;
    private static final int MOST_NUMBERS = 4444;

    private final Sheets sheets;
    private final int[] distances;
    private final Advert[] adverts;
    private int advertCount;
    private final Story[] stories;
    private int storyCount;
    private final Layout layout;
    private final Archive archive;
    private final Trucks trucks;
    private int now;
    private final Headline headline;
    private final int[] weights;
    private final Wire waiting;
    private final Puzzle puzzle;

    public PressHall() {
        sheets = new Sheets();
        distances = new int[] {1, 1, 1, 1};
        adverts = new Advert[MOST_ADVERTS];
        stories = new Story[MOST_STORIES];
        layout = new Layout(sheets);
        archive = new Archive();
        trucks = new Trucks();
        headline = new Headline();
        weights = new int[PICTURE_SIDE];
        waiting = new Wire();
        puzzle = new Puzzle();
    }

    // ---- pages

    public void page(int page, int section, boolean colour)
            throws IndexOutOfBoundsException, IllegalArgumentException, IllegalStateException {
        needPage(page);
        needRange(section, 0, SECTIONS - 1);
        if (!sheets.isBare(page)) {
            throw new IllegalStateException("a cell of the page is taken");
        }
        sheets.setKind(page, section, colour);
    }

    public int cell(int page, int cell) throws IndexOutOfBoundsException {
        needPage(page);
        needCell(cell);
        return sheets.at(page, cell);
    }

    public int touched() {
        return sheets.plates;
    }

    // ---- advertisements

    public int distance(int category, int distance) throws IllegalArgumentException {
        needRange(category, 0, CATEGORIES - 1);
        needRange(distance, 0, MOST_DISTANCE);
        int before = distanceOf(category);
        distances[category] = distance;
        return before;
    }

    public int advert(int category, int width, int height, boolean colour, int section, int zone)
            throws IllegalArgumentException, IllegalStateException {
        needRange(category, 0, CATEGORIES - 1);
        needRange(width, 1, COLUMNS);
        needRange(height, 1, ROWS);
        needRange(section, NONE, SECTIONS - 1);
        needRange(zone, NONE, ZONES - 1);
        if (advertCount >= MOST_ADVERTS) {
            throw new IllegalStateException("there are 20 advertisements");
        }
        adverts[advertCount] = new Advert(category, width, height, colour, section, zone);
        advertCount++;
        return advertCount - 1;
    }

    public int place(int advert) throws IndexOutOfBoundsException, IllegalStateException {
        Advert it = needAdvert(advert);
        if (it.isPlaced()) {
            throw new IllegalStateException("the advertisement is placed");
        }
        for (int page = it.lowestPage(); page <= it.highestPage(); page++) {
            int first = fits(it, page) ? sheets.freeRectangle(page, it.width, it.height) : NONE;
            if (first != NONE) {
                it.putAt(page, first);
                sheets.fillRectangle(it, ADVERT_MARK + advert);
                return it.whereItIs();
            }
        }
        return NONE;
    }

    public int takeOff(int advert) throws IndexOutOfBoundsException, IllegalStateException {
        Advert it = needAdvert(advert);
        if (!it.isPlaced()) {
            throw new IllegalStateException("the advertisement is not placed");
        }
        int was = it.whereItIs();
        sheets.freeAllOf(ADVERT_MARK + advert);
        it.putAt(NONE, NONE);
        return was;
    }

    public int advertsIn(int zone) throws IndexOutOfBoundsException {
        if (zone < 0 || zone >= ZONES) {
            throw new IndexOutOfBoundsException("no such zone");
        }
        int count = 0;
        for (int i = 0; i < advertCount && i < adverts.length; i++) {
            Advert it = adverts[i];
            if (it != null && it.isPlaced() && isInCopies(it.page, zone)) {
                count++;
            }
        }
        return count;
    }

    // ---- stories

    public int story(int section, int lines, int least) throws IllegalArgumentException, IllegalStateException {
        needRange(section, 0, SECTIONS - 1);
        int paragraphs = paragraphsOf(lines);
        needRange(paragraphs, 1, MOST_PARAGRAPHS);
        needRange(least, 1, paragraphs);
        if (storyCount >= MOST_STORIES) {
            throw new IllegalStateException("there are 20 stories");
        }
        stories[storyCount] = new Story(section, lines, paragraphs, least);
        storyCount++;
        return storyCount - 1;
    }

    public int lay(int story) throws IndexOutOfBoundsException, IllegalStateException {
        Story it = needStory(story);
        if (it.isLaid()) {
            throw new IllegalStateException("the story is laid out");
        }
        // All plates cost nothing here, so the first way is the one that is taken.
        if (!layout.find(it, FREE, ALL_PLATES)) {
            return 0;
        }
        putOut(it, STORY_MARK + story);
        return it.way.paragraphs;
    }

    public int lift(int story) throws IndexOutOfBoundsException, IllegalStateException {
        Story it = needStory(story);
        if (!it.isLaid()) {
            throw new IllegalStateException("the story is not laid out");
        }
        int had = it.way.paragraphs;
        sheets.freeAllOf(STORY_MARK + story);
        it.way.clear();
        return had;
    }

    public int change(int old, int fresh) throws IndexOutOfBoundsException, IllegalStateException {
        Story goes = needStory(old);
        Story comes = needStory(fresh);
        if (!goes.isLaid() || comes.isLaid()) {
            throw new IllegalStateException("the old story is not laid out, or the fresh one is");
        }
        int before = sheets.plates;
        int costless = before | sheets.platesOf(STORY_MARK + old);
        if (!layout.find(comes, STORY_MARK + old, costless)) {
            return NONE;
        }
        sheets.freeAllOf(STORY_MARK + old);
        goes.way.clear();
        putOut(comes, STORY_MARK + fresh);
        return Integer.bitCount(sheets.plates & ~before);
    }

    public int part(int story, int part) throws IndexOutOfBoundsException, IllegalArgumentException {
        Story it = needStory(story);
        needRange(part, 0, PARTS - 1);
        int size = it.way.size(part);
        if (size == 0) {
            return NONE;
        }
        return 10000 * it.way.pageOf(part) + 100 * cellInColumns(it.way.start(part)) + size;
    }

    // ---- people, editions, corrections

    public boolean person(int person) throws IndexOutOfBoundsException {
        needPerson(person);
        if (sheets.isThere(person)) {
            sheets.letLeave(person);
        } else {
            sheets.letComeBack(person);
        }
        return sheets.isThere(person);
    }

    public int sign(int page, int person) throws IndexOutOfBoundsException, IllegalStateException {
        needPage(page);
        needPerson(person);
        if (!sheets.isThere(person) || sheets.hasSigned(page, person)) {
            throw new IllegalStateException("the person has left, or has signed it");
        }
        return sheets.addSignature(page, person);
    }

    public boolean hold(int page, int person) throws IndexOutOfBoundsException, IllegalStateException {
        needPage(page);
        needPerson(person);
        if (!sheets.isThere(person)) {
            throw new IllegalStateException("the person has left");
        }
        return sheets.turnHold(page, person);
    }

    public boolean isReady(int page) throws IndexOutOfBoundsException {
        needPage(page);
        return sheets.canGo(page);
    }

    public int close() throws IllegalStateException {
        if (!sheets.canAllGo() || archive.owedCount > 0 || archive.count >= MOST_EDITIONS) {
            throw new IllegalStateException("no edition can be closed now");
        }
        archive.keep(sheets, now);
        sheets.plates = 0;
        return archive.count - 1;
    }

    public int printed(int edition, int page, int cell) throws IndexOutOfBoundsException {
        needEdition(edition);
        needPage(page);
        needCell(cell);
        return archive.at(edition, page, cell);
    }

    public int correct(int edition, int story) throws IndexOutOfBoundsException, IllegalStateException {
        needEdition(edition);
        needStory(story);
        if (!archive.has(edition, STORY_MARK + story) || archive.owes(story)
                || archive.owedCount >= MOST_OWED) {
            throw new IllegalStateException("the edition has no such story, one of it is owed, or 5 are");
        }
        archive.addOwed(story);
        return archive.owedCount;
    }

    public int placeCorrection() throws IllegalStateException {
        if (archive.owedCount == 0) {
            throw new IllegalStateException("no correction is owed");
        }
        int story = archive.longestOwed();
        Story it = storyAt(story);
        for (int page = 0; it != null && page < COMMON_PAGES; page++) {
            int cell = sheets.sectionOf(page) == it.section ? sheets.lowestFree(page) : NONE;
            if (cell != NONE) {
                sheets.put(page, cell, CORRECTION_MARK + story);
                archive.dropLongestOwed();
                return 100 * page + cell;
            }
        }
        return NONE;
    }

    public int clean(int page) throws IndexOutOfBoundsException {
        needPage(page);
        int count = 0;
        for (int cell = 0; cell < CELLS; cell++) {
            if (sheets.at(page, cell) >= CORRECTION_MARK) {
                sheets.put(page, cell, FREE);
                count++;
            }
        }
        return count;
    }

    // ---- the press

    public int pass(int minutes) throws IllegalArgumentException {
        needRange(minutes, 1, MOST_MINUTES);
        now += minutes;
        return now;
    }

    public int truck(int minute, int copies) throws IllegalArgumentException, IllegalStateException {
        needRange(minute, 0, LATEST_START);
        needRange(copies, 1, MOST_COPIES);
        if (trucks.count >= MOST_TRUCKS) {
            throw new IllegalStateException("there are 6 trucks");
        }
        trucks.add(minute, copies);
        return trucks.count - 1;
    }

    public int late(int edition, int truck) throws IndexOutOfBoundsException {
        needEdition(edition);
        if (truck < 0 || truck >= trucks.count) {
            throw new IndexOutOfBoundsException("no such truck");
        }
        return trucks.minutesLate(truck, archive.minuteOf(edition));
    }

    // ---- headlines, pictures, the wire, puzzles

    public int word(int width, int narrow) throws IllegalArgumentException, IllegalStateException {
        needRange(width, 1, MOST_WORD_WIDTH);
        needRange(narrow, 1, width);
        if (headline.count >= MOST_WORDS) {
            throw new IllegalStateException("the headline has 5 words");
        }
        headline.add(width, narrow);
        return headline.count;
    }

    public int fit(int width) throws IllegalArgumentException {
        needRange(width, 0, MOST_HEADLINE_WIDTH);
        if (headline.count == 0) {
            return 0;
        }
        return headline.bestWithin(width);
    }

    public int dropWords() {
        int had = headline.count;
        headline.count = 0;
        return had;
    }

    public int weigh(int row, int weights) throws IllegalArgumentException {
        needRange(row, 0, PICTURE_SIDE - 1);
        needRange(weights, 0, MOST_WEIGHTS);
        int before = this.weights[row];
        this.weights[row] = weights;
        return before;
    }

    public int crop(int width, int height) throws IllegalArgumentException {
        needRange(width, 1, PICTURE_SIDE);
        needRange(height, 1, PICTURE_SIDE);
        int best = NONE;
        int place = 0;
        for (int row = 0; row + height <= PICTURE_SIDE; row++) {
            for (int column = 0; column + width <= PICTURE_SIDE; column++) {
                int weight = weightOf(row, column, width, height);
                if (weight > best) {
                    best = weight;
                    place = 10 * row + column;
                }
            }
        }
        return 100 * best + place;
    }

    public int wire(int words, int priority) throws IllegalArgumentException, IllegalStateException {
        needRange(words, 0, MOST_WIRE_WORDS);
        needRange(priority, 0, MOST_PRIORITY);
        int like = waiting.firstAlike(words);
        if (like != NONE) {
            waiting.merge(like, words, priority);
            return like;
        }
        if (waiting.count >= MOST_WAITING) {
            throw new IllegalStateException("12 texts wait");
        }
        waiting.add(words, priority);
        return waiting.count - 1;
    }

    public int take() throws IllegalStateException {
        if (waiting.count == 0) {
            throw new IllegalStateException("no text waits");
        }
        return waiting.remove(waiting.mostUrgent());
    }

    public void numbers(int row, int numbers) throws IllegalArgumentException {
        needRange(row, 0, PUZZLE_SIDE - 1);
        if (!isPuzzleRow(numbers)) {
            throw new IllegalArgumentException("not four digits of 0 to 4");
        }
        puzzle.setRow(row, numbers);
    }

    public int solutions() {
        return puzzle.countSolutions();
    }

    // ---- what the calls need

    private static void needPage(int page) {
        if (!isPage(page)) {
            throw new IndexOutOfBoundsException("no such page");
        }
    }

    private static void needCell(int cell) {
        if (!isCell(cell)) {
            throw new IndexOutOfBoundsException("no such cell");
        }
    }

    private static void needPerson(int person) {
        if (person < 0 || person >= PEOPLE) {
            throw new IndexOutOfBoundsException("no such person");
        }
    }

    private static void needRange(int value, int lowest, int highest) {
        if (value < lowest || value > highest) {
            throw new IllegalArgumentException("an argument is out of range");
        }
    }

    private void needEdition(int edition) {
        if (edition < 0 || edition >= archive.count) {
            throw new IndexOutOfBoundsException("no such edition");
        }
    }

    private Advert needAdvert(int number) {
        Advert it = number >= 0 && number < adverts.length ? adverts[number] : null;
        if (it == null) {
            throw new IndexOutOfBoundsException("no such advertisement");
        }
        return it;
    }

    private Story needStory(int number) {
        Story it = storyAt(number);
        if (it == null) {
            throw new IndexOutOfBoundsException("no such story");
        }
        return it;
    }

    private Story storyAt(int number) {
        return number >= 0 && number < stories.length ? stories[number] : null;
    }

    private static boolean isPage(int page) {
        return page >= 0 && page < PAGES;
    }

    private static boolean isCell(int cell) {
        return cell >= 0 && cell < CELLS;
    }

    private static boolean isZonePage(int page) {
        return page >= COMMON_PAGES;
    }

    private static boolean isInCopies(int page, int zone) {
        return !isZonePage(page) || page == COMMON_PAGES + zone;
    }

    private static int plateOf(int page) {
        return 1 << (page / 2);
    }

    /** The cell that stands at a place of the order of columns. */
    private static int cellInColumns(int place) {
        return COLUMNS * (place % ROWS) + place / ROWS;
    }

    private static int pagesApart(int page, int other) {
        if (isZonePage(page) && isZonePage(other) && page != other) {
            return APART_OF_ZONES;
        }
        return page < other ? other - page : page - other;
    }

    private int distanceOf(int category) {
        return category >= 0 && category < distances.length ? distances[category] : 0;
    }

    private boolean fits(Advert it, int page) {
        if (it.section != NONE && it.section != sheets.sectionOf(page)) {
            return false;
        }
        if (it.colour && !sheets.hasColour(page)) {
            return false;
        }
        return isFarFromItsLike(it, page);
    }

    private boolean isFarFromItsLike(Advert it, int page) {
        for (int i = 0; i < advertCount && i < adverts.length; i++) {
            Advert other = adverts[i];
            if (other != null && other != it && other.isPlaced() && other.category == it.category
                    && pagesApart(page, other.page) < distanceOf(it.category)) {
                return false;
            }
        }
        return true;
    }

    /** Counts the digits of a story's lines; 0 if they are none that a story can have. */
    private static int paragraphsOf(int lines) {
        int rest = lines;
        for (int count = 0; count <= MOST_PARAGRAPHS; count++) {
            if (rest == 0) {
                return count;
            }
            if (rest < 0 || rest % 10 == 0) {
                return 0;
            }
            rest = rest / 10;
        }
        return 0;
    }

    private void putOut(Story story, int mark) {
        story.way.copy(layout.best);
        for (int part = 0; part < PARTS; part++) {
            int start = story.way.start(part);
            int size = story.way.size(part);
            for (int i = 0; i < size; i++) {
                sheets.put(story.way.pageOf(part), cellInColumns(start + i), mark);
            }
        }
    }

    private int weightOf(int row, int column, int width, int height) {
        int sum = 0;
        for (int down = row; down < row + height && down < PICTURE_SIDE; down++) {
            for (int right = column; right < column + width && right < PICTURE_SIDE; right++) {
                sum += digitAt(weights[down], PICTURE_SIDE, right);
            }
        }
        return sum;
    }

    /** The digit at a place of a number of so many digits, the first one at the place 0. */
    private static int digitAt(int number, int digits, int place) {
        int rest = number;
        for (int i = place + 1; i < digits; i++) {
            rest = rest / 10;
        }
        return rest % 10;
    }

    private static boolean isPuzzleRow(int numbers) {
        if (numbers < 0 || numbers > MOST_NUMBERS) {
            return false;
        }
        for (int column = 0; column < PUZZLE_SIDE; column++) {
            if (digitAt(numbers, PUZZLE_SIDE, column) > PUZZLE_SIDE) {
                return false;
            }
        }
        return true;
    }

    /** The pages as they are now, with their signatures and holds, and the plates that are touched. */
    private static final class Sheets {
        private final int[][] taken;
        private final int[] sections;
        private final boolean[] colours;
        private final int[] signers;
        private final int[] holders;
        private int present;
        private int plates;

        Sheets() {
            taken = new int[PAGES][CELLS];
            sections = new int[PAGES];
            colours = new boolean[PAGES];
            signers = new int[PAGES];
            holders = new int[PAGES];
            present = ALL_PEOPLE;
        }

        void setKind(int page, int section, boolean colour) {
            if (isPage(page)) {
                sections[page] = section;
                colours[page] = colour;
            }
        }

        int sectionOf(int page) {
            return isPage(page) ? sections[page] : NONE;
        }

        boolean hasColour(int page) {
            return isPage(page) && colours[page];
        }

        int at(int page, int cell) {
            return isPage(page) && isCell(cell) ? taken[page][cell] : FREE;
        }

        void put(int page, int cell, int mark) {
            if (isPage(page) && isCell(cell)) {
                taken[page][cell] = mark;
                signers[page] = 0;
                plates |= plateOf(page);
            }
        }

        boolean isBare(int page) {
            for (int cell = 0; cell < CELLS; cell++) {
                if (at(page, cell) != FREE) {
                    return false;
                }
            }
            return true;
        }

        int lowestFree(int page) {
            for (int cell = 0; cell < CELLS; cell++) {
                if (at(page, cell) == FREE) {
                    return cell;
                }
            }
            return NONE;
        }

        void freeAllOf(int mark) {
            for (int page = 0; page < PAGES; page++) {
                for (int cell = 0; cell < CELLS; cell++) {
                    if (at(page, cell) == mark) {
                        put(page, cell, FREE);
                    }
                }
            }
        }

        int platesOf(int mark) {
            int found = 0;
            for (int page = 0; page < PAGES; page++) {
                for (int cell = 0; cell < CELLS; cell++) {
                    if (at(page, cell) == mark) {
                        found |= plateOf(page);
                    }
                }
            }
            return found;
        }

        int freeRectangle(int page, int width, int height) {
            for (int row = 0; row + height <= ROWS; row++) {
                for (int column = 0; column + width <= COLUMNS; column++) {
                    if (isFreeRectangle(page, COLUMNS * row + column, width, height)) {
                        return COLUMNS * row + column;
                    }
                }
            }
            return NONE;
        }

        private boolean isFreeRectangle(int page, int first, int width, int height) {
            for (int down = 0; down < height; down++) {
                for (int right = 0; right < width; right++) {
                    if (at(page, first + COLUMNS * down + right) != FREE) {
                        return false;
                    }
                }
            }
            return true;
        }

        void fillRectangle(Advert it, int mark) {
            for (int down = 0; down < it.height; down++) {
                for (int right = 0; right < it.width; right++) {
                    put(it.page, it.first + COLUMNS * down + right, mark);
                }
            }
        }

        /** The first place, in the order of columns, of so many cells that are free or taken by what goes. */
        int freeRun(int page, int size, int going) {
            int run = 0;
            for (int place = 0; place < CELLS; place++) {
                int mark = at(page, cellInColumns(place));
                run = mark == FREE || mark == going ? run + 1 : 0;
                if (run >= size) {
                    return place - size + 1;
                }
            }
            return NONE;
        }

        boolean isThere(int person) {
            return (present & (1 << person)) != 0;
        }

        /** Takes away the signatures and holds too: they do not return with the person. */
        void letLeave(int person) {
            int others = ~(1 << person);
            present &= others;
            for (int page = 0; page < PAGES; page++) {
                signers[page] &= others;
                holders[page] &= others;
            }
        }

        void letComeBack(int person) {
            present |= 1 << person;
        }

        boolean hasSigned(int page, int person) {
            return isPage(page) && (signers[page] & (1 << person)) != 0;
        }

        int addSignature(int page, int person) {
            if (!isPage(page)) {
                return 0;
            }
            signers[page] |= 1 << person;
            return Integer.bitCount(signers[page]);
        }

        boolean turnHold(int page, int person) {
            if (!isPage(page)) {
                return false;
            }
            holders[page] ^= 1 << person;
            return (holders[page] & (1 << person)) != 0;
        }

        boolean canGo(int page) {
            if (!isPage(page) || holders[page] != 0) {
                return false;
            }
            return isBare(page) || Integer.bitCount(signers[page]) >= SIGNATURES_NEEDED;
        }

        boolean canAllGo() {
            for (int page = 0; page < PAGES; page++) {
                if (!canGo(page)) {
                    return false;
                }
            }
            return true;
        }
    }

    /** An advertisement, and where it lies. */
    private static final class Advert {
        private final int category;
        private final int width;
        private final int height;
        private final boolean colour;
        private final int section;
        private final int zone;
        private int page;
        private int first;

        Advert(int category, int width, int height, boolean colour, int section, int zone) {
            this.category = category;
            this.width = width;
            this.height = height;
            this.colour = colour;
            this.section = section;
            this.zone = zone;
            page = NONE;
            first = NONE;
        }

        int lowestPage() {
            return zone == NONE ? 0 : COMMON_PAGES + zone;
        }

        int highestPage() {
            return zone == NONE ? COMMON_PAGES - 1 : COMMON_PAGES + zone;
        }

        boolean isPlaced() {
            return page != NONE;
        }

        void putAt(int newPage, int newFirst) {
            page = newPage;
            first = newFirst;
        }

        int whereItIs() {
            return 100 * page + first;
        }
    }

    /** A story, and the way in which it is laid out. */
    private static final class Story {
        private final int section;
        private final int lines;
        private final int paragraphs;
        private final int least;
        private final Way way;

        Story(int section, int lines, int paragraphs, int least) {
            this.section = section;
            this.lines = lines;
            this.paragraphs = paragraphs;
            this.least = least;
            way = new Way();
        }

        boolean isLaid() {
            return way.paragraphs > 0;
        }

        private int linesOfFirst(int count) {
            int rest = lines;
            for (int i = count; i < paragraphs; i++) {
                rest = rest / 10;
            }
            int sum = 0;
            for (int i = 0; i < count; i++) {
                sum += rest % 10;
                rest = rest / 10;
            }
            return sum;
        }

        int cellsFor(int from, int to) {
            int needed = linesOfFirst(to) - linesOfFirst(from);
            return (needed + LINES_OF_CELL - 1) / LINES_OF_CELL;
        }
    }

    /** A way to lay a story out: how many paragraphs, and the run of cells of each part. */
    private static final class Way {
        private int paragraphs;
        private final int[] pages;
        private final int[] starts;
        private final int[] sizes;

        Way() {
            pages = new int[PARTS];
            starts = new int[PARTS];
            sizes = new int[PARTS];
        }

        void clear() {
            paragraphs = 0;
            for (int part = 0; part < PARTS; part++) {
                setPart(part, NONE, NONE, 0);
            }
        }

        void setPart(int part, int page, int start, int size) {
            if (part >= 0 && part < PARTS) {
                pages[part] = page;
                starts[part] = start;
                sizes[part] = size;
            }
        }

        void copy(Way other) {
            paragraphs = other.paragraphs;
            for (int part = 0; part < PARTS; part++) {
                setPart(part, other.pageOf(part), other.start(part), other.size(part));
            }
        }

        int pageOf(int part) {
            return part >= 0 && part < PARTS ? pages[part] : NONE;
        }

        int start(int part) {
            return part >= 0 && part < PARTS ? starts[part] : NONE;
        }

        int size(int part) {
            return part >= 0 && part < PARTS ? sizes[part] : 0;
        }

        int plates() {
            int found = 0;
            for (int part = 0; part < PARTS; part++) {
                if (sizes[part] > 0) {
                    found |= plateOf(pages[part]);
                }
            }
            return found;
        }
    }

    /** Looks for the way to lay a story out. */
    private static final class Layout {
        private final Sheets sheets;
        private final Way best;
        private final Way trial;
        private int going;
        private int costless;
        private int bestCost;

        Layout(Sheets sheets) {
            this.sheets = sheets;
            best = new Way();
            trial = new Way();
        }

        /**
         * Puts into best the first of the ways that touch the fewest plates beside the costless ones,
         * cells taken by what goes counting as free; tells whether there is a way.
         */
        boolean find(Story story, int whatGoes, int costlessPlates) {
            going = whatGoes;
            costless = costlessPlates;
            best.clear();
            for (int count = story.paragraphs; count >= story.least; count--) {
                tryOnePage(story, count);
                if (best.paragraphs == 0) {
                    tryTwoPages(story, count);
                }
                if (best.paragraphs > 0) {
                    return true;
                }
            }
            return false;
        }

        private void tryOnePage(Story story, int count) {
            trial.clear();
            trial.paragraphs = count;
            int size = story.cellsFor(0, count);
            for (int page = 0; page < COMMON_PAGES; page++) {
                if (setRun(0, page, story.section, size)) {
                    keepIfCheaper();
                }
            }
        }

        private void tryTwoPages(Story story, int count) {
            trial.paragraphs = count;
            for (int ahead = count - 1; ahead >= 1; ahead--) {
                int size = story.cellsFor(0, ahead);
                int restSize = story.cellsFor(ahead, count);
                for (int page = 0; page < COMMON_PAGES; page++) {
                    if (!setRun(0, page, story.section, size)) {
                        continue;
                    }
                    for (int second = page + 1; second < COMMON_PAGES; second++) {
                        if (setRun(1, second, SECTION_BEHIND, restSize)) {
                            keepIfCheaper();
                        }
                    }
                }
            }
        }

        private boolean setRun(int part, int page, int section, int size) {
            if (sheets.sectionOf(page) != section) {
                return false;
            }
            int start = sheets.freeRun(page, size, going);
            if (start == NONE) {
                return false;
            }
            trial.setPart(part, page, start, size);
            return true;
        }

        private void keepIfCheaper() {
            int cost = Integer.bitCount(trial.plates() & ~costless);
            if (best.paragraphs == 0 || cost < bestCost) {
                best.copy(trial);
                bestCost = cost;
            }
        }
    }

    /** The editions that were closed, each with its pages and its minute, and the corrections that are owed. */
    private static final class Archive {
        private final int[][] cells;
        private final int[] minutes;
        private int count;
        private final int[] owed;
        private int owedCount;

        Archive() {
            cells = new int[MOST_EDITIONS][PAGES * CELLS];
            minutes = new int[MOST_EDITIONS];
            owed = new int[MOST_OWED];
        }

        void keep(Sheets sheets, int minute) {
            if (count < 0 || count >= MOST_EDITIONS) {
                return;
            }
            for (int page = 0; page < PAGES; page++) {
                for (int cell = 0; cell < CELLS; cell++) {
                    cells[count][CELLS * page + cell] = sheets.at(page, cell);
                }
            }
            minutes[count] = minute;
            count++;
        }

        private boolean isKept(int edition) {
            return edition >= 0 && edition < count && edition < MOST_EDITIONS;
        }

        int at(int edition, int page, int cell) {
            return isKept(edition) && isPage(page) && isCell(cell) ? cells[edition][CELLS * page + cell] : FREE;
        }

        int minuteOf(int edition) {
            return isKept(edition) ? minutes[edition] : 0;
        }

        boolean has(int edition, int mark) {
            for (int page = 0; page < PAGES; page++) {
                for (int cell = 0; cell < CELLS; cell++) {
                    if (at(edition, page, cell) == mark) {
                        return true;
                    }
                }
            }
            return false;
        }

        boolean owes(int story) {
            for (int i = 0; i < owedCount && i < MOST_OWED; i++) {
                if (owed[i] == story) {
                    return true;
                }
            }
            return false;
        }

        void addOwed(int story) {
            if (owedCount >= 0 && owedCount < MOST_OWED) {
                owed[owedCount] = story;
                owedCount++;
            }
        }

        int longestOwed() {
            return owedCount > 0 ? owed[0] : NONE;
        }

        void dropLongestOwed() {
            for (int i = 1; i < owedCount && i < MOST_OWED; i++) {
                owed[i - 1] = owed[i];
            }
            if (owedCount > 0) {
                owedCount--;
            }
        }
    }

    /** The trucks, and by how much they are late. */
    private static final class Trucks {
        private final int[] minutes;
        private final int[] copies;
        private int count;

        Trucks() {
            minutes = new int[MOST_TRUCKS];
            copies = new int[MOST_TRUCKS];
        }

        void add(int itsMinute, int itsCopies) {
            if (count >= 0 && count < MOST_TRUCKS) {
                minutes[count] = itsMinute;
                copies[count] = itsCopies;
                count++;
            }
        }

        int minutesLate(int number, int start) {
            if (number < 0 || number >= MOST_TRUCKS) {
                return 0;
            }
            int needed = copies[number];
            for (int other = 0; other < count && other < MOST_TRUCKS; other++) {
                if (isAhead(other, number)) {
                    needed += copies[other];
                }
            }
            int printed = start + (needed + COPIES_A_MINUTE - 1) / COPIES_A_MINUTE;
            return Math.max(0, printed - minutes[number]);
        }

        /** Whether the other one is loaded first; trucks of the same minute go in the order of their numbers. */
        private boolean isAhead(int other, int number) {
            return minutes[other] < minutes[number] || (minutes[other] == minutes[number] && other < number);
        }
    }

    /** The words of the headline. */
    private static final class Headline {
        private final int[] longs;
        private final int[] shorts;
        private int count;

        Headline() {
            longs = new int[MOST_WORDS];
            shorts = new int[MOST_WORDS];
        }

        void add(int width, int narrow) {
            if (count >= 0 && count < MOST_WORDS) {
                longs[count] = width;
                shorts[count] = narrow;
                count++;
            }
        }

        /** 100 * the width + the words in their long form of the best way that is not too wide, or NONE. */
        int bestWithin(int width) {
            int best = NONE;
            int bestWidth = NONE;
            for (int set = 0; set < (1 << count); set++) {
                int itsWidth = widthOf(set);
                if (itsWidth > width || itsWidth < bestWidth) {
                    continue;
                }
                if (itsWidth > bestWidth || isLongFirst(set, best)) {
                    best = set;
                    bestWidth = itsWidth;
                }
            }
            return bestWidth == NONE ? NONE : 100 * bestWidth + best;
        }

        private int widthOf(int set) {
            int sum = count - 1;
            for (int i = 0; i < count && i < MOST_WORDS; i++) {
                sum += ((set >> i) & 1) == 1 ? longs[i] : shorts[i];
            }
            return sum;
        }

        /** Whether the set has the long form at the first word in which it differs from the other. */
        private static boolean isLongFirst(int set, int other) {
            int differing = set ^ other;
            return (set & differing & -differing) != 0;
        }
    }

    /** The texts of the wire that wait, in the order in which they came. */
    private static final class Wire {
        private final int[] words;
        private final int[] priorities;
        private int count;

        Wire() {
            words = new int[MOST_WAITING];
            priorities = new int[MOST_WAITING];
        }

        int firstAlike(int others) {
            for (int i = 0; i < count && i < MOST_WAITING; i++) {
                int common = Integer.bitCount(words[i] & others);
                if (common >= WORDS_ALIKE && 2 * common >= Integer.bitCount(words[i] | others)) {
                    return i;
                }
            }
            return NONE;
        }

        void merge(int at, int others, int priority) {
            if (at >= 0 && at < MOST_WAITING) {
                words[at] |= others;
                priorities[at] = Math.max(priorities[at], priority);
            }
        }

        void add(int itsWords, int priority) {
            if (count >= 0 && count < MOST_WAITING) {
                words[count] = itsWords;
                priorities[count] = priority;
                count++;
            }
        }

        int mostUrgent() {
            int best = 0;
            for (int i = 1; i < count && i < MOST_WAITING; i++) {
                if (priorities[i] > priorities[best]) {
                    best = i;
                }
            }
            return best;
        }

        int remove(int at) {
            if (at < 0 || at >= count || at >= MOST_WAITING) {
                return 0;
            }
            int itsWords = words[at];
            for (int i = at + 1; i < count && i < MOST_WAITING; i++) {
                words[i - 1] = words[i];
                priorities[i - 1] = priorities[i];
            }
            count--;
            return itsWords;
        }
    }

    /** The puzzle; rows, columns and quarters each keep the numbers used so far, as sets. */
    private static final class Puzzle {
        private final int[] given;
        private final int[] inRow;
        private final int[] inColumn;
        private final int[] inQuarter;

        Puzzle() {
            given = new int[PUZZLE_CELLS];
            inRow = new int[PUZZLE_SIDE];
            inColumn = new int[PUZZLE_SIDE];
            inQuarter = new int[PUZZLE_SIDE];
        }

        void setRow(int row, int digits) {
            if (row < 0 || row >= PUZZLE_SIDE) {
                return;
            }
            for (int column = 0; column < PUZZLE_SIDE; column++) {
                given[PUZZLE_SIDE * row + column] = digitAt(digits, PUZZLE_SIDE, column);
            }
        }

        int countSolutions() {
            return countFrom(this, 0);
        }

        /** Counts the ways to fill the cells from this one on; each level takes back what it has put. */
        private static int countFrom(Puzzle puzzle, int cell) {
            if (cell < 0 || cell >= PUZZLE_CELLS) {
                return 1;
            }
            int given = puzzle.given[cell];
            int lowest = given == 0 ? 1 : given;
            int highest = given == 0 ? PUZZLE_SIDE : given;
            int sum = 0;
            for (int number = lowest; number <= highest; number++) {
                if (puzzle.isOpen(cell, number)) {
                    puzzle.turn(cell, number);
                    sum += countFrom(puzzle, cell + 1);
                    puzzle.turn(cell, number);
                }
            }
            return sum;
        }

        private static int quarterOf(int row, int column) {
            return QUARTER_SIDE * (row / QUARTER_SIDE) + column / QUARTER_SIDE;
        }

        private boolean isOpen(int cell, int number) {
            int row = cell / PUZZLE_SIDE;
            int column = cell % PUZZLE_SIDE;
            int used = inRow[row] | inColumn[column] | inQuarter[quarterOf(row, column)];
            return ((used >> number) & 1) == 0;
        }

        /** Marks a number as used by a cell, or takes that mark back. */
        private void turn(int cell, int number) {
            int row = cell / PUZZLE_SIDE;
            int column = cell % PUZZLE_SIDE;
            inRow[row] ^= 1 << number;
            inColumn[column] ^= 1 << number;
            inQuarter[quarterOf(row, column)] ^= 1 << number;
        }
    }
}
